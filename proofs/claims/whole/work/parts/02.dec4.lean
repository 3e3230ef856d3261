theorem dX12_lossOf_54 : decode cX12_lossOf 54 = .ok (.goto 17, 3) := by decide +kernel
theorem dX12_lossOf_57 : decode cX12_lossOf 57 = .ok (.iconst 0, 1) := by decide +kernel
theorem dX12_lossOf_58 : decode cX12_lossOf 58 = .ok (.goto 13, 3) := by decide +kernel
theorem dX12_lossOf_61 : decode cX12_lossOf 61 = .ok (.iload_n 2, 1) := by decide +kernel
theorem dX12_lossOf_62 : decode cX12_lossOf 62 = .ok (.iconst 4, 1) := by decide +kernel
theorem dX12_lossOf_63 : decode cX12_lossOf 63 = .ok (.if_icmp .ne 7, 3) := by decide +kernel
theorem dX12_lossOf_66 : decode cX12_lossOf 66 = .ok (.iconst 1, 1) := by decide +kernel
theorem dX12_lossOf_67 : decode cX12_lossOf 67 = .ok (.goto 4, 3) := by decide +kernel
theorem dX12_lossOf_70 : decode cX12_lossOf 70 = .ok (.iconst 0, 1) := by decide +kernel
theorem dX12_lossOf_71 : decode cX12_lossOf 71 = .ok (.istore 4, 2) := by decide +kernel
theorem dX12_lossOf_73 : decode cX12_lossOf 73 = .ok (.iload 4, 2) := by decide +kernel
theorem dX12_lossOf_75 : decode cX12_lossOf 75 = .ok (.aload_n 0, 1) := by decide +kernel
theorem dX12_lossOf_76 : decode cX12_lossOf 76 = .ok (.bipush 24, 2) := by decide +kernel
theorem dX12_lossOf_78 : decode cX12_lossOf 78 = .ok (.iload_n 1, 1) := by decide +kernel
theorem dX12_lossOf_79 : decode cX12_lossOf 79 = .ok (.iadd, 1) := by decide +kernel
theorem dX12_lossOf_80 : decode cX12_lossOf 80 = .ok (.iaload, 1) := by decide +kernel
theorem dX12_lossOf_81 : decode cX12_lossOf 81 = .ok (.if_icmp .le 12, 3) := by decide +kernel
theorem dX12_lossOf_84 : decode cX12_lossOf 84 = .ok (.aload_n 0, 1) := by decide +kernel
theorem dX12_lossOf_85 : decode cX12_lossOf 85 = .ok (.bipush 24, 2) := by decide +kernel
theorem dX12_lossOf_87 : decode cX12_lossOf 87 = .ok (.iload_n 1, 1) := by decide +kernel
theorem dX12_lossOf_88 : decode cX12_lossOf 88 = .ok (.iadd, 1) := by decide +kernel
theorem dX12_lossOf_89 : decode cX12_lossOf 89 = .ok (.iaload, 1) := by decide +kernel
theorem dX12_lossOf_90 : decode cX12_lossOf 90 = .ok (.goto 5, 3) := by decide +kernel
theorem dX12_lossOf_93 : decode cX12_lossOf 93 = .ok (.iload 4, 2) := by decide +kernel
theorem dX12_lossOf_95 : decode cX12_lossOf 95 = .ok (.ireturn, 1) := by decide +kernel
theorem dX12_goBy_0 : decode cX12_goBy 0 = .ok (.aload_n 0, 1) := by decide +kernel
theorem dX12_goBy_1 : decode cX12_goBy 1 = .ok (.iconst 1, 1) := by decide +kernel
theorem dX12_goBy_2 : decode cX12_goBy 2 = .ok (.iaload, 1) := by decide +kernel
theorem dX12_goBy_3 : decode cX12_goBy 3 = .ok (.aload_n 0, 1) := by decide +kernel
theorem dX12_goBy_4 : decode cX12_goBy 4 = .ok (.invokestatic 147, 3) := by decide +kernel
theorem dX12_goBy_7 : decode cX12_goBy 7 = .ok (.iadd, 1) := by decide +kernel
theorem dX12_goBy_8 : decode cX12_goBy 8 = .ok (.istore_n 2, 1) := by decide +kernel
theorem dX12_goBy_9 : decode cX12_goBy 9 = .ok (.aload_n 0, 1) := by decide +kernel
theorem dX12_goBy_10 : decode cX12_goBy 10 = .ok (.iconst 1, 1) := by decide +kernel
theorem dX12_goBy_11 : decode cX12_goBy 11 = .ok (.iload_n 2, 1) := by decide +kernel
theorem dX12_goBy_12 : decode cX12_goBy 12 = .ok (.sipush 9999, 3) := by decide +kernel
theorem dX12_goBy_15 : decode cX12_goBy 15 = .ok (.if_icmp .le 9, 3) := by decide +kernel
theorem dX12_goBy_18 : decode cX12_goBy 18 = .ok (.sipush 9999, 3) := by decide +kernel
theorem dX12_goBy_21 : decode cX12_goBy 21 = .ok (.goto 4, 3) := by decide +kernel
theorem dX12_goBy_24 : decode cX12_goBy 24 = .ok (.iload_n 2, 1) := by decide +kernel
theorem dX12_goBy_25 : decode cX12_goBy 25 = .ok (.iastore, 1) := by decide +kernel
theorem dX12_goBy_26 : decode cX12_goBy 26 = .ok (.iconst 0, 1) := by decide +kernel
theorem dX12_goBy_27 : decode cX12_goBy 27 = .ok (.istore_n 3, 1) := by decide +kernel
theorem dX12_goBy_28 : decode cX12_goBy 28 = .ok (.iload_n 3, 1) := by decide +kernel
theorem dX12_goBy_29 : decode cX12_goBy 29 = .ok (.aload_n 0, 1) := by decide +kernel
theorem dX12_goBy_30 : decode cX12_goBy 30 = .ok (.iconst 3, 1) := by decide +kernel
theorem dX12_goBy_31 : decode cX12_goBy 31 = .ok (.iaload, 1) := by decide +kernel
theorem dX12_goBy_32 : decode cX12_goBy 32 = .ok (.if_icmp .ge 24, 3) := by decide +kernel
theorem dX12_goBy_35 : decode cX12_goBy 35 = .ok (.aload_n 0, 1) := by decide +kernel
theorem dX12_goBy_36 : decode cX12_goBy 36 = .ok (.bipush 24, 2) := by decide +kernel
theorem dX12_goBy_38 : decode cX12_goBy 38 = .ok (.iload_n 3, 1) := by decide +kernel
theorem dX12_goBy_39 : decode cX12_goBy 39 = .ok (.iadd, 1) := by decide +kernel
theorem dX12_goBy_40 : decode cX12_goBy 40 = .ok (.dup2, 1) := by decide +kernel
theorem dX12_goBy_41 : decode cX12_goBy 41 = .ok (.iaload, 1) := by decide +kernel
theorem dX12_goBy_42 : decode cX12_goBy 42 = .ok (.aload_n 0, 1) := by decide +kernel
theorem dX12_goBy_43 : decode cX12_goBy 43 = .ok (.iload_n 3, 1) := by decide +kernel
theorem dX12_goBy_44 : decode cX12_goBy 44 = .ok (.iload_n 1, 1) := by decide +kernel
theorem dX12_goBy_45 : decode cX12_goBy 45 = .ok (.invokestatic 151, 3) := by decide +kernel
theorem dX12_goBy_48 : decode cX12_goBy 48 = .ok (.isub, 1) := by decide +kernel
theorem dX12_goBy_49 : decode cX12_goBy 49 = .ok (.iastore, 1) := by decide +kernel
theorem dX12_goBy_50 : decode cX12_goBy 50 = .ok (.iinc 3 1, 3) := by decide +kernel
theorem dX12_goBy_53 : decode cX12_goBy 53 = .ok (.goto (-25), 3) := by decide +kernel
theorem dX12_goBy_56 : decode cX12_goBy 56 = .ok (.aload_n 0, 1) := by decide +kernel
theorem dX12_goBy_57 : decode cX12_goBy 57 = .ok (.iconst 0, 1) := by decide +kernel
theorem dX12_goBy_58 : decode cX12_goBy 58 = .ok (.dup2, 1) := by decide +kernel
theorem dX12_goBy_59 : decode cX12_goBy 59 = .ok (.iaload, 1) := by decide +kernel
theorem dX12_goBy_60 : decode cX12_goBy 60 = .ok (.iconst 1, 1) := by decide +kernel
theorem dX12_goBy_61 : decode cX12_goBy 61 = .ok (.iadd, 1) := by decide +kernel
theorem dX12_goBy_62 : decode cX12_goBy 62 = .ok (.iastore, 1) := by decide +kernel
theorem dX12_goBy_63 : decode cX12_goBy 63 = .ok (.return_, 1) := by decide +kernel
theorem dX12_seasons_0 : decode cX12_seasons 0 = .ok (.aload_n 0, 1) := by decide +kernel
theorem dX12_seasons_1 : decode cX12_seasons 1 = .ok (.invokevirtual 154, 3) := by decide +kernel
theorem dX12_seasons_4 : decode cX12_seasons 4 = .ok (.ifCond .ne 6, 3) := by decide +kernel
theorem dX12_seasons_7 : decode cX12_seasons 7 = .ok (.ldc 157, 2) := by decide +kernel
theorem dX12_seasons_9 : decode cX12_seasons 9 = .ok (.ireturn, 1) := by decide +kernel
theorem dX12_seasons_10 : decode cX12_seasons 10 = .ok (.iload_n 1, 1) := by decide +kernel
theorem dX12_seasons_11 : decode cX12_seasons 11 = .ok (.iconst 1, 1) := by decide +kernel
theorem dX12_seasons_12 : decode cX12_seasons 12 = .ok (.bipush 24, 2) := by decide +kernel
theorem dX12_seasons_14 : decode cX12_seasons 14 = .ok (.invokestatic 53, 3) := by decide +kernel
theorem dX12_seasons_17 : decode cX12_seasons 17 = .ok (.ifCond .ne 6, 3) := by decide +kernel
theorem dX12_seasons_20 : decode cX12_seasons 20 = .ok (.ldc 66, 2) := by decide +kernel
theorem dX12_seasons_22 : decode cX12_seasons 22 = .ok (.ireturn, 1) := by decide +kernel
theorem dX12_seasons_23 : decode cX12_seasons 23 = .ok (.aload_n 0, 1) := by decide +kernel
theorem dX12_seasons_24 : decode cX12_seasons 24 = .ok (.getfield 22, 3) := by decide +kernel
theorem dX12_seasons_27 : decode cX12_seasons 27 = .ok (.iconst 0, 1) := by decide +kernel
theorem dX12_seasons_28 : decode cX12_seasons 28 = .ok (.iaload, 1) := by decide +kernel
theorem dX12_seasons_29 : decode cX12_seasons 29 = .ok (.iload_n 1, 1) := by decide +kernel
theorem dX12_seasons_30 : decode cX12_seasons 30 = .ok (.iadd, 1) := by decide +kernel
theorem dX12_seasons_31 : decode cX12_seasons 31 = .ok (.sipush 999, 3) := by decide +kernel
theorem dX12_seasons_34 : decode cX12_seasons 34 = .ok (.if_icmp .le 6, 3) := by decide +kernel
theorem dX12_seasons_37 : decode cX12_seasons 37 = .ok (.ldc 80, 2) := by decide +kernel
theorem dX12_seasons_39 : decode cX12_seasons 39 = .ok (.ireturn, 1) := by decide +kernel
theorem dX12_seasons_40 : decode cX12_seasons 40 = .ok (.iconst 0, 1) := by decide +kernel
theorem dX12_seasons_41 : decode cX12_seasons 41 = .ok (.istore_n 2, 1) := by decide +kernel
theorem dX12_seasons_42 : decode cX12_seasons 42 = .ok (.iload_n 2, 1) := by decide +kernel
theorem dX12_seasons_43 : decode cX12_seasons 43 = .ok (.iload_n 1, 1) := by decide +kernel
theorem dX12_seasons_44 : decode cX12_seasons 44 = .ok (.if_icmp .ge 27, 3) := by decide +kernel
theorem dX12_seasons_47 : decode cX12_seasons 47 = .ok (.aload_n 0, 1) := by decide +kernel
theorem dX12_seasons_48 : decode cX12_seasons 48 = .ok (.invokevirtual 158, 3) := by decide +kernel
theorem dX12_seasons_51 : decode cX12_seasons 51 = .ok (.aload_n 0, 1) := by decide +kernel
theorem dX12_seasons_52 : decode cX12_seasons 52 = .ok (.getfield 22, 3) := by decide +kernel
theorem dX12_seasons_55 : decode cX12_seasons 55 = .ok (.aload_n 0, 1) := by decide +kernel
theorem dX12_seasons_56 : decode cX12_seasons 56 = .ok (.getfield 22, 3) := by decide +kernel
theorem dX12_seasons_59 : decode cX12_seasons 59 = .ok (.invokestatic 161, 3) := by decide +kernel
theorem dX12_seasons_62 : decode cX12_seasons 62 = .ok (.invokestatic 164, 3) := by decide +kernel
theorem dX12_seasons_65 : decode cX12_seasons 65 = .ok (.iinc 2 1, 3) := by decide +kernel
theorem dX12_seasons_68 : decode cX12_seasons 68 = .ok (.goto (-26), 3) := by decide +kernel
theorem dX12_seasons_71 : decode cX12_seasons 71 = .ok (.aload_n 0, 1) := by decide +kernel
theorem dX12_seasons_72 : decode cX12_seasons 72 = .ok (.getfield 22, 3) := by decide +kernel
theorem dX12_seasons_75 : decode cX12_seasons 75 = .ok (.iconst 1, 1) := by decide +kernel
theorem dX12_seasons_76 : decode cX12_seasons 76 = .ok (.iaload, 1) := by decide +kernel
theorem dX12_seasons_77 : decode cX12_seasons 77 = .ok (.ireturn, 1) := by decide +kernel
theorem dX12_build_0 : decode cX12_build 0 = .ok (.aload_n 0, 1) := by decide +kernel
theorem dX12_build_1 : decode cX12_build 1 = .ok (.iload_n 1, 1) := by decide +kernel
theorem dX12_build_2 : decode cX12_build 2 = .ok (.invokevirtual 168, 3) := by decide +kernel
theorem dX12_build_5 : decode cX12_build 5 = .ok (.ifCond .ne 6, 3) := by decide +kernel
theorem dX12_build_8 : decode cX12_build 8 = .ok (.ldc 66, 2) := by decide +kernel
theorem dX12_build_10 : decode cX12_build 10 = .ok (.ireturn, 1) := by decide +kernel
theorem dX12_build_11 : decode cX12_build 11 = .ok (.aload_n 0, 1) := by decide +kernel
theorem dX12_build_12 : decode cX12_build 12 = .ok (.getfield 22, 3) := by decide +kernel
theorem dX12_build_15 : decode cX12_build 15 = .ok (.iconst 2, 1) := by decide +kernel
theorem dX12_build_16 : decode cX12_build 16 = .ok (.iaload, 1) := by decide +kernel
theorem dX12_build_17 : decode cX12_build 17 = .ok (.ifCond .ne 6, 3) := by decide +kernel
theorem dX12_build_20 : decode cX12_build 20 = .ok (.ldc 157, 2) := by decide +kernel
theorem dX12_build_22 : decode cX12_build 22 = .ok (.ireturn, 1) := by decide +kernel
theorem dX12_build_23 : decode cX12_build 23 = .ok (.aload_n 0, 1) := by decide +kernel
theorem dX12_build_24 : decode cX12_build 24 = .ok (.getfield 22, 3) := by decide +kernel
theorem dX12_build_27 : decode cX12_build 27 = .ok (.bipush 24, 2) := by decide +kernel
theorem dX12_build_29 : decode cX12_build 29 = .ok (.iload_n 1, 1) := by decide +kernel
theorem dX12_build_30 : decode cX12_build 30 = .ok (.iadd, 1) := by decide +kernel
theorem dX12_build_31 : decode cX12_build 31 = .ok (.iaload, 1) := by decide +kernel
theorem dX12_build_32 : decode cX12_build 32 = .ok (.bipush 99, 2) := by decide +kernel
theorem dX12_build_34 : decode cX12_build 34 = .ok (.if_icmp .ne 6, 3) := by decide +kernel
theorem dX12_build_37 : decode cX12_build 37 = .ok (.ldc 80, 2) := by decide +kernel
theorem dX12_build_39 : decode cX12_build 39 = .ok (.ireturn, 1) := by decide +kernel
theorem dX12_build_40 : decode cX12_build 40 = .ok (.aload_n 0, 1) := by decide +kernel
theorem dX12_build_41 : decode cX12_build 41 = .ok (.invokevirtual 158, 3) := by decide +kernel
theorem dX12_build_44 : decode cX12_build 44 = .ok (.aload_n 0, 1) := by decide +kernel
theorem dX12_build_45 : decode cX12_build 45 = .ok (.getfield 22, 3) := by decide +kernel
theorem dX12_build_48 : decode cX12_build 48 = .ok (.iconst 2, 1) := by decide +kernel
theorem dX12_build_49 : decode cX12_build 49 = .ok (.dup2, 1) := by decide +kernel
theorem dX12_build_50 : decode cX12_build 50 = .ok (.iaload, 1) := by decide +kernel
theorem dX12_build_51 : decode cX12_build 51 = .ok (.iconst 1, 1) := by decide +kernel
theorem dX12_build_52 : decode cX12_build 52 = .ok (.isub, 1) := by decide +kernel
theorem dX12_build_53 : decode cX12_build 53 = .ok (.iastore, 1) := by decide +kernel
theorem dX12_build_54 : decode cX12_build 54 = .ok (.aload_n 0, 1) := by decide +kernel
theorem dX12_build_55 : decode cX12_build 55 = .ok (.getfield 22, 3) := by decide +kernel
theorem dX12_build_58 : decode cX12_build 58 = .ok (.bipush 24, 2) := by decide +kernel
theorem dX12_build_60 : decode cX12_build 60 = .ok (.iload_n 1, 1) := by decide +kernel
theorem dX12_build_61 : decode cX12_build 61 = .ok (.iadd, 1) := by decide +kernel
theorem dX12_build_62 : decode cX12_build 62 = .ok (.dup2, 1) := by decide +kernel
theorem dX12_build_63 : decode cX12_build 63 = .ok (.iaload, 1) := by decide +kernel
theorem dX12_build_64 : decode cX12_build 64 = .ok (.iconst 1, 1) := by decide +kernel
theorem dX12_build_65 : decode cX12_build 65 = .ok (.iadd, 1) := by decide +kernel
theorem dX12_build_66 : decode cX12_build 66 = .ok (.iastore, 1) := by decide +kernel
theorem dX12_build_67 : decode cX12_build 67 = .ok (.aload_n 0, 1) := by decide +kernel
theorem dX12_build_68 : decode cX12_build 68 = .ok (.getfield 22, 3) := by decide +kernel
theorem dX12_build_71 : decode cX12_build 71 = .ok (.bipush 24, 2) := by decide +kernel
theorem dX12_build_73 : decode cX12_build 73 = .ok (.iload_n 1, 1) := by decide +kernel
theorem dX12_build_74 : decode cX12_build 74 = .ok (.iadd, 1) := by decide +kernel
theorem dX12_build_75 : decode cX12_build 75 = .ok (.iaload, 1) := by decide +kernel
theorem dX12_build_76 : decode cX12_build 76 = .ok (.ireturn, 1) := by decide +kernel
theorem dX12_turn_0 : decode cX12_turn 0 = .ok (.aload_n 0, 1) := by decide +kernel
theorem dX12_turn_1 : decode cX12_turn 1 = .ok (.iload_n 1, 1) := by decide +kernel
theorem dX12_turn_2 : decode cX12_turn 2 = .ok (.invokevirtual 168, 3) := by decide +kernel
theorem dX12_turn_5 : decode cX12_turn 5 = .ok (.ifCond .eq 12, 3) := by decide +kernel
theorem dX12_turn_8 : decode cX12_turn 8 = .ok (.iload_n 2, 1) := by decide +kernel
theorem dX12_turn_9 : decode cX12_turn 9 = .ok (.iconst 0, 1) := by decide +kernel
theorem dX12_turn_10 : decode cX12_turn 10 = .ok (.iconst 2, 1) := by decide +kernel
theorem dX12_turn_11 : decode cX12_turn 11 = .ok (.invokestatic 53, 3) := by decide +kernel
theorem dX12_turn_14 : decode cX12_turn 14 = .ok (.ifCond .ne 6, 3) := by decide +kernel
theorem dX12_turn_17 : decode cX12_turn 17 = .ok (.ldc 66, 2) := by decide +kernel
theorem dX12_turn_19 : decode cX12_turn 19 = .ok (.ireturn, 1) := by decide +kernel
theorem dX12_turn_20 : decode cX12_turn 20 = .ok (.aload_n 0, 1) := by decide +kernel
theorem dX12_turn_21 : decode cX12_turn 21 = .ok (.getfield 22, 3) := by decide +kernel
theorem dX12_turn_24 : decode cX12_turn 24 = .ok (.bipush 19, 2) := by decide +kernel
theorem dX12_turn_26 : decode cX12_turn 26 = .ok (.iload_n 1, 1) := by decide +kernel
theorem dX12_turn_27 : decode cX12_turn 27 = .ok (.iadd, 1) := by decide +kernel
theorem dX12_turn_28 : decode cX12_turn 28 = .ok (.iaload, 1) := by decide +kernel
theorem dX12_turn_29 : decode cX12_turn 29 = .ok (.iload_n 2, 1) := by decide +kernel
theorem dX12_turn_30 : decode cX12_turn 30 = .ok (.if_icmp .ne 6, 3) := by decide +kernel
theorem dX12_turn_33 : decode cX12_turn 33 = .ok (.ldc 157, 2) := by decide +kernel
theorem dX12_turn_35 : decode cX12_turn 35 = .ok (.ireturn, 1) := by decide +kernel
theorem dX12_turn_36 : decode cX12_turn 36 = .ok (.aload_n 0, 1) := by decide +kernel
theorem dX12_turn_37 : decode cX12_turn 37 = .ok (.invokevirtual 158, 3) := by decide +kernel
theorem dX12_turn_40 : decode cX12_turn 40 = .ok (.aload_n 0, 1) := by decide +kernel
theorem dX12_turn_41 : decode cX12_turn 41 = .ok (.getfield 22, 3) := by decide +kernel
theorem dX12_turn_44 : decode cX12_turn 44 = .ok (.bipush 19, 2) := by decide +kernel
theorem dX12_turn_46 : decode cX12_turn 46 = .ok (.iload_n 1, 1) := by decide +kernel
theorem dX12_turn_47 : decode cX12_turn 47 = .ok (.iadd, 1) := by decide +kernel
theorem dX12_turn_48 : decode cX12_turn 48 = .ok (.iaload, 1) := by decide +kernel
theorem dX12_turn_49 : decode cX12_turn 49 = .ok (.istore_n 3, 1) := by decide +kernel
theorem dX12_turn_50 : decode cX12_turn 50 = .ok (.aload_n 0, 1) := by decide +kernel
theorem dX12_turn_51 : decode cX12_turn 51 = .ok (.getfield 22, 3) := by decide +kernel
theorem dX12_turn_54 : decode cX12_turn 54 = .ok (.bipush 19, 2) := by decide +kernel
theorem dX12_turn_56 : decode cX12_turn 56 = .ok (.iload_n 1, 1) := by decide +kernel
theorem dX12_turn_57 : decode cX12_turn 57 = .ok (.iadd, 1) := by decide +kernel
theorem dX12_turn_58 : decode cX12_turn 58 = .ok (.iload_n 2, 1) := by decide +kernel
theorem dX12_turn_59 : decode cX12_turn 59 = .ok (.iastore, 1) := by decide +kernel
theorem dX12_turn_60 : decode cX12_turn 60 = .ok (.iload_n 3, 1) := by decide +kernel
theorem dX12_turn_61 : decode cX12_turn 61 = .ok (.ireturn, 1) := by decide +kernel
theorem dX12_buy_0 : decode cX12_buy 0 = .ok (.aload_n 0, 1) := by decide +kernel
theorem dX12_buy_1 : decode cX12_buy 1 = .ok (.invokevirtual 154, 3) := by decide +kernel
theorem dX12_buy_4 : decode cX12_buy 4 = .ok (.ifCond .ne 6, 3) := by decide +kernel
theorem dX12_buy_7 : decode cX12_buy 7 = .ok (.ldc 157, 2) := by decide +kernel
theorem dX12_buy_9 : decode cX12_buy 9 = .ok (.ireturn, 1) := by decide +kernel
theorem dX12_buy_10 : decode cX12_buy 10 = .ok (.iload_n 1, 1) := by decide +kernel
theorem dX12_buy_11 : decode cX12_buy 11 = .ok (.iconst 1, 1) := by decide +kernel
theorem dX12_buy_12 : decode cX12_buy 12 = .ok (.bipush 20, 2) := by decide +kernel
theorem dX12_buy_14 : decode cX12_buy 14 = .ok (.invokestatic 53, 3) := by decide +kernel
theorem dX12_buy_17 : decode cX12_buy 17 = .ok (.ifCond .ne 6, 3) := by decide +kernel
theorem dX12_buy_20 : decode cX12_buy 20 = .ok (.ldc 66, 2) := by decide +kernel
theorem dX12_buy_22 : decode cX12_buy 22 = .ok (.ireturn, 1) := by decide +kernel
theorem dX12_buy_23 : decode cX12_buy 23 = .ok (.aload_n 0, 1) := by decide +kernel
theorem dX12_buy_24 : decode cX12_buy 24 = .ok (.getfield 22, 3) := by decide +kernel
theorem dX12_buy_27 : decode cX12_buy 27 = .ok (.iconst 1, 1) := by decide +kernel
theorem dX12_buy_28 : decode cX12_buy 28 = .ok (.iaload, 1) := by decide +kernel
theorem dX12_buy_29 : decode cX12_buy 29 = .ok (.iconst 5, 1) := by decide +kernel
theorem dX12_buy_30 : decode cX12_buy 30 = .ok (.iload_n 1, 1) := by decide +kernel
theorem dX12_buy_31 : decode cX12_buy 31 = .ok (.imul, 1) := by decide +kernel
theorem dX12_buy_32 : decode cX12_buy 32 = .ok (.if_icmp .ge 6, 3) := by decide +kernel
theorem dX12_buy_35 : decode cX12_buy 35 = .ok (.ldc 157, 2) := by decide +kernel
theorem dX12_buy_37 : decode cX12_buy 37 = .ok (.ireturn, 1) := by decide +kernel
theorem dX12_buy_38 : decode cX12_buy 38 = .ok (.aload_n 0, 1) := by decide +kernel
theorem dX12_buy_39 : decode cX12_buy 39 = .ok (.getfield 22, 3) := by decide +kernel
theorem dX12_buy_42 : decode cX12_buy 42 = .ok (.iconst 2, 1) := by decide +kernel
theorem dX12_buy_43 : decode cX12_buy 43 = .ok (.iaload, 1) := by decide +kernel
theorem dX12_buy_44 : decode cX12_buy 44 = .ok (.iload_n 1, 1) := by decide +kernel
theorem dX12_buy_45 : decode cX12_buy 45 = .ok (.iadd, 1) := by decide +kernel
theorem dX12_buy_46 : decode cX12_buy 46 = .ok (.bipush 99, 2) := by decide +kernel
theorem dX12_buy_48 : decode cX12_buy 48 = .ok (.if_icmp .le 6, 3) := by decide +kernel
theorem dX12_buy_51 : decode cX12_buy 51 = .ok (.ldc 80, 2) := by decide +kernel
theorem dX12_buy_53 : decode cX12_buy 53 = .ok (.ireturn, 1) := by decide +kernel
theorem dX12_buy_54 : decode cX12_buy 54 = .ok (.aload_n 0, 1) := by decide +kernel
theorem dX12_buy_55 : decode cX12_buy 55 = .ok (.invokevirtual 158, 3) := by decide +kernel
theorem dX12_buy_58 : decode cX12_buy 58 = .ok (.aload_n 0, 1) := by decide +kernel
theorem dX12_buy_59 : decode cX12_buy 59 = .ok (.getfield 22, 3) := by decide +kernel
theorem dX12_buy_62 : decode cX12_buy 62 = .ok (.iconst 1, 1) := by decide +kernel
theorem dX12_buy_63 : decode cX12_buy 63 = .ok (.dup2, 1) := by decide +kernel
theorem dX12_buy_64 : decode cX12_buy 64 = .ok (.iaload, 1) := by decide +kernel
theorem dX12_buy_65 : decode cX12_buy 65 = .ok (.iconst 5, 1) := by decide +kernel
theorem dX12_buy_66 : decode cX12_buy 66 = .ok (.iload_n 1, 1) := by decide +kernel
theorem dX12_buy_67 : decode cX12_buy 67 = .ok (.imul, 1) := by decide +kernel
theorem dX12_buy_68 : decode cX12_buy 68 = .ok (.isub, 1) := by decide +kernel
theorem dX12_buy_69 : decode cX12_buy 69 = .ok (.iastore, 1) := by decide +kernel
theorem dX12_buy_70 : decode cX12_buy 70 = .ok (.aload_n 0, 1) := by decide +kernel
theorem dX12_buy_71 : decode cX12_buy 71 = .ok (.getfield 22, 3) := by decide +kernel
theorem dX12_buy_74 : decode cX12_buy 74 = .ok (.iconst 2, 1) := by decide +kernel
theorem dX12_buy_75 : decode cX12_buy 75 = .ok (.dup2, 1) := by decide +kernel
theorem dX12_buy_76 : decode cX12_buy 76 = .ok (.iaload, 1) := by decide +kernel
theorem dX12_buy_77 : decode cX12_buy 77 = .ok (.iload_n 1, 1) := by decide +kernel
theorem dX12_buy_78 : decode cX12_buy 78 = .ok (.iadd, 1) := by decide +kernel
theorem dX12_buy_79 : decode cX12_buy 79 = .ok (.iastore, 1) := by decide +kernel
theorem dX12_buy_80 : decode cX12_buy 80 = .ok (.aload_n 0, 1) := by decide +kernel
theorem dX12_buy_81 : decode cX12_buy 81 = .ok (.getfield 22, 3) := by decide +kernel
theorem dX12_buy_84 : decode cX12_buy 84 = .ok (.iconst 2, 1) := by decide +kernel
theorem dX12_buy_85 : decode cX12_buy 85 = .ok (.iaload, 1) := by decide +kernel
theorem dX12_buy_86 : decode cX12_buy 86 = .ok (.ireturn, 1) := by decide +kernel
theorem dX12_undo_0 : decode cX12_undo 0 = .ok (.aload_n 0, 1) := by decide +kernel
theorem dX12_undo_1 : decode cX12_undo 1 = .ok (.getfield 133, 3) := by decide +kernel
theorem dX12_undo_4 : decode cX12_undo 4 = .ok (.ifCond .ne 6, 3) := by decide +kernel
theorem dX12_undo_7 : decode cX12_undo 7 = .ok (.ldc 157, 2) := by decide +kernel
theorem dX12_undo_9 : decode cX12_undo 9 = .ok (.ireturn, 1) := by decide +kernel
theorem dX12_undo_10 : decode cX12_undo 10 = .ok (.aload_n 0, 1) := by decide +kernel
theorem dX12_undo_11 : decode cX12_undo 11 = .ok (.dup, 1) := by decide +kernel
theorem dX12_undo_12 : decode cX12_undo 12 = .ok (.getfield 133, 3) := by decide +kernel
theorem dX12_undo_15 : decode cX12_undo 15 = .ok (.iconst 1, 1) := by decide +kernel
theorem dX12_undo_16 : decode cX12_undo 16 = .ok (.isub, 1) := by decide +kernel
theorem dX12_undo_17 : decode cX12_undo 17 = .ok (.putfield 133, 3) := by decide +kernel
theorem dX12_undo_20 : decode cX12_undo 20 = .ok (.aload_n 0, 1) := by decide +kernel
theorem dX12_undo_21 : decode cX12_undo 21 = .ok (.getfield 38, 3) := by decide +kernel
theorem dX12_undo_24 : decode cX12_undo 24 = .ok (.bipush 29, 2) := by decide +kernel
theorem dX12_undo_26 : decode cX12_undo 26 = .ok (.aload_n 0, 1) := by decide +kernel
theorem dX12_undo_27 : decode cX12_undo 27 = .ok (.getfield 133, 3) := by decide +kernel
theorem dX12_undo_30 : decode cX12_undo 30 = .ok (.imul, 1) := by decide +kernel
theorem dX12_undo_31 : decode cX12_undo 31 = .ok (.aload_n 0, 1) := by decide +kernel
theorem dX12_undo_32 : decode cX12_undo 32 = .ok (.getfield 22, 3) := by decide +kernel
theorem dX12_undo_35 : decode cX12_undo 35 = .ok (.iconst 0, 1) := by decide +kernel
theorem dX12_undo_36 : decode cX12_undo 36 = .ok (.invokestatic 129, 3) := by decide +kernel
theorem dX12_undo_39 : decode cX12_undo 39 = .ok (.aload_n 0, 1) := by decide +kernel
theorem dX12_undo_40 : decode cX12_undo 40 = .ok (.getfield 133, 3) := by decide +kernel
theorem dX12_undo_43 : decode cX12_undo 43 = .ok (.ireturn, 1) := by decide +kernel
theorem dX12_pier_0 : decode cX12_pier 0 = .ok (.aload_n 0, 1) := by decide +kernel
theorem dX12_pier_1 : decode cX12_pier 1 = .ok (.iload_n 1, 1) := by decide +kernel
theorem dX12_pier_2 : decode cX12_pier 2 = .ok (.invokevirtual 168, 3) := by decide +kernel
theorem dX12_pier_5 : decode cX12_pier 5 = .ok (.ifCond .ne 6, 3) := by decide +kernel
theorem dX12_pier_8 : decode cX12_pier 8 = .ok (.ldc 66, 2) := by decide +kernel
theorem dX12_pier_10 : decode cX12_pier 10 = .ok (.ireturn, 1) := by decide +kernel
theorem dX12_pier_11 : decode cX12_pier 11 = .ok (.iload_n 2, 1) := by decide +kernel
theorem dX12_pier_12 : decode cX12_pier 12 = .ok (.tableswitch 113 0 5 #[40, 50, 60, 70, 88, 97], 40) := by decide +kernel
theorem dX12_pier_52 : decode cX12_pier 52 = .ok (.aload_n 0, 1) := by decide +kernel
theorem dX12_pier_53 : decode cX12_pier 53 = .ok (.getfield 22, 3) := by decide +kernel
theorem dX12_pier_56 : decode cX12_pier 56 = .ok (.bipush 14, 2) := by decide +kernel
theorem dX12_pier_58 : decode cX12_pier 58 = .ok (.iload_n 1, 1) := by decide +kernel
theorem dX12_pier_59 : decode cX12_pier 59 = .ok (.iadd, 1) := by decide +kernel
theorem dX12_pier_60 : decode cX12_pier 60 = .ok (.iaload, 1) := by decide +kernel
theorem dX12_pier_61 : decode cX12_pier 61 = .ok (.ireturn, 1) := by decide +kernel
theorem dX12_pier_62 : decode cX12_pier 62 = .ok (.aload_n 0, 1) := by decide +kernel
theorem dX12_pier_63 : decode cX12_pier 63 = .ok (.getfield 22, 3) := by decide +kernel
theorem dX12_pier_66 : decode cX12_pier 66 = .ok (.bipush 19, 2) := by decide +kernel
theorem dX12_pier_68 : decode cX12_pier 68 = .ok (.iload_n 1, 1) := by decide +kernel
theorem dX12_pier_69 : decode cX12_pier 69 = .ok (.iadd, 1) := by decide +kernel
theorem dX12_pier_70 : decode cX12_pier 70 = .ok (.iaload, 1) := by decide +kernel
theorem dX12_pier_71 : decode cX12_pier 71 = .ok (.ireturn, 1) := by decide +kernel
theorem dX12_pier_72 : decode cX12_pier 72 = .ok (.aload_n 0, 1) := by decide +kernel
theorem dX12_pier_73 : decode cX12_pier 73 = .ok (.getfield 22, 3) := by decide +kernel
theorem dX12_pier_76 : decode cX12_pier 76 = .ok (.bipush 24, 2) := by decide +kernel
theorem dX12_pier_78 : decode cX12_pier 78 = .ok (.iload_n 1, 1) := by decide +kernel
theorem dX12_pier_79 : decode cX12_pier 79 = .ok (.iadd, 1) := by decide +kernel
theorem dX12_pier_80 : decode cX12_pier 80 = .ok (.iaload, 1) := by decide +kernel
theorem dX12_pier_81 : decode cX12_pier 81 = .ok (.ireturn, 1) := by decide +kernel
theorem dX12_pier_82 : decode cX12_pier 82 = .ok (.aload_n 0, 1) := by decide +kernel
theorem dX12_pier_83 : decode cX12_pier 83 = .ok (.getfield 22, 3) := by decide +kernel
theorem dX12_pier_86 : decode cX12_pier 86 = .ok (.iload_n 1, 1) := by decide +kernel
theorem dX12_pier_87 : decode cX12_pier 87 = .ok (.aload_n 0, 1) := by decide +kernel
theorem dX12_pier_88 : decode cX12_pier 88 = .ok (.getfield 22, 3) := by decide +kernel
theorem dX12_pier_91 : decode cX12_pier 91 = .ok (.bipush 24, 2) := by decide +kernel
theorem dX12_pier_93 : decode cX12_pier 93 = .ok (.iload_n 1, 1) := by decide +kernel
theorem dX12_pier_94 : decode cX12_pier 94 = .ok (.iadd, 1) := by decide +kernel
theorem dX12_pier_95 : decode cX12_pier 95 = .ok (.iaload, 1) := by decide +kernel
theorem dX12_pier_96 : decode cX12_pier 96 = .ok (.invokestatic 136, 3) := by decide +kernel
theorem dX12_pier_99 : decode cX12_pier 99 = .ok (.ireturn, 1) := by decide +kernel
theorem dX12_pier_100 : decode cX12_pier 100 = .ok (.aload_n 0, 1) := by decide +kernel
theorem dX12_pier_101 : decode cX12_pier 101 = .ok (.getfield 22, 3) := by decide +kernel
theorem dX12_pier_104 : decode cX12_pier 104 = .ok (.iload_n 1, 1) := by decide +kernel
theorem dX12_pier_105 : decode cX12_pier 105 = .ok (.invokestatic 143, 3) := by decide +kernel
theorem dX12_pier_108 : decode cX12_pier 108 = .ok (.ireturn, 1) := by decide +kernel
theorem dX12_pier_109 : decode cX12_pier 109 = .ok (.aload_n 0, 1) := by decide +kernel
theorem dX12_pier_110 : decode cX12_pier 110 = .ok (.getfield 22, 3) := by decide +kernel
theorem dX12_pier_113 : decode cX12_pier 113 = .ok (.iload_n 1, 1) := by decide +kernel
theorem dX12_pier_114 : decode cX12_pier 114 = .ok (.aload_n 0, 1) := by decide +kernel
theorem dX12_pier_115 : decode cX12_pier 115 = .ok (.getfield 22, 3) := by decide +kernel
theorem dX12_pier_118 : decode cX12_pier 118 = .ok (.invokestatic 161, 3) := by decide +kernel
theorem dX12_pier_121 : decode cX12_pier 121 = .ok (.invokestatic 151, 3) := by decide +kernel
theorem dX12_pier_124 : decode cX12_pier 124 = .ok (.ireturn, 1) := by decide +kernel
theorem dX12_pier_125 : decode cX12_pier 125 = .ok (.ldc 66, 2) := by decide +kernel
theorem dX12_pier_127 : decode cX12_pier 127 = .ok (.ireturn, 1) := by decide +kernel
theorem dX12_begin_0 : decode cX12_begin 0 = .ok (.aload_n 0, 1) := by decide +kernel
theorem dX12_begin_1 : decode cX12_begin 1 = .ok (.getfield 22, 3) := by decide +kernel
theorem dX12_begin_4 : decode cX12_begin 4 = .ok (.iconst 0, 1) := by decide +kernel
theorem dX12_begin_5 : decode cX12_begin 5 = .ok (.aload_n 0, 1) := by decide +kernel
theorem dX12_begin_6 : decode cX12_begin 6 = .ok (.getfield 28, 3) := by decide +kernel
theorem dX12_begin_9 : decode cX12_begin 9 = .ok (.iconst 0, 1) := by decide +kernel
theorem dX12_begin_10 : decode cX12_begin 10 = .ok (.invokestatic 129, 3) := by decide +kernel
theorem dX12_begin_13 : decode cX12_begin 13 = .ok (.return_, 1) := by decide +kernel
theorem dX12_goOn_0 : decode cX12_goOn 0 = .ok (.iconst 0, 1) := by decide +kernel
theorem dX12_goOn_1 : decode cX12_goOn 1 = .ok (.istore_n 2, 1) := by decide +kernel
theorem dX12_goOn_2 : decode cX12_goOn 2 = .ok (.iload_n 2, 1) := by decide +kernel
theorem dX12_goOn_3 : decode cX12_goOn 3 = .ok (.iload_n 1, 1) := by decide +kernel
theorem dX12_goOn_4 : decode cX12_goOn 4 = .ok (.if_icmp .ge 23, 3) := by decide +kernel
theorem dX12_goOn_7 : decode cX12_goOn 7 = .ok (.aload_n 0, 1) := by decide +kernel
theorem dX12_goOn_8 : decode cX12_goOn 8 = .ok (.getfield 28, 3) := by decide +kernel
theorem dX12_goOn_11 : decode cX12_goOn 11 = .ok (.aload_n 0, 1) := by decide +kernel
theorem dX12_goOn_12 : decode cX12_goOn 12 = .ok (.getfield 28, 3) := by decide +kernel
theorem dX12_goOn_15 : decode cX12_goOn 15 = .ok (.invokestatic 161, 3) := by decide +kernel
theorem dX12_goOn_18 : decode cX12_goOn 18 = .ok (.invokestatic 164, 3) := by decide +kernel
theorem dX12_goOn_21 : decode cX12_goOn 21 = .ok (.iinc 2 1, 3) := by decide +kernel
theorem dX12_goOn_24 : decode cX12_goOn 24 = .ok (.goto (-22), 3) := by decide +kernel
theorem dX12_goOn_27 : decode cX12_goOn 27 = .ok (.return_, 1) := by decide +kernel
theorem dX12_ahead_0 : decode cX12_ahead 0 = .ok (.aload_n 0, 1) := by decide +kernel
theorem dX12_ahead_1 : decode cX12_ahead 1 = .ok (.iload_n 1, 1) := by decide +kernel
theorem dX12_ahead_2 : decode cX12_ahead 2 = .ok (.invokevirtual 168, 3) := by decide +kernel
theorem dX12_ahead_5 : decode cX12_ahead 5 = .ok (.ifCond .eq 22, 3) := by decide +kernel
theorem dX12_ahead_8 : decode cX12_ahead 8 = .ok (.iload_n 2, 1) := by decide +kernel
theorem dX12_ahead_9 : decode cX12_ahead 9 = .ok (.iconst 0, 1) := by decide +kernel
theorem dX12_ahead_10 : decode cX12_ahead 10 = .ok (.bipush 60, 2) := by decide +kernel
theorem dX12_ahead_12 : decode cX12_ahead 12 = .ok (.invokestatic 53, 3) := by decide +kernel
theorem dX12_ahead_15 : decode cX12_ahead 15 = .ok (.ifCond .eq 12, 3) := by decide +kernel
theorem dX12_ahead_18 : decode cX12_ahead 18 = .ok (.iload_n 3, 1) := by decide +kernel
theorem dX12_ahead_19 : decode cX12_ahead 19 = .ok (.iconst 0, 1) := by decide +kernel
theorem dX12_ahead_20 : decode cX12_ahead 20 = .ok (.iconst 1, 1) := by decide +kernel
theorem dX12_ahead_21 : decode cX12_ahead 21 = .ok (.invokestatic 53, 3) := by decide +kernel
theorem dX12_ahead_24 : decode cX12_ahead 24 = .ok (.ifCond .ne 6, 3) := by decide +kernel
theorem dX12_ahead_27 : decode cX12_ahead 27 = .ok (.ldc 66, 2) := by decide +kernel
theorem dX12_ahead_29 : decode cX12_ahead 29 = .ok (.ireturn, 1) := by decide +kernel
theorem dX12_ahead_30 : decode cX12_ahead 30 = .ok (.aload_n 0, 1) := by decide +kernel
theorem dX12_ahead_31 : decode cX12_ahead 31 = .ok (.invokevirtual 171, 3) := by decide +kernel
theorem dX12_ahead_34 : decode cX12_ahead 34 = .ok (.aload_n 0, 1) := by decide +kernel
theorem dX12_ahead_35 : decode cX12_ahead 35 = .ok (.iload_n 2, 1) := by decide +kernel
theorem dX12_ahead_36 : decode cX12_ahead 36 = .ok (.invokevirtual 174, 3) := by decide +kernel
theorem dX12_ahead_39 : decode cX12_ahead 39 = .ok (.iload_n 3, 1) := by decide +kernel
theorem dX12_ahead_40 : decode cX12_ahead 40 = .ok (.ifCond .ne 15, 3) := by decide +kernel
theorem dX12_ahead_43 : decode cX12_ahead 43 = .ok (.aload_n 0, 1) := by decide +kernel
theorem dX12_ahead_44 : decode cX12_ahead 44 = .ok (.getfield 28, 3) := by decide +kernel
theorem dX12_ahead_47 : decode cX12_ahead 47 = .ok (.bipush 24, 2) := by decide +kernel
theorem dX12_ahead_49 : decode cX12_ahead 49 = .ok (.iload_n 1, 1) := by decide +kernel
theorem dX12_ahead_50 : decode cX12_ahead 50 = .ok (.iadd, 1) := by decide +kernel
theorem dX12_ahead_51 : decode cX12_ahead 51 = .ok (.iaload, 1) := by decide +kernel
theorem dX12_ahead_52 : decode cX12_ahead 52 = .ok (.goto 20, 3) := by decide +kernel
theorem dX12_ahead_55 : decode cX12_ahead 55 = .ok (.aload_n 0, 1) := by decide +kernel
theorem dX12_ahead_56 : decode cX12_ahead 56 = .ok (.getfield 28, 3) := by decide +kernel
theorem dX12_ahead_59 : decode cX12_ahead 59 = .ok (.iload_n 1, 1) := by decide +kernel
theorem dX12_ahead_60 : decode cX12_ahead 60 = .ok (.aload_n 0, 1) := by decide +kernel
theorem dX12_ahead_61 : decode cX12_ahead 61 = .ok (.getfield 28, 3) := by decide +kernel
theorem dX12_ahead_64 : decode cX12_ahead 64 = .ok (.bipush 24, 2) := by decide +kernel
theorem dX12_ahead_66 : decode cX12_ahead 66 = .ok (.iload_n 1, 1) := by decide +kernel
theorem dX12_ahead_67 : decode cX12_ahead 67 = .ok (.iadd, 1) := by decide +kernel
theorem dX12_ahead_68 : decode cX12_ahead 68 = .ok (.iaload, 1) := by decide +kernel
theorem dX12_ahead_69 : decode cX12_ahead 69 = .ok (.invokestatic 136, 3) := by decide +kernel
theorem dX12_ahead_72 : decode cX12_ahead 72 = .ok (.ireturn, 1) := by decide +kernel
theorem dX12_purse_0 : decode cX12_purse 0 = .ok (.aload_n 0, 1) := by decide +kernel
theorem dX12_purse_1 : decode cX12_purse 1 = .ok (.invokevirtual 154, 3) := by decide +kernel
theorem dX12_purse_4 : decode cX12_purse 4 = .ok (.ifCond .ne 6, 3) := by decide +kernel
theorem dX12_purse_7 : decode cX12_purse 7 = .ok (.ldc 157, 2) := by decide +kernel
theorem dX12_purse_9 : decode cX12_purse 9 = .ok (.ireturn, 1) := by decide +kernel
theorem dX12_purse_10 : decode cX12_purse 10 = .ok (.iload_n 1, 1) := by decide +kernel
theorem dX12_purse_11 : decode cX12_purse 11 = .ok (.iconst 0, 1) := by decide +kernel
theorem dX12_purse_12 : decode cX12_purse 12 = .ok (.bipush 60, 2) := by decide +kernel
theorem dX12_purse_14 : decode cX12_purse 14 = .ok (.invokestatic 53, 3) := by decide +kernel
theorem dX12_purse_17 : decode cX12_purse 17 = .ok (.ifCond .ne 6, 3) := by decide +kernel
theorem dX12_purse_20 : decode cX12_purse 20 = .ok (.ldc 66, 2) := by decide +kernel
theorem dX12_purse_22 : decode cX12_purse 22 = .ok (.ireturn, 1) := by decide +kernel
theorem dX12_purse_23 : decode cX12_purse 23 = .ok (.aload_n 0, 1) := by decide +kernel
theorem dX12_purse_24 : decode cX12_purse 24 = .ok (.invokevirtual 171, 3) := by decide +kernel
theorem dX12_purse_27 : decode cX12_purse 27 = .ok (.aload_n 0, 1) := by decide +kernel
theorem dX12_purse_28 : decode cX12_purse 28 = .ok (.iload_n 1, 1) := by decide +kernel
theorem dX12_purse_29 : decode cX12_purse 29 = .ok (.invokevirtual 174, 3) := by decide +kernel
theorem dX12_purse_32 : decode cX12_purse 32 = .ok (.aload_n 0, 1) := by decide +kernel
theorem dX12_purse_33 : decode cX12_purse 33 = .ok (.getfield 28, 3) := by decide +kernel
theorem dX12_purse_36 : decode cX12_purse 36 = .ok (.iconst 1, 1) := by decide +kernel
theorem dX12_purse_37 : decode cX12_purse 37 = .ok (.iaload, 1) := by decide +kernel
theorem dX12_purse_38 : decode cX12_purse 38 = .ok (.ireturn, 1) := by decide +kernel
theorem dX12_gone_0 : decode cX12_gone 0 = .ok (.aload_n 0, 1) := by decide +kernel
theorem dX12_gone_1 : decode cX12_gone 1 = .ok (.iload_n 1, 1) := by decide +kernel
theorem dX12_gone_2 : decode cX12_gone 2 = .ok (.invokevirtual 168, 3) := by decide +kernel
theorem dX12_gone_5 : decode cX12_gone 5 = .ok (.ifCond .ne 6, 3) := by decide +kernel
theorem dX12_gone_8 : decode cX12_gone 8 = .ok (.ldc 66, 2) := by decide +kernel
theorem dX12_gone_10 : decode cX12_gone 10 = .ok (.ireturn, 1) := by decide +kernel
theorem dX12_gone_11 : decode cX12_gone 11 = .ok (.aload_n 0, 1) := by decide +kernel
theorem dX12_gone_12 : decode cX12_gone 12 = .ok (.invokevirtual 171, 3) := by decide +kernel
theorem dX12_gone_15 : decode cX12_gone 15 = .ok (.iconst 0, 1) := by decide +kernel
theorem dX12_gone_16 : decode cX12_gone 16 = .ok (.istore_n 2, 1) := by decide +kernel
theorem dX12_gone_17 : decode cX12_gone 17 = .ok (.iload_n 2, 1) := by decide +kernel
theorem dX12_gone_18 : decode cX12_gone 18 = .ok (.bipush 60, 2) := by decide +kernel
theorem dX12_gone_20 : decode cX12_gone 20 = .ok (.if_icmp .gt 28, 3) := by decide +kernel
theorem dX12_gone_23 : decode cX12_gone 23 = .ok (.aload_n 0, 1) := by decide +kernel
theorem dX12_gone_24 : decode cX12_gone 24 = .ok (.getfield 28, 3) := by decide +kernel
theorem dX12_gone_27 : decode cX12_gone 27 = .ok (.bipush 24, 2) := by decide +kernel
theorem dX12_gone_29 : decode cX12_gone 29 = .ok (.iload_n 1, 1) := by decide +kernel
theorem dX12_gone_30 : decode cX12_gone 30 = .ok (.iadd, 1) := by decide +kernel
theorem dX12_gone_31 : decode cX12_gone 31 = .ok (.iaload, 1) := by decide +kernel
theorem dX12_gone_32 : decode cX12_gone 32 = .ok (.ifCond .ne 5, 3) := by decide +kernel
theorem dX12_gone_35 : decode cX12_gone 35 = .ok (.iload_n 2, 1) := by decide +kernel
theorem dX12_gone_36 : decode cX12_gone 36 = .ok (.ireturn, 1) := by decide +kernel
theorem dX12_gone_37 : decode cX12_gone 37 = .ok (.aload_n 0, 1) := by decide +kernel
theorem dX12_gone_38 : decode cX12_gone 38 = .ok (.iconst 1, 1) := by decide +kernel
theorem dX12_gone_39 : decode cX12_gone 39 = .ok (.invokevirtual 174, 3) := by decide +kernel
theorem dX12_gone_42 : decode cX12_gone 42 = .ok (.iinc 2 1, 3) := by decide +kernel
theorem dX12_gone_45 : decode cX12_gone 45 = .ok (.goto (-28), 3) := by decide +kernel
theorem dX12_gone_48 : decode cX12_gone 48 = .ok (.ldc 178, 2) := by decide +kernel
theorem dX12_gone_50 : decode cX12_gone 50 = .ok (.ireturn, 1) := by decide +kernel
theorem dX12_aim_0 : decode cX12_aim 0 = .ok (.aload_n 0, 1) := by decide +kernel
theorem dX12_aim_1 : decode cX12_aim 1 = .ok (.iload_n 1, 1) := by decide +kernel
theorem dX12_aim_2 : decode cX12_aim 2 = .ok (.invokevirtual 168, 3) := by decide +kernel
theorem dX12_aim_5 : decode cX12_aim 5 = .ok (.ifCond .eq 33, 3) := by decide +kernel
theorem dX12_aim_8 : decode cX12_aim 8 = .ok (.iload_n 2, 1) := by decide +kernel
theorem dX12_aim_9 : decode cX12_aim 9 = .ok (.iconst 0, 1) := by decide +kernel
theorem dX12_aim_10 : decode cX12_aim 10 = .ok (.bipush 9, 2) := by decide +kernel
theorem dX12_aim_12 : decode cX12_aim 12 = .ok (.invokestatic 53, 3) := by decide +kernel
theorem dX12_aim_15 : decode cX12_aim 15 = .ok (.ifCond .eq 23, 3) := by decide +kernel
theorem dX12_aim_18 : decode cX12_aim 18 = .ok (.iload_n 3, 1) := by decide +kernel
theorem dX12_aim_19 : decode cX12_aim 19 = .ok (.iconst 1, 1) := by decide +kernel
theorem dX12_aim_20 : decode cX12_aim 20 = .ok (.bipush 20, 2) := by decide +kernel
theorem dX12_aim_22 : decode cX12_aim 22 = .ok (.invokestatic 53, 3) := by decide +kernel
theorem dX12_aim_25 : decode cX12_aim 25 = .ok (.ifCond .eq 13, 3) := by decide +kernel
theorem dX12_aim_28 : decode cX12_aim 28 = .ok (.iload 4, 2) := by decide +kernel
theorem dX12_aim_30 : decode cX12_aim 30 = .ok (.iconst 0, 1) := by decide +kernel
theorem dX12_aim_31 : decode cX12_aim 31 = .ok (.iconst 1, 1) := by decide +kernel
theorem dX12_aim_32 : decode cX12_aim 32 = .ok (.invokestatic 53, 3) := by decide +kernel
theorem dX12_aim_35 : decode cX12_aim 35 = .ok (.ifCond .ne 6, 3) := by decide +kernel
theorem dX12_aim_38 : decode cX12_aim 38 = .ok (.ldc 66, 2) := by decide +kernel
theorem dX12_aim_40 : decode cX12_aim 40 = .ok (.ireturn, 1) := by decide +kernel
theorem dX12_aim_41 : decode cX12_aim 41 = .ok (.iload_n 3, 1) := by decide +kernel
theorem dX12_aim_42 : decode cX12_aim 42 = .ok (.aload_n 0, 1) := by decide +kernel
theorem dX12_aim_43 : decode cX12_aim 43 = .ok (.getfield 22, 3) := by decide +kernel
theorem dX12_aim_46 : decode cX12_aim 46 = .ok (.bipush 24, 2) := by decide +kernel
theorem dX12_aim_48 : decode cX12_aim 48 = .ok (.iload_n 1, 1) := by decide +kernel
theorem dX12_aim_49 : decode cX12_aim 49 = .ok (.iadd, 1) := by decide +kernel
theorem dX12_aim_50 : decode cX12_aim 50 = .ok (.iaload, 1) := by decide +kernel
theorem dX12_aim_51 : decode cX12_aim 51 = .ok (.isub, 1) := by decide +kernel
theorem dX12_aim_52 : decode cX12_aim 52 = .ok (.istore 5, 2) := by decide +kernel
theorem dX12_aim_54 : decode cX12_aim 54 = .ok (.iload 5, 2) := by decide +kernel
theorem dX12_aim_56 : decode cX12_aim 56 = .ok (.ifCond .lt 14, 3) := by decide +kernel
theorem dX12_aim_59 : decode cX12_aim 59 = .ok (.iload 5, 2) := by decide +kernel
theorem dX12_aim_61 : decode cX12_aim 61 = .ok (.aload_n 0, 1) := by decide +kernel
theorem dX12_aim_62 : decode cX12_aim 62 = .ok (.getfield 22, 3) := by decide +kernel
theorem dX12_aim_65 : decode cX12_aim 65 = .ok (.iconst 2, 1) := by decide +kernel
theorem dX12_aim_66 : decode cX12_aim 66 = .ok (.iaload, 1) := by decide +kernel
theorem dX12_aim_67 : decode cX12_aim 67 = .ok (.if_icmp .le 6, 3) := by decide +kernel
theorem dX12_aim_70 : decode cX12_aim 70 = .ok (.ldc 178, 2) := by decide +kernel
theorem dX12_aim_72 : decode cX12_aim 72 = .ok (.ireturn, 1) := by decide +kernel
theorem dX12_aim_73 : decode cX12_aim 73 = .ok (.aload_n 0, 1) := by decide +kernel
theorem dX12_aim_74 : decode cX12_aim 74 = .ok (.invokevirtual 171, 3) := by decide +kernel
theorem dX12_aim_77 : decode cX12_aim 77 = .ok (.iconst 0, 1) := by decide +kernel
theorem dX12_aim_78 : decode cX12_aim 78 = .ok (.istore 6, 2) := by decide +kernel
theorem dX12_aim_80 : decode cX12_aim 80 = .ok (.iload 6, 2) := by decide +kernel
theorem dX12_aim_82 : decode cX12_aim 82 = .ok (.iconst 3, 1) := by decide +kernel
theorem dX12_aim_83 : decode cX12_aim 83 = .ok (.if_icmp .ge 46, 3) := by decide +kernel
theorem dX12_aim_86 : decode cX12_aim 86 = .ok (.aload_n 0, 1) := by decide +kernel
theorem dX12_aim_87 : decode cX12_aim 87 = .ok (.getfield 28, 3) := by decide +kernel
theorem dX12_aim_90 : decode cX12_aim 90 = .ok (.bipush 19, 2) := by decide +kernel
theorem dX12_aim_92 : decode cX12_aim 92 = .ok (.iload_n 1, 1) := by decide +kernel
theorem dX12_aim_93 : decode cX12_aim 93 = .ok (.iadd, 1) := by decide +kernel
theorem dX12_aim_94 : decode cX12_aim 94 = .ok (.iload 6, 2) := by decide +kernel
theorem dX12_aim_96 : decode cX12_aim 96 = .ok (.iastore, 1) := by decide +kernel
theorem dX12_aim_97 : decode cX12_aim 97 = .ok (.aload_n 0, 1) := by decide +kernel
theorem dX12_aim_98 : decode cX12_aim 98 = .ok (.getfield 28, 3) := by decide +kernel
theorem dX12_aim_101 : decode cX12_aim 101 = .ok (.iload_n 1, 1) := by decide +kernel
theorem dX12_aim_102 : decode cX12_aim 102 = .ok (.iload_n 3, 1) := by decide +kernel
theorem dX12_aim_103 : decode cX12_aim 103 = .ok (.invokestatic 136, 3) := by decide +kernel
theorem dX12_aim_106 : decode cX12_aim 106 = .ok (.iload_n 2, 1) := by decide +kernel
theorem dX12_aim_107 : decode cX12_aim 107 = .ok (.if_icmp .ne 16, 3) := by decide +kernel
theorem dX12_aim_110 : decode cX12_aim 110 = .ok (.iload 4, 2) := by decide +kernel
theorem dX12_aim_112 : decode cX12_aim 112 = .ok (.ifCond .ne 8, 3) := by decide +kernel
theorem dX12_aim_115 : decode cX12_aim 115 = .ok (.iload 6, 2) := by decide +kernel
theorem dX12_aim_117 : decode cX12_aim 117 = .ok (.goto 5, 3) := by decide +kernel
theorem dX12_aim_120 : decode cX12_aim 120 = .ok (.iload 5, 2) := by decide +kernel
theorem dX12_aim_122 : decode cX12_aim 122 = .ok (.ireturn, 1) := by decide +kernel
theorem dX12_aim_123 : decode cX12_aim 123 = .ok (.iinc 6 1, 3) := by decide +kernel
theorem dX12_aim_126 : decode cX12_aim 126 = .ok (.goto (-46), 3) := by decide +kernel
theorem dX12_aim_129 : decode cX12_aim 129 = .ok (.ldc 178, 2) := by decide +kernel
theorem dX12_aim_131 : decode cX12_aim 131 = .ok (.ireturn, 1) := by decide +kernel
theorem dX12_take_0 : decode cX12_take 0 = .ok (.aload_n 0, 1) := by decide +kernel
theorem dX12_take_1 : decode cX12_take 1 = .ok (.invokevirtual 154, 3) := by decide +kernel
theorem dX12_take_4 : decode cX12_take 4 = .ok (.ifCond .ne 6, 3) := by decide +kernel
theorem dX12_take_7 : decode cX12_take 7 = .ok (.ldc 157, 2) := by decide +kernel
theorem dX12_take_9 : decode cX12_take 9 = .ok (.ireturn, 1) := by decide +kernel
theorem dX12_take_10 : decode cX12_take 10 = .ok (.iload_n 1, 1) := by decide +kernel
theorem dX12_take_11 : decode cX12_take 11 = .ok (.iconst 0, 1) := by decide +kernel
theorem dX12_take_12 : decode cX12_take 12 = .ok (.bipush 9, 2) := by decide +kernel
theorem dX12_take_14 : decode cX12_take 14 = .ok (.invokestatic 53, 3) := by decide +kernel
theorem dX12_take_17 : decode cX12_take 17 = .ok (.ifCond .eq 25, 3) := by decide +kernel
theorem dX12_take_20 : decode cX12_take 20 = .ok (.iload_n 2, 1) := by decide +kernel
theorem dX12_take_21 : decode cX12_take 21 = .ok (.iconst 0, 1) := by decide +kernel
theorem dX12_take_22 : decode cX12_take 22 = .ok (.bipush 99, 2) := by decide +kernel
theorem dX12_take_24 : decode cX12_take 24 = .ok (.invokestatic 53, 3) := by decide +kernel
theorem dX12_take_27 : decode cX12_take 27 = .ok (.ifCond .eq 15, 3) := by decide +kernel
theorem dX12_take_30 : decode cX12_take 30 = .ok (.aload_n 0, 1) := by decide +kernel
theorem dX12_take_31 : decode cX12_take 31 = .ok (.getfield 22, 3) := by decide +kernel
theorem dX12_take_34 : decode cX12_take 34 = .ok (.iload_n 1, 1) := by decide +kernel
theorem dX12_take_35 : decode cX12_take 35 = .ok (.iload_n 2, 1) := by decide +kernel
theorem dX12_take_36 : decode cX12_take 36 = .ok (.invokestatic 140, 3) := by decide +kernel
theorem dX12_take_39 : decode cX12_take 39 = .ok (.goto 5, 3) := by decide +kernel
theorem dX12_take_42 : decode cX12_take 42 = .ok (.ldc 66, 2) := by decide +kernel
theorem dX12_take_44 : decode cX12_take 44 = .ok (.ireturn, 1) := by decide +kernel
theorem dX12_layGiven_0 : decode cX12_layGiven 0 = .ok (.iload_n 1, 1) := by decide +kernel
theorem dX12_layGiven_1 : decode cX12_layGiven 1 = .ok (.istore_n 3, 1) := by decide +kernel
theorem dX12_layGiven_2 : decode cX12_layGiven 2 = .ok (.iconst 0, 1) := by decide +kernel
theorem dX12_layGiven_3 : decode cX12_layGiven 3 = .ok (.istore 4, 2) := by decide +kernel
theorem dX12_layGiven_5 : decode cX12_layGiven 5 = .ok (.iconst 1, 1) := by decide +kernel
theorem dX12_layGiven_6 : decode cX12_layGiven 6 = .ok (.istore 5, 2) := by decide +kernel
theorem dX12_layGiven_8 : decode cX12_layGiven 8 = .ok (.aload_n 0, 1) := by decide +kernel
theorem dX12_layGiven_9 : decode cX12_layGiven 9 = .ok (.getfield 22, 3) := by decide +kernel
theorem dX12_layGiven_12 : decode cX12_layGiven 12 = .ok (.iconst 3, 1) := by decide +kernel
theorem dX12_layGiven_13 : decode cX12_layGiven 13 = .ok (.iaload, 1) := by decide +kernel
theorem dX12_layGiven_14 : decode cX12_layGiven 14 = .ok (.iconst 1, 1) := by decide +kernel
theorem dX12_layGiven_15 : decode cX12_layGiven 15 = .ok (.isub, 1) := by decide +kernel
theorem dX12_layGiven_16 : decode cX12_layGiven 16 = .ok (.istore 6, 2) := by decide +kernel
theorem dX12_layGiven_18 : decode cX12_layGiven 18 = .ok (.iload 6, 2) := by decide +kernel
theorem dX12_layGiven_20 : decode cX12_layGiven 20 = .ok (.ifCond .lt 72, 3) := by decide +kernel
theorem dX12_layGiven_23 : decode cX12_layGiven 23 = .ok (.aload_n 0, 1) := by decide +kernel
theorem dX12_layGiven_24 : decode cX12_layGiven 24 = .ok (.getfield 47, 3) := by decide +kernel
theorem dX12_layGiven_27 : decode cX12_layGiven 27 = .ok (.iload 6, 2) := by decide +kernel
theorem dX12_layGiven_29 : decode cX12_layGiven 29 = .ok (.iload_n 3, 1) := by decide +kernel
theorem dX12_layGiven_30 : decode cX12_layGiven 30 = .ok (.bipush 10, 2) := by decide +kernel
theorem dX12_layGiven_32 : decode cX12_layGiven 32 = .ok (.irem, 1) := by decide +kernel
theorem dX12_layGiven_33 : decode cX12_layGiven 33 = .ok (.iastore, 1) := by decide +kernel
theorem dX12_layGiven_34 : decode cX12_layGiven 34 = .ok (.iload_n 3, 1) := by decide +kernel
theorem dX12_layGiven_35 : decode cX12_layGiven 35 = .ok (.bipush 10, 2) := by decide +kernel
theorem dX12_layGiven_37 : decode cX12_layGiven 37 = .ok (.idiv, 1) := by decide +kernel
theorem dX12_layGiven_38 : decode cX12_layGiven 38 = .ok (.istore_n 3, 1) := by decide +kernel
theorem dX12_layGiven_39 : decode cX12_layGiven 39 = .ok (.iload 4, 2) := by decide +kernel
theorem dX12_layGiven_41 : decode cX12_layGiven 41 = .ok (.aload_n 0, 1) := by decide +kernel
theorem dX12_layGiven_42 : decode cX12_layGiven 42 = .ok (.getfield 47, 3) := by decide +kernel
theorem dX12_layGiven_45 : decode cX12_layGiven 45 = .ok (.iload 6, 2) := by decide +kernel
theorem dX12_layGiven_47 : decode cX12_layGiven 47 = .ok (.iaload, 1) := by decide +kernel
theorem dX12_layGiven_48 : decode cX12_layGiven 48 = .ok (.iadd, 1) := by decide +kernel
theorem dX12_layGiven_49 : decode cX12_layGiven 49 = .ok (.istore 4, 2) := by decide +kernel
theorem dX12_layGiven_51 : decode cX12_layGiven 51 = .ok (.iload 5, 2) := by decide +kernel
theorem dX12_layGiven_53 : decode cX12_layGiven 53 = .ok (.ifCond .eq 30, 3) := by decide +kernel
theorem dX12_layGiven_56 : decode cX12_layGiven 56 = .ok (.aload_n 0, 1) := by decide +kernel
theorem dX12_layGiven_57 : decode cX12_layGiven 57 = .ok (.getfield 22, 3) := by decide +kernel
theorem dX12_layGiven_60 : decode cX12_layGiven 60 = .ok (.bipush 24, 2) := by decide +kernel
theorem dX12_layGiven_62 : decode cX12_layGiven 62 = .ok (.iload 6, 2) := by decide +kernel
theorem dX12_layGiven_64 : decode cX12_layGiven 64 = .ok (.iadd, 1) := by decide +kernel
theorem dX12_layGiven_65 : decode cX12_layGiven 65 = .ok (.iaload, 1) := by decide +kernel
theorem dX12_layGiven_66 : decode cX12_layGiven 66 = .ok (.aload_n 0, 1) := by decide +kernel
theorem dX12_layGiven_67 : decode cX12_layGiven 67 = .ok (.getfield 47, 3) := by decide +kernel
theorem dX12_layGiven_70 : decode cX12_layGiven 70 = .ok (.iload 6, 2) := by decide +kernel
theorem dX12_layGiven_72 : decode cX12_layGiven 72 = .ok (.iaload, 1) := by decide +kernel
theorem dX12_layGiven_73 : decode cX12_layGiven 73 = .ok (.iadd, 1) := by decide +kernel
theorem dX12_layGiven_74 : decode cX12_layGiven 74 = .ok (.bipush 99, 2) := by decide +kernel
theorem dX12_layGiven_76 : decode cX12_layGiven 76 = .ok (.if_icmp .gt 7, 3) := by decide +kernel
theorem dX12_layGiven_79 : decode cX12_layGiven 79 = .ok (.iconst 1, 1) := by decide +kernel
theorem dX12_layGiven_80 : decode cX12_layGiven 80 = .ok (.goto 4, 3) := by decide +kernel
theorem dX12_layGiven_83 : decode cX12_layGiven 83 = .ok (.iconst 0, 1) := by decide +kernel
theorem dX12_layGiven_84 : decode cX12_layGiven 84 = .ok (.istore 5, 2) := by decide +kernel
theorem dX12_layGiven_86 : decode cX12_layGiven 86 = .ok (.iinc 6 (-1), 3) := by decide +kernel
theorem dX12_layGiven_89 : decode cX12_layGiven 89 = .ok (.goto (-71), 3) := by decide +kernel
theorem dX12_layGiven_92 : decode cX12_layGiven 92 = .ok (.iload 5, 2) := by decide +kernel
theorem dX12_layGiven_94 : decode cX12_layGiven 94 = .ok (.ifCond .eq 14, 3) := by decide +kernel
theorem dX12_layGiven_97 : decode cX12_layGiven 97 = .ok (.iload 4, 2) := by decide +kernel
theorem dX12_layGiven_99 : decode cX12_layGiven 99 = .ok (.iload_n 2, 1) := by decide +kernel
theorem dX12_layGiven_100 : decode cX12_layGiven 100 = .ok (.if_icmp .gt 8, 3) := by decide +kernel
theorem dX12_layGiven_103 : decode cX12_layGiven 103 = .ok (.iload 4, 2) := by decide +kernel
theorem dX12_layGiven_105 : decode cX12_layGiven 105 = .ok (.goto 4, 3) := by decide +kernel
theorem dX12_layGiven_108 : decode cX12_layGiven 108 = .ok (.iconst (-1), 1) := by decide +kernel
theorem dX12_layGiven_109 : decode cX12_layGiven 109 = .ok (.ireturn, 1) := by decide +kernel
theorem dX12_layGive_0 : decode cX12_layGive 0 = .ok (.aload_n 0, 1) := by decide +kernel
theorem dX12_layGive_1 : decode cX12_layGive 1 = .ok (.getfield 22, 3) := by decide +kernel
theorem dX12_layGive_4 : decode cX12_layGive 4 = .ok (.iconst 2, 1) := by decide +kernel
theorem dX12_layGive_5 : decode cX12_layGive 5 = .ok (.iaload, 1) := by decide +kernel
theorem dX12_layGive_6 : decode cX12_layGive 6 = .ok (.bipush 9, 2) := by decide +kernel
theorem dX12_layGive_8 : decode cX12_layGive 8 = .ok (.if_icmp .le 8, 3) := by decide +kernel
theorem dX12_layGive_11 : decode cX12_layGive 11 = .ok (.bipush 9, 2) := by decide +kernel
theorem dX12_layGive_13 : decode cX12_layGive 13 = .ok (.goto 9, 3) := by decide +kernel
theorem dX12_layGive_16 : decode cX12_layGive 16 = .ok (.aload_n 0, 1) := by decide +kernel
theorem dX12_layGive_17 : decode cX12_layGive 17 = .ok (.getfield 22, 3) := by decide +kernel
theorem dX12_layGive_20 : decode cX12_layGive 20 = .ok (.iconst 2, 1) := by decide +kernel
theorem dX12_layGive_21 : decode cX12_layGive 21 = .ok (.iaload, 1) := by decide +kernel
theorem dX12_layGive_22 : decode cX12_layGive 22 = .ok (.istore_n 2, 1) := by decide +kernel
theorem dX12_layGive_23 : decode cX12_layGive 23 = .ok (.iconst 1, 1) := by decide +kernel
theorem dX12_layGive_24 : decode cX12_layGive 24 = .ok (.istore_n 3, 1) := by decide +kernel
theorem dX12_layGive_25 : decode cX12_layGive 25 = .ok (.iconst 0, 1) := by decide +kernel
theorem dX12_layGive_26 : decode cX12_layGive 26 = .ok (.istore 4, 2) := by decide +kernel
theorem dX12_layGive_28 : decode cX12_layGive 28 = .ok (.iload 4, 2) := by decide +kernel
theorem dX12_layGive_30 : decode cX12_layGive 30 = .ok (.aload_n 0, 1) := by decide +kernel
theorem dX12_layGive_31 : decode cX12_layGive 31 = .ok (.getfield 22, 3) := by decide +kernel
theorem dX12_layGive_34 : decode cX12_layGive 34 = .ok (.iconst 3, 1) := by decide +kernel
theorem dX12_layGive_35 : decode cX12_layGive 35 = .ok (.iaload, 1) := by decide +kernel
theorem dX12_layGive_36 : decode cX12_layGive 36 = .ok (.if_icmp .ge 14, 3) := by decide +kernel
theorem dX12_layGive_39 : decode cX12_layGive 39 = .ok (.iload_n 3, 1) := by decide +kernel
theorem dX12_layGive_40 : decode cX12_layGive 40 = .ok (.bipush 10, 2) := by decide +kernel
theorem dX12_layGive_42 : decode cX12_layGive 42 = .ok (.imul, 1) := by decide +kernel
theorem dX12_layGive_43 : decode cX12_layGive 43 = .ok (.istore_n 3, 1) := by decide +kernel
theorem dX12_layGive_44 : decode cX12_layGive 44 = .ok (.iinc 4 1, 3) := by decide +kernel
theorem dX12_layGive_47 : decode cX12_layGive 47 = .ok (.goto (-19), 3) := by decide +kernel
theorem dX12_layGive_50 : decode cX12_layGive 50 = .ok (.aload_n 0, 1) := by decide +kernel
theorem dX12_layGive_51 : decode cX12_layGive 51 = .ok (.iconst (-1), 1) := by decide +kernel
theorem dX12_layGive_52 : decode cX12_layGive 52 = .ok (.putfield 179, 3) := by decide +kernel
theorem dX12_layGive_55 : decode cX12_layGive 55 = .ok (.aload_n 0, 1) := by decide +kernel
theorem dX12_layGive_56 : decode cX12_layGive 56 = .ok (.iconst 0, 1) := by decide +kernel
theorem dX12_layGive_57 : decode cX12_layGive 57 = .ok (.putfield 182, 3) := by decide +kernel
theorem dX12_layGive_60 : decode cX12_layGive 60 = .ok (.iconst 0, 1) := by decide +kernel
theorem dX12_layGive_61 : decode cX12_layGive 61 = .ok (.istore 4, 2) := by decide +kernel
theorem dX12_layGive_63 : decode cX12_layGive 63 = .ok (.iload 4, 2) := by decide +kernel
theorem dX12_layGive_65 : decode cX12_layGive 65 = .ok (.iload_n 3, 1) := by decide +kernel
theorem dX12_layGive_66 : decode cX12_layGive 66 = .ok (.if_icmp .ge 157, 3) := by decide +kernel
theorem dX12_layGive_69 : decode cX12_layGive 69 = .ok (.aload_n 0, 1) := by decide +kernel
theorem dX12_layGive_70 : decode cX12_layGive 70 = .ok (.iload 4, 2) := by decide +kernel
theorem dX12_layGive_72 : decode cX12_layGive 72 = .ok (.iload_n 2, 1) := by decide +kernel
theorem dX12_layGive_73 : decode cX12_layGive 73 = .ok (.invokevirtual 185, 3) := by decide +kernel
theorem dX12_layGive_76 : decode cX12_layGive 76 = .ok (.istore 5, 2) := by decide +kernel
theorem dX12_layGive_78 : decode cX12_layGive 78 = .ok (.iload 5, 2) := by decide +kernel
theorem dX12_layGive_80 : decode cX12_layGive 80 = .ok (.ifCond .lt 137, 3) := by decide +kernel
theorem dX12_layGive_83 : decode cX12_layGive 83 = .ok (.aload_n 0, 1) := by decide +kernel
theorem dX12_layGive_84 : decode cX12_layGive 84 = .ok (.invokevirtual 171, 3) := by decide +kernel
theorem dX12_layGive_87 : decode cX12_layGive 87 = .ok (.iconst 0, 1) := by decide +kernel
theorem dX12_layGive_88 : decode cX12_layGive 88 = .ok (.istore 6, 2) := by decide +kernel
theorem dX12_layGive_90 : decode cX12_layGive 90 = .ok (.iload 6, 2) := by decide +kernel
theorem dX12_layGive_92 : decode cX12_layGive 92 = .ok (.aload_n 0, 1) := by decide +kernel
theorem dX12_layGive_93 : decode cX12_layGive 93 = .ok (.getfield 22, 3) := by decide +kernel
theorem dX12_layGive_96 : decode cX12_layGive 96 = .ok (.iconst 3, 1) := by decide +kernel
theorem dX12_layGive_97 : decode cX12_layGive 97 = .ok (.iaload, 1) := by decide +kernel
theorem dX12_layGive_98 : decode cX12_layGive 98 = .ok (.if_icmp .ge 29, 3) := by decide +kernel
theorem dX12_layGive_101 : decode cX12_layGive 101 = .ok (.aload_n 0, 1) := by decide +kernel
theorem dX12_layGive_102 : decode cX12_layGive 102 = .ok (.getfield 28, 3) := by decide +kernel
theorem dX12_layGive_105 : decode cX12_layGive 105 = .ok (.bipush 24, 2) := by decide +kernel
theorem dX12_layGive_107 : decode cX12_layGive 107 = .ok (.iload 6, 2) := by decide +kernel
theorem dX12_layGive_109 : decode cX12_layGive 109 = .ok (.iadd, 1) := by decide +kernel
theorem dX12_layGive_110 : decode cX12_layGive 110 = .ok (.dup2, 1) := by decide +kernel
theorem dX12_layGive_111 : decode cX12_layGive 111 = .ok (.iaload, 1) := by decide +kernel
theorem dX12_layGive_112 : decode cX12_layGive 112 = .ok (.aload_n 0, 1) := by decide +kernel
theorem dX12_layGive_113 : decode cX12_layGive 113 = .ok (.getfield 47, 3) := by decide +kernel
theorem dX12_layGive_116 : decode cX12_layGive 116 = .ok (.iload 6, 2) := by decide +kernel
theorem dX12_layGive_118 : decode cX12_layGive 118 = .ok (.iaload, 1) := by decide +kernel
theorem dX12_layGive_119 : decode cX12_layGive 119 = .ok (.iadd, 1) := by decide +kernel
theorem dX12_layGive_120 : decode cX12_layGive 120 = .ok (.iastore, 1) := by decide +kernel
theorem dX12_layGive_121 : decode cX12_layGive 121 = .ok (.iinc 6 1, 3) := by decide +kernel
theorem dX12_layGive_124 : decode cX12_layGive 124 = .ok (.goto (-34), 3) := by decide +kernel
theorem dX12_layGive_127 : decode cX12_layGive 127 = .ok (.aload_n 0, 1) := by decide +kernel
theorem dX12_layGive_128 : decode cX12_layGive 128 = .ok (.iload_n 1, 1) := by decide +kernel
theorem dX12_layGive_129 : decode cX12_layGive 129 = .ok (.invokevirtual 174, 3) := by decide +kernel
theorem dX12_layGive_132 : decode cX12_layGive 132 = .ok (.aload_n 0, 1) := by decide +kernel
theorem dX12_layGive_133 : decode cX12_layGive 133 = .ok (.getfield 28, 3) := by decide +kernel
theorem dX12_layGive_136 : decode cX12_layGive 136 = .ok (.iconst 1, 1) := by decide +kernel
theorem dX12_layGive_137 : decode cX12_layGive 137 = .ok (.iaload, 1) := by decide +kernel
theorem dX12_layGive_138 : decode cX12_layGive 138 = .ok (.aload_n 0, 1) := by decide +kernel
theorem dX12_layGive_139 : decode cX12_layGive 139 = .ok (.getfield 179, 3) := by decide +kernel
theorem dX12_layGive_142 : decode cX12_layGive 142 = .ok (.if_icmp .gt 25, 3) := by decide +kernel
theorem dX12_layGive_145 : decode cX12_layGive 145 = .ok (.aload_n 0, 1) := by decide +kernel
theorem dX12_layGive_146 : decode cX12_layGive 146 = .ok (.getfield 28, 3) := by decide +kernel
theorem dX12_layGive_149 : decode cX12_layGive 149 = .ok (.iconst 1, 1) := by decide +kernel
theorem dX12_layGive_150 : decode cX12_layGive 150 = .ok (.iaload, 1) := by decide +kernel
theorem dX12_layGive_151 : decode cX12_layGive 151 = .ok (.aload_n 0, 1) := by decide +kernel
theorem dX12_layGive_152 : decode cX12_layGive 152 = .ok (.getfield 179, 3) := by decide +kernel
theorem dX12_layGive_155 : decode cX12_layGive 155 = .ok (.if_icmp .ne 62, 3) := by decide +kernel
theorem dX12_layGive_158 : decode cX12_layGive 158 = .ok (.iload 5, 2) := by decide +kernel
theorem dX12_layGive_160 : decode cX12_layGive 160 = .ok (.aload_n 0, 1) := by decide +kernel
theorem dX12_layGive_161 : decode cX12_layGive 161 = .ok (.getfield 182, 3) := by decide +kernel
theorem dX12_layGive_164 : decode cX12_layGive 164 = .ok (.if_icmp .ge 53, 3) := by decide +kernel
theorem dX12_layGive_167 : decode cX12_layGive 167 = .ok (.aload_n 0, 1) := by decide +kernel
theorem dX12_layGive_168 : decode cX12_layGive 168 = .ok (.aload_n 0, 1) := by decide +kernel
theorem dX12_layGive_169 : decode cX12_layGive 169 = .ok (.getfield 28, 3) := by decide +kernel
theorem dX12_layGive_172 : decode cX12_layGive 172 = .ok (.iconst 1, 1) := by decide +kernel
theorem dX12_layGive_173 : decode cX12_layGive 173 = .ok (.iaload, 1) := by decide +kernel
theorem dX12_layGive_174 : decode cX12_layGive 174 = .ok (.putfield 179, 3) := by decide +kernel
theorem dX12_layGive_177 : decode cX12_layGive 177 = .ok (.aload_n 0, 1) := by decide +kernel
theorem dX12_layGive_178 : decode cX12_layGive 178 = .ok (.iload 5, 2) := by decide +kernel
theorem dX12_layGive_180 : decode cX12_layGive 180 = .ok (.putfield 182, 3) := by decide +kernel
theorem dX12_layGive_183 : decode cX12_layGive 183 = .ok (.iconst 0, 1) := by decide +kernel
theorem dX12_layGive_184 : decode cX12_layGive 184 = .ok (.istore 6, 2) := by decide +kernel
theorem dX12_layGive_186 : decode cX12_layGive 186 = .ok (.iload 6, 2) := by decide +kernel
theorem dX12_layGive_188 : decode cX12_layGive 188 = .ok (.aload_n 0, 1) := by decide +kernel
theorem dX12_layGive_189 : decode cX12_layGive 189 = .ok (.getfield 22, 3) := by decide +kernel
theorem dX12_layGive_192 : decode cX12_layGive 192 = .ok (.iconst 3, 1) := by decide +kernel
theorem dX12_layGive_193 : decode cX12_layGive 193 = .ok (.iaload, 1) := by decide +kernel
theorem dX12_layGive_194 : decode cX12_layGive 194 = .ok (.if_icmp .ge 23, 3) := by decide +kernel
theorem dX12_layGive_197 : decode cX12_layGive 197 = .ok (.aload_n 0, 1) := by decide +kernel
theorem dX12_layGive_198 : decode cX12_layGive 198 = .ok (.getfield 50, 3) := by decide +kernel
theorem dX12_layGive_201 : decode cX12_layGive 201 = .ok (.iload 6, 2) := by decide +kernel
theorem dX12_layGive_203 : decode cX12_layGive 203 = .ok (.aload_n 0, 1) := by decide +kernel
theorem dX12_layGive_204 : decode cX12_layGive 204 = .ok (.getfield 47, 3) := by decide +kernel
theorem dX12_layGive_207 : decode cX12_layGive 207 = .ok (.iload 6, 2) := by decide +kernel
theorem dX12_layGive_209 : decode cX12_layGive 209 = .ok (.iaload, 1) := by decide +kernel
theorem dX12_layGive_210 : decode cX12_layGive 210 = .ok (.iastore, 1) := by decide +kernel
theorem dX12_layGive_211 : decode cX12_layGive 211 = .ok (.iinc 6 1, 3) := by decide +kernel
theorem dX12_layGive_214 : decode cX12_layGive 214 = .ok (.goto (-28), 3) := by decide +kernel
theorem dX12_layGive_217 : decode cX12_layGive 217 = .ok (.iinc 4 1, 3) := by decide +kernel
theorem dX12_layGive_220 : decode cX12_layGive 220 = .ok (.goto (-157), 3) := by decide +kernel
theorem dX12_layGive_223 : decode cX12_layGive 223 = .ok (.return_, 1) := by decide +kernel
theorem dX12_give_0 : decode cX12_give 0 = .ok (.aload_n 0, 1) := by decide +kernel
theorem dX12_give_1 : decode cX12_give 1 = .ok (.invokevirtual 154, 3) := by decide +kernel
theorem dX12_give_4 : decode cX12_give 4 = .ok (.ifCond .ne 6, 3) := by decide +kernel
theorem dX12_give_7 : decode cX12_give 7 = .ok (.ldc 157, 2) := by decide +kernel
theorem dX12_give_9 : decode cX12_give 9 = .ok (.ireturn, 1) := by decide +kernel
theorem dX12_give_10 : decode cX12_give 10 = .ok (.iload_n 1, 1) := by decide +kernel
theorem dX12_give_11 : decode cX12_give 11 = .ok (.iconst 0, 1) := by decide +kernel
theorem dX12_give_12 : decode cX12_give 12 = .ok (.bipush 60, 2) := by decide +kernel
theorem dX12_give_14 : decode cX12_give 14 = .ok (.invokestatic 53, 3) := by decide +kernel
theorem dX12_give_17 : decode cX12_give 17 = .ok (.ifCond .eq 13, 3) := by decide +kernel
theorem dX12_give_20 : decode cX12_give 20 = .ok (.iload_n 2, 1) := by decide +kernel
theorem dX12_give_21 : decode cX12_give 21 = .ok (.bipush (-2), 2) := by decide +kernel
theorem dX12_give_23 : decode cX12_give 23 = .ok (.iconst 4, 1) := by decide +kernel
theorem dX12_give_24 : decode cX12_give 24 = .ok (.invokestatic 53, 3) := by decide +kernel
theorem dX12_give_27 : decode cX12_give 27 = .ok (.ifCond .ne 6, 3) := by decide +kernel
theorem dX12_give_30 : decode cX12_give 30 = .ok (.ldc 66, 2) := by decide +kernel
theorem dX12_give_32 : decode cX12_give 32 = .ok (.ireturn, 1) := by decide +kernel
theorem dX12_give_33 : decode cX12_give 33 = .ok (.aload_n 0, 1) := by decide +kernel
theorem dX12_give_34 : decode cX12_give 34 = .ok (.iload_n 1, 1) := by decide +kernel
theorem dX12_give_35 : decode cX12_give 35 = .ok (.invokevirtual 189, 3) := by decide +kernel
theorem dX12_give_38 : decode cX12_give 38 = .ok (.iload_n 2, 1) := by decide +kernel
theorem dX12_give_39 : decode cX12_give 39 = .ok (.iconst (-1), 1) := by decide +kernel
theorem dX12_give_40 : decode cX12_give 40 = .ok (.if_icmp .ne 10, 3) := by decide +kernel
theorem dX12_give_43 : decode cX12_give 43 = .ok (.aload_n 0, 1) := by decide +kernel
theorem dX12_give_44 : decode cX12_give 44 = .ok (.getfield 179, 3) := by decide +kernel
theorem dX12_give_47 : decode cX12_give 47 = .ok (.goto 37, 3) := by decide +kernel
theorem dX12_give_50 : decode cX12_give 50 = .ok (.iload_n 2, 1) := by decide +kernel
theorem dX12_give_51 : decode cX12_give 51 = .ok (.bipush (-2), 2) := by decide +kernel
theorem dX12_give_53 : decode cX12_give 53 = .ok (.if_icmp .ne 10, 3) := by decide +kernel
theorem dX12_give_56 : decode cX12_give 56 = .ok (.aload_n 0, 1) := by decide +kernel
theorem dX12_give_57 : decode cX12_give 57 = .ok (.getfield 182, 3) := by decide +kernel
theorem dX12_give_60 : decode cX12_give 60 = .ok (.goto 24, 3) := by decide +kernel
theorem dX12_give_63 : decode cX12_give 63 = .ok (.iload_n 2, 1) := by decide +kernel
theorem dX12_give_64 : decode cX12_give 64 = .ok (.aload_n 0, 1) := by decide +kernel
theorem dX12_give_65 : decode cX12_give 65 = .ok (.getfield 22, 3) := by decide +kernel
theorem dX12_give_68 : decode cX12_give 68 = .ok (.iconst 3, 1) := by decide +kernel
theorem dX12_give_69 : decode cX12_give 69 = .ok (.iaload, 1) := by decide +kernel
theorem dX12_give_70 : decode cX12_give 70 = .ok (.if_icmp .ge 12, 3) := by decide +kernel
theorem dX12_give_73 : decode cX12_give 73 = .ok (.aload_n 0, 1) := by decide +kernel
theorem dX12_give_74 : decode cX12_give 74 = .ok (.getfield 50, 3) := by decide +kernel
theorem dX12_give_77 : decode cX12_give 77 = .ok (.iload_n 2, 1) := by decide +kernel
theorem dX12_give_78 : decode cX12_give 78 = .ok (.iaload, 1) := by decide +kernel
theorem dX12_give_79 : decode cX12_give 79 = .ok (.goto 5, 3) := by decide +kernel
theorem dX12_give_82 : decode cX12_give 82 = .ok (.ldc 178, 2) := by decide +kernel
theorem dX12_give_84 : decode cX12_give 84 = .ok (.ireturn, 1) := by decide +kernel
theorem dX12_turning_0 : decode cX12_turning 0 = .ok (.aload_n 0, 1) := by decide +kernel
theorem dX12_turning_1 : decode cX12_turning 1 = .ok (.invokevirtual 154, 3) := by decide +kernel
theorem dX12_turning_4 : decode cX12_turning 4 = .ok (.ifCond .ne 6, 3) := by decide +kernel
theorem dX12_turning_7 : decode cX12_turning 7 = .ok (.ldc 157, 2) := by decide +kernel
theorem dX12_turning_9 : decode cX12_turning 9 = .ok (.ireturn, 1) := by decide +kernel
theorem dX12_turning_10 : decode cX12_turning 10 = .ok (.iload_n 1, 1) := by decide +kernel
theorem dX12_turning_11 : decode cX12_turning 11 = .ok (.iconst 0, 1) := by decide +kernel
theorem dX12_turning_12 : decode cX12_turning 12 = .ok (.bipush 60, 2) := by decide +kernel
theorem dX12_turning_14 : decode cX12_turning 14 = .ok (.invokestatic 53, 3) := by decide +kernel
theorem dX12_turning_17 : decode cX12_turning 17 = .ok (.ifCond .eq 12, 3) := by decide +kernel
theorem dX12_turning_20 : decode cX12_turning 20 = .ok (.iload_n 2, 1) := by decide +kernel
theorem dX12_turning_21 : decode cX12_turning 21 = .ok (.iconst 0, 1) := by decide +kernel
theorem dX12_turning_22 : decode cX12_turning 22 = .ok (.iconst 2, 1) := by decide +kernel
theorem dX12_turning_23 : decode cX12_turning 23 = .ok (.invokestatic 53, 3) := by decide +kernel
theorem dX12_turning_26 : decode cX12_turning 26 = .ok (.ifCond .ne 6, 3) := by decide +kernel
theorem dX12_turning_29 : decode cX12_turning 29 = .ok (.ldc 66, 2) := by decide +kernel
theorem dX12_turning_31 : decode cX12_turning 31 = .ok (.ireturn, 1) := by decide +kernel
theorem dX12_turning_32 : decode cX12_turning 32 = .ok (.ldc 178, 2) := by decide +kernel
theorem dX12_turning_34 : decode cX12_turning 34 = .ok (.istore_n 3, 1) := by decide +kernel
theorem dX12_turning_35 : decode cX12_turning 35 = .ok (.iconst (-1), 1) := by decide +kernel
theorem dX12_turning_36 : decode cX12_turning 36 = .ok (.istore 4, 2) := by decide +kernel
theorem dX12_turning_38 : decode cX12_turning 38 = .ok (.iconst 0, 1) := by decide +kernel
theorem dX12_turning_39 : decode cX12_turning 39 = .ok (.istore 5, 2) := by decide +kernel
theorem dX12_turning_41 : decode cX12_turning 41 = .ok (.iload 5, 2) := by decide +kernel
theorem dX12_turning_43 : decode cX12_turning 43 = .ok (.iconst 3, 1) := by decide +kernel
theorem dX12_turning_44 : decode cX12_turning 44 = .ok (.aload_n 0, 1) := by decide +kernel
theorem dX12_turning_45 : decode cX12_turning 45 = .ok (.getfield 22, 3) := by decide +kernel
theorem dX12_turning_48 : decode cX12_turning 48 = .ok (.iconst 3, 1) := by decide +kernel
theorem dX12_turning_49 : decode cX12_turning 49 = .ok (.iaload, 1) := by decide +kernel
theorem dX12_turning_50 : decode cX12_turning 50 = .ok (.imul, 1) := by decide +kernel
theorem dX12_turning_51 : decode cX12_turning 51 = .ok (.if_icmp .ge 97, 3) := by decide +kernel
theorem dX12_turning_54 : decode cX12_turning 54 = .ok (.iload 5, 2) := by decide +kernel
theorem dX12_turning_56 : decode cX12_turning 56 = .ok (.iconst 3, 1) := by decide +kernel
theorem dX12_turning_57 : decode cX12_turning 57 = .ok (.idiv, 1) := by decide +kernel
theorem dX12_turning_58 : decode cX12_turning 58 = .ok (.istore 6, 2) := by decide +kernel
theorem dX12_turning_60 : decode cX12_turning 60 = .ok (.aload_n 0, 1) := by decide +kernel
theorem dX12_turning_61 : decode cX12_turning 61 = .ok (.getfield 22, 3) := by decide +kernel
theorem dX12_turning_64 : decode cX12_turning 64 = .ok (.bipush 19, 2) := by decide +kernel
theorem dX12_turning_66 : decode cX12_turning 66 = .ok (.iload 6, 2) := by decide +kernel
theorem dX12_turning_68 : decode cX12_turning 68 = .ok (.iadd, 1) := by decide +kernel
theorem dX12_turning_69 : decode cX12_turning 69 = .ok (.iaload, 1) := by decide +kernel
theorem dX12_turning_70 : decode cX12_turning 70 = .ok (.iload 5, 2) := by decide +kernel
theorem dX12_turning_72 : decode cX12_turning 72 = .ok (.iconst 3, 1) := by decide +kernel
theorem dX12_turning_73 : decode cX12_turning 73 = .ok (.irem, 1) := by decide +kernel
theorem dX12_turning_74 : decode cX12_turning 74 = .ok (.if_icmp .eq 68, 3) := by decide +kernel
theorem dX12_turning_77 : decode cX12_turning 77 = .ok (.aload_n 0, 1) := by decide +kernel
theorem dX12_turning_78 : decode cX12_turning 78 = .ok (.invokevirtual 171, 3) := by decide +kernel
theorem dX12_turning_81 : decode cX12_turning 81 = .ok (.aload_n 0, 1) := by decide +kernel
theorem dX12_turning_82 : decode cX12_turning 82 = .ok (.getfield 28, 3) := by decide +kernel
theorem dX12_turning_85 : decode cX12_turning 85 = .ok (.bipush 19, 2) := by decide +kernel
theorem dX12_turning_87 : decode cX12_turning 87 = .ok (.iload 6, 2) := by decide +kernel
theorem dX12_turning_89 : decode cX12_turning 89 = .ok (.iadd, 1) := by decide +kernel
theorem dX12_turning_90 : decode cX12_turning 90 = .ok (.iload 5, 2) := by decide +kernel
theorem dX12_turning_92 : decode cX12_turning 92 = .ok (.iconst 3, 1) := by decide +kernel
theorem dX12_turning_93 : decode cX12_turning 93 = .ok (.irem, 1) := by decide +kernel
theorem dX12_turning_94 : decode cX12_turning 94 = .ok (.iastore, 1) := by decide +kernel
theorem dX12_turning_95 : decode cX12_turning 95 = .ok (.aload_n 0, 1) := by decide +kernel
theorem dX12_turning_96 : decode cX12_turning 96 = .ok (.iload_n 1, 1) := by decide +kernel
theorem dX12_turning_97 : decode cX12_turning 97 = .ok (.invokevirtual 174, 3) := by decide +kernel
theorem dX12_turning_100 : decode cX12_turning 100 = .ok (.aload_n 0, 1) := by decide +kernel
theorem dX12_turning_101 : decode cX12_turning 101 = .ok (.getfield 28, 3) := by decide +kernel
theorem dX12_turning_104 : decode cX12_turning 104 = .ok (.iconst 1, 1) := by decide +kernel
theorem dX12_turning_105 : decode cX12_turning 105 = .ok (.iaload, 1) := by decide +kernel
theorem dX12_turning_106 : decode cX12_turning 106 = .ok (.iload 4, 2) := by decide +kernel
theorem dX12_turning_108 : decode cX12_turning 108 = .ok (.if_icmp .le 8, 3) := by decide +kernel
theorem dX12_turning_111 : decode cX12_turning 111 = .ok (.iload 5, 2) := by decide +kernel
theorem dX12_turning_113 : decode cX12_turning 113 = .ok (.goto 4, 3) := by decide +kernel
theorem dX12_turning_116 : decode cX12_turning 116 = .ok (.iload_n 3, 1) := by decide +kernel
theorem dX12_turning_117 : decode cX12_turning 117 = .ok (.istore_n 3, 1) := by decide +kernel
theorem dX12_turning_118 : decode cX12_turning 118 = .ok (.aload_n 0, 1) := by decide +kernel
theorem dX12_turning_119 : decode cX12_turning 119 = .ok (.getfield 28, 3) := by decide +kernel
theorem dX12_turning_122 : decode cX12_turning 122 = .ok (.iconst 1, 1) := by decide +kernel
theorem dX12_turning_123 : decode cX12_turning 123 = .ok (.iaload, 1) := by decide +kernel
theorem dX12_turning_124 : decode cX12_turning 124 = .ok (.iload 4, 2) := by decide +kernel
theorem dX12_turning_126 : decode cX12_turning 126 = .ok (.if_icmp .le 12, 3) := by decide +kernel
theorem dX12_turning_129 : decode cX12_turning 129 = .ok (.aload_n 0, 1) := by decide +kernel
theorem dX12_turning_130 : decode cX12_turning 130 = .ok (.getfield 28, 3) := by decide +kernel
theorem dX12_turning_133 : decode cX12_turning 133 = .ok (.iconst 1, 1) := by decide +kernel
theorem dX12_turning_134 : decode cX12_turning 134 = .ok (.iaload, 1) := by decide +kernel
theorem dX12_turning_135 : decode cX12_turning 135 = .ok (.goto 5, 3) := by decide +kernel
theorem dX12_turning_138 : decode cX12_turning 138 = .ok (.iload 4, 2) := by decide +kernel
theorem dX12_turning_140 : decode cX12_turning 140 = .ok (.istore 4, 2) := by decide +kernel
theorem dX12_turning_142 : decode cX12_turning 142 = .ok (.iinc 5 1, 3) := by decide +kernel
theorem dX12_turning_145 : decode cX12_turning 145 = .ok (.goto (-104), 3) := by decide +kernel
theorem dX12_turning_148 : decode cX12_turning 148 = .ok (.iload_n 3, 1) := by decide +kernel
theorem dX12_turning_149 : decode cX12_turning 149 = .ok (.ldc 178, 2) := by decide +kernel
theorem dX12_turning_151 : decode cX12_turning 151 = .ok (.if_icmp .ne 6, 3) := by decide +kernel
theorem dX12_turning_154 : decode cX12_turning 154 = .ok (.ldc 178, 2) := by decide +kernel
theorem dX12_turning_156 : decode cX12_turning 156 = .ok (.ireturn, 1) := by decide +kernel
theorem dX12_turning_157 : decode cX12_turning 157 = .ok (.iload_n 2, 1) := by decide +kernel
theorem dX12_turning_158 : decode cX12_turning 158 = .ok (.ifCond .ne 9, 3) := by decide +kernel
theorem dX12_turning_161 : decode cX12_turning 161 = .ok (.iload_n 3, 1) := by decide +kernel
theorem dX12_turning_162 : decode cX12_turning 162 = .ok (.iconst 3, 1) := by decide +kernel
theorem dX12_turning_163 : decode cX12_turning 163 = .ok (.idiv, 1) := by decide +kernel
theorem dX12_turning_164 : decode cX12_turning 164 = .ok (.goto 16, 3) := by decide +kernel
theorem dX12_turning_167 : decode cX12_turning 167 = .ok (.iload_n 2, 1) := by decide +kernel
theorem dX12_turning_168 : decode cX12_turning 168 = .ok (.iconst 1, 1) := by decide +kernel
theorem dX12_turning_169 : decode cX12_turning 169 = .ok (.if_icmp .ne 9, 3) := by decide +kernel
theorem dX12_turning_172 : decode cX12_turning 172 = .ok (.iload_n 3, 1) := by decide +kernel
theorem dX12_turning_173 : decode cX12_turning 173 = .ok (.iconst 3, 1) := by decide +kernel
theorem dX12_turning_174 : decode cX12_turning 174 = .ok (.irem, 1) := by decide +kernel
theorem dX12_turning_175 : decode cX12_turning 175 = .ok (.goto 5, 3) := by decide +kernel
theorem dX12_turning_178 : decode cX12_turning 178 = .ok (.iload 4, 2) := by decide +kernel
theorem dX12_turning_180 : decode cX12_turning 180 = .ok (.ireturn, 1) := by decide +kernel
theorem dX12_crossOf_0 : decode cX12_crossOf 0 = .ok (.iconst 1, 1) := by decide +kernel
theorem dX12_crossOf_1 : decode cX12_crossOf 1 = .ok (.istore_n 3, 1) := by decide +kernel
theorem dX12_crossOf_2 : decode cX12_crossOf 2 = .ok (.iload_n 3, 1) := by decide +kernel
theorem dX12_crossOf_3 : decode cX12_crossOf 3 = .ok (.aload_n 0, 1) := by decide +kernel
theorem dX12_crossOf_4 : decode cX12_crossOf 4 = .ok (.getfield 22, 3) := by decide +kernel
theorem dX12_crossOf_7 : decode cX12_crossOf 7 = .ok (.bipush 24, 2) := by decide +kernel
theorem dX12_crossOf_9 : decode cX12_crossOf 9 = .ok (.iload_n 1, 1) := by decide +kernel
theorem dX12_crossOf_10 : decode cX12_crossOf 10 = .ok (.iadd, 1) := by decide +kernel
theorem dX12_crossOf_11 : decode cX12_crossOf 11 = .ok (.iaload, 1) := by decide +kernel
theorem dX12_crossOf_12 : decode cX12_crossOf 12 = .ok (.if_icmp .gt 45, 3) := by decide +kernel
theorem dX12_crossOf_15 : decode cX12_crossOf 15 = .ok (.iload_n 3, 1) := by decide +kernel
theorem dX12_crossOf_16 : decode cX12_crossOf 16 = .ok (.aload_n 0, 1) := by decide +kernel
theorem dX12_crossOf_17 : decode cX12_crossOf 17 = .ok (.getfield 22, 3) := by decide +kernel
theorem dX12_crossOf_20 : decode cX12_crossOf 20 = .ok (.bipush 24, 2) := by decide +kernel
theorem dX12_crossOf_22 : decode cX12_crossOf 22 = .ok (.iload_n 2, 1) := by decide +kernel
theorem dX12_crossOf_23 : decode cX12_crossOf 23 = .ok (.iadd, 1) := by decide +kernel
theorem dX12_crossOf_24 : decode cX12_crossOf 24 = .ok (.iaload, 1) := by decide +kernel
theorem dX12_crossOf_25 : decode cX12_crossOf 25 = .ok (.if_icmp .gt 32, 3) := by decide +kernel
theorem dX12_crossOf_28 : decode cX12_crossOf 28 = .ok (.aload_n 0, 1) := by decide +kernel
theorem dX12_crossOf_29 : decode cX12_crossOf 29 = .ok (.getfield 22, 3) := by decide +kernel
theorem dX12_crossOf_32 : decode cX12_crossOf 32 = .ok (.iload_n 1, 1) := by decide +kernel
theorem dX12_crossOf_33 : decode cX12_crossOf 33 = .ok (.iload_n 3, 1) := by decide +kernel
theorem dX12_crossOf_34 : decode cX12_crossOf 34 = .ok (.invokestatic 136, 3) := by decide +kernel
theorem dX12_crossOf_37 : decode cX12_crossOf 37 = .ok (.aload_n 0, 1) := by decide +kernel
theorem dX12_crossOf_38 : decode cX12_crossOf 38 = .ok (.getfield 22, 3) := by decide +kernel
theorem dX12_crossOf_41 : decode cX12_crossOf 41 = .ok (.iload_n 2, 1) := by decide +kernel
theorem dX12_crossOf_42 : decode cX12_crossOf 42 = .ok (.iload_n 3, 1) := by decide +kernel
theorem dX12_crossOf_43 : decode cX12_crossOf 43 = .ok (.invokestatic 136, 3) := by decide +kernel
theorem dX12_crossOf_46 : decode cX12_crossOf 46 = .ok (.if_icmp .ne 5, 3) := by decide +kernel
theorem dX12_crossOf_49 : decode cX12_crossOf 49 = .ok (.iload_n 3, 1) := by decide +kernel
theorem dX12_crossOf_50 : decode cX12_crossOf 50 = .ok (.ireturn, 1) := by decide +kernel
theorem dX12_crossOf_51 : decode cX12_crossOf 51 = .ok (.iinc 3 1, 3) := by decide +kernel
theorem dX12_crossOf_54 : decode cX12_crossOf 54 = .ok (.goto (-52), 3) := by decide +kernel
theorem dX12_crossOf_57 : decode cX12_crossOf 57 = .ok (.iconst 0, 1) := by decide +kernel
theorem dX12_crossOf_58 : decode cX12_crossOf 58 = .ok (.ireturn, 1) := by decide +kernel
theorem dX12_cross_0 : decode cX12_cross 0 = .ok (.aload_n 0, 1) := by decide +kernel
theorem dX12_cross_1 : decode cX12_cross 1 = .ok (.invokevirtual 154, 3) := by decide +kernel
theorem dX12_cross_4 : decode cX12_cross 4 = .ok (.ifCond .ne 6, 3) := by decide +kernel
theorem dX12_cross_7 : decode cX12_cross 7 = .ok (.ldc 157, 2) := by decide +kernel
theorem dX12_cross_9 : decode cX12_cross 9 = .ok (.ireturn, 1) := by decide +kernel
theorem dX12_cross_10 : decode cX12_cross 10 = .ok (.iload_n 1, 1) := by decide +kernel
theorem dX12_cross_11 : decode cX12_cross 11 = .ok (.iconst 0, 1) := by decide +kernel
theorem dX12_cross_12 : decode cX12_cross 12 = .ok (.iconst 2, 1) := by decide +kernel
theorem dX12_cross_13 : decode cX12_cross 13 = .ok (.invokestatic 53, 3) := by decide +kernel
theorem dX12_cross_16 : decode cX12_cross 16 = .ok (.ifCond .ne 6, 3) := by decide +kernel
theorem dX12_cross_19 : decode cX12_cross 19 = .ok (.ldc 66, 2) := by decide +kernel
theorem dX12_cross_21 : decode cX12_cross 21 = .ok (.ireturn, 1) := by decide +kernel
theorem dX12_cross_22 : decode cX12_cross 22 = .ok (.iconst 0, 1) := by decide +kernel
theorem dX12_cross_23 : decode cX12_cross 23 = .ok (.istore_n 2, 1) := by decide +kernel
theorem dX12_cross_24 : decode cX12_cross 24 = .ok (.ldc 178, 2) := by decide +kernel
theorem dX12_cross_26 : decode cX12_cross 26 = .ok (.istore_n 3, 1) := by decide +kernel
theorem dX12_cross_27 : decode cX12_cross 27 = .ok (.ldc 178, 2) := by decide +kernel
theorem dX12_cross_29 : decode cX12_cross 29 = .ok (.istore 4, 2) := by decide +kernel
theorem dX12_cross_31 : decode cX12_cross 31 = .ok (.iconst 0, 1) := by decide +kernel
theorem dX12_cross_32 : decode cX12_cross 32 = .ok (.istore 5, 2) := by decide +kernel
theorem dX12_cross_34 : decode cX12_cross 34 = .ok (.iload 5, 2) := by decide +kernel
theorem dX12_cross_36 : decode cX12_cross 36 = .ok (.aload_n 0, 1) := by decide +kernel
theorem dX12_cross_37 : decode cX12_cross 37 = .ok (.getfield 22, 3) := by decide +kernel
theorem dX12_cross_40 : decode cX12_cross 40 = .ok (.iconst 3, 1) := by decide +kernel
theorem dX12_cross_41 : decode cX12_cross 41 = .ok (.iaload, 1) := by decide +kernel
theorem dX12_cross_42 : decode cX12_cross 42 = .ok (.if_icmp .ge 80, 3) := by decide +kernel
theorem dX12_cross_45 : decode cX12_cross 45 = .ok (.iload 5, 2) := by decide +kernel
theorem dX12_cross_47 : decode cX12_cross 47 = .ok (.iconst 1, 1) := by decide +kernel
theorem dX12_cross_48 : decode cX12_cross 48 = .ok (.iadd, 1) := by decide +kernel
theorem dX12_cross_49 : decode cX12_cross 49 = .ok (.istore 6, 2) := by decide +kernel
theorem dX12_cross_51 : decode cX12_cross 51 = .ok (.iload 6, 2) := by decide +kernel
theorem dX12_cross_53 : decode cX12_cross 53 = .ok (.aload_n 0, 1) := by decide +kernel
theorem dX12_cross_54 : decode cX12_cross 54 = .ok (.getfield 22, 3) := by decide +kernel
theorem dX12_cross_57 : decode cX12_cross 57 = .ok (.iconst 3, 1) := by decide +kernel
theorem dX12_cross_58 : decode cX12_cross 58 = .ok (.iaload, 1) := by decide +kernel
theorem dX12_cross_59 : decode cX12_cross 59 = .ok (.if_icmp .ge 57, 3) := by decide +kernel
theorem dX12_cross_62 : decode cX12_cross 62 = .ok (.aload_n 0, 1) := by decide +kernel
theorem dX12_cross_63 : decode cX12_cross 63 = .ok (.iload 5, 2) := by decide +kernel
theorem dX12_cross_65 : decode cX12_cross 65 = .ok (.iload 6, 2) := by decide +kernel
theorem dX12_cross_67 : decode cX12_cross 67 = .ok (.invokevirtual 192, 3) := by decide +kernel
theorem dX12_cross_70 : decode cX12_cross 70 = .ok (.istore 7, 2) := by decide +kernel
theorem dX12_cross_72 : decode cX12_cross 72 = .ok (.iload 7, 2) := by decide +kernel
theorem dX12_cross_74 : decode cX12_cross 74 = .ok (.ifCond .le 36, 3) := by decide +kernel
theorem dX12_cross_77 : decode cX12_cross 77 = .ok (.iload_n 2, 1) := by decide +kernel
theorem dX12_cross_78 : decode cX12_cross 78 = .ok (.ifCond .ne 14, 3) := by decide +kernel
theorem dX12_cross_81 : decode cX12_cross 81 = .ok (.bipush 10, 2) := by decide +kernel
theorem dX12_cross_83 : decode cX12_cross 83 = .ok (.iload 5, 2) := by decide +kernel
theorem dX12_cross_85 : decode cX12_cross 85 = .ok (.imul, 1) := by decide +kernel
theorem dX12_cross_86 : decode cX12_cross 86 = .ok (.iload 6, 2) := by decide +kernel
theorem dX12_cross_88 : decode cX12_cross 88 = .ok (.iadd, 1) := by decide +kernel
theorem dX12_cross_89 : decode cX12_cross 89 = .ok (.goto 4, 3) := by decide +kernel
theorem dX12_cross_92 : decode cX12_cross 92 = .ok (.iload_n 3, 1) := by decide +kernel
theorem dX12_cross_93 : decode cX12_cross 93 = .ok (.istore_n 3, 1) := by decide +kernel
theorem dX12_cross_94 : decode cX12_cross 94 = .ok (.iload_n 2, 1) := by decide +kernel
theorem dX12_cross_95 : decode cX12_cross 95 = .ok (.ifCond .ne 8, 3) := by decide +kernel
theorem dX12_cross_98 : decode cX12_cross 98 = .ok (.iload 7, 2) := by decide +kernel
theorem dX12_cross_100 : decode cX12_cross 100 = .ok (.goto 5, 3) := by decide +kernel
theorem dX12_cross_103 : decode cX12_cross 103 = .ok (.iload 4, 2) := by decide +kernel
theorem dX12_cross_105 : decode cX12_cross 105 = .ok (.istore 4, 2) := by decide +kernel
theorem dX12_cross_107 : decode cX12_cross 107 = .ok (.iinc 2 1, 3) := by decide +kernel
theorem dX12_cross_110 : decode cX12_cross 110 = .ok (.iinc 6 1, 3) := by decide +kernel
theorem dX12_cross_113 : decode cX12_cross 113 = .ok (.goto (-62), 3) := by decide +kernel
theorem dX12_cross_116 : decode cX12_cross 116 = .ok (.iinc 5 1, 3) := by decide +kernel
theorem dX12_cross_119 : decode cX12_cross 119 = .ok (.goto (-85), 3) := by decide +kernel
theorem dX12_cross_122 : decode cX12_cross 122 = .ok (.iload_n 1, 1) := by decide +kernel
theorem dX12_cross_123 : decode cX12_cross 123 = .ok (.ifCond .ne 7, 3) := by decide +kernel
theorem dX12_cross_126 : decode cX12_cross 126 = .ok (.iload_n 2, 1) := by decide +kernel
theorem dX12_cross_127 : decode cX12_cross 127 = .ok (.goto 14, 3) := by decide +kernel
theorem dX12_cross_130 : decode cX12_cross 130 = .ok (.iload_n 1, 1) := by decide +kernel
theorem dX12_cross_131 : decode cX12_cross 131 = .ok (.iconst 1, 1) := by decide +kernel
theorem dX12_cross_132 : decode cX12_cross 132 = .ok (.if_icmp .ne 7, 3) := by decide +kernel
theorem dX12_cross_135 : decode cX12_cross 135 = .ok (.iload_n 3, 1) := by decide +kernel
theorem dX12_cross_136 : decode cX12_cross 136 = .ok (.goto 5, 3) := by decide +kernel
theorem dX12_cross_139 : decode cX12_cross 139 = .ok (.iload 4, 2) := by decide +kernel
theorem dX12_cross_141 : decode cX12_cross 141 = .ok (.ireturn, 1) := by decide +kernel
theorem dX12_takeOut_0 : decode cX12_takeOut 0 = .ok (.aload_n 0, 1) := by decide +kernel
theorem dX12_takeOut_1 : decode cX12_takeOut 1 = .ok (.getfield 7, 3) := by decide +kernel
theorem dX12_takeOut_4 : decode cX12_takeOut 4 = .ok (.iload_n 1, 1) := by decide +kernel
theorem dX12_takeOut_5 : decode cX12_takeOut 5 = .ok (.iaload, 1) := by decide +kernel
theorem dX12_takeOut_6 : decode cX12_takeOut 6 = .ok (.ifCond .ge 9, 3) := by decide +kernel
theorem dX12_takeOut_9 : decode cX12_takeOut 9 = .ok (.aload_n 0, 1) := by decide +kernel
theorem dX12_takeOut_10 : decode cX12_takeOut 10 = .ok (.iconst 1, 1) := by decide +kernel
theorem dX12_takeOut_11 : decode cX12_takeOut 11 = .ok (.invokevirtual 67, 3) := by decide +kernel
theorem dX12_takeOut_14 : decode cX12_takeOut 14 = .ok (.ireturn, 1) := by decide +kernel
theorem dX12_takeOut_15 : decode cX12_takeOut 15 = .ok (.iload_n 2, 1) := by decide +kernel
theorem dX12_takeOut_16 : decode cX12_takeOut 16 = .ok (.iload_n 3, 1) := by decide +kernel
theorem dX12_takeOut_17 : decode cX12_takeOut 17 = .ok (.aload_n 0, 1) := by decide +kernel
theorem dX12_takeOut_18 : decode cX12_takeOut 18 = .ok (.getfield 13, 3) := by decide +kernel
theorem dX12_takeOut_21 : decode cX12_takeOut 21 = .ok (.iload_n 1, 1) := by decide +kernel
theorem dX12_takeOut_22 : decode cX12_takeOut 22 = .ok (.iaload, 1) := by decide +kernel
theorem dX12_takeOut_23 : decode cX12_takeOut 23 = .ok (.invokestatic 74, 3) := by decide +kernel
theorem dX12_takeOut_26 : decode cX12_takeOut 26 = .ok (.ifCond .ne 9, 3) := by decide +kernel
theorem dX12_takeOut_29 : decode cX12_takeOut 29 = .ok (.aload_n 0, 1) := by decide +kernel
theorem dX12_takeOut_30 : decode cX12_takeOut 30 = .ok (.iconst 2, 1) := by decide +kernel
theorem dX12_takeOut_31 : decode cX12_takeOut 31 = .ok (.invokevirtual 67, 3) := by decide +kernel
theorem dX12_takeOut_34 : decode cX12_takeOut 34 = .ok (.ireturn, 1) := by decide +kernel
theorem dX12_takeOut_35 : decode cX12_takeOut 35 = .ok (.iconst 0, 1) := by decide +kernel
theorem dX12_takeOut_36 : decode cX12_takeOut 36 = .ok (.istore 4, 2) := by decide +kernel
theorem dX12_takeOut_38 : decode cX12_takeOut 38 = .ok (.iload 4, 2) := by decide +kernel
theorem dX12_takeOut_40 : decode cX12_takeOut 40 = .ok (.iload_n 3, 1) := by decide +kernel
theorem dX12_takeOut_41 : decode cX12_takeOut 41 = .ok (.if_icmp .ge 30, 3) := by decide +kernel
theorem dX12_takeOut_44 : decode cX12_takeOut 44 = .ok (.aload_n 0, 1) := by decide +kernel
theorem dX12_takeOut_45 : decode cX12_takeOut 45 = .ok (.getfield 44, 3) := by decide +kernel
theorem dX12_takeOut_48 : decode cX12_takeOut 48 = .ok (.iload 4, 2) := by decide +kernel
theorem dX12_takeOut_50 : decode cX12_takeOut 50 = .ok (.aload_n 0, 1) := by decide +kernel
theorem dX12_takeOut_51 : decode cX12_takeOut 51 = .ok (.getfield 16, 3) := by decide +kernel
theorem dX12_takeOut_54 : decode cX12_takeOut 54 = .ok (.bipush 40, 2) := by decide +kernel
theorem dX12_takeOut_56 : decode cX12_takeOut 56 = .ok (.iload_n 1, 1) := by decide +kernel
theorem dX12_takeOut_57 : decode cX12_takeOut 57 = .ok (.imul, 1) := by decide +kernel
theorem dX12_takeOut_58 : decode cX12_takeOut 58 = .ok (.iload_n 2, 1) := by decide +kernel
theorem dX12_takeOut_59 : decode cX12_takeOut 59 = .ok (.iadd, 1) := by decide +kernel
theorem dX12_takeOut_60 : decode cX12_takeOut 60 = .ok (.iload 4, 2) := by decide +kernel
theorem dX12_takeOut_62 : decode cX12_takeOut 62 = .ok (.iadd, 1) := by decide +kernel
theorem dX12_takeOut_63 : decode cX12_takeOut 63 = .ok (.iaload, 1) := by decide +kernel
theorem dX12_takeOut_64 : decode cX12_takeOut 64 = .ok (.iastore, 1) := by decide +kernel
theorem dX12_takeOut_65 : decode cX12_takeOut 65 = .ok (.iinc 4 1, 3) := by decide +kernel
theorem dX12_takeOut_68 : decode cX12_takeOut 68 = .ok (.goto (-30), 3) := by decide +kernel
theorem dX12_takeOut_71 : decode cX12_takeOut 71 = .ok (.iconst 0, 1) := by decide +kernel
theorem dX12_takeOut_72 : decode cX12_takeOut 72 = .ok (.ireturn, 1) := by decide +kernel
theorem dX12_isSo_0 : decode cX12_isSo 0 = .ok (.iconst 0, 1) := by decide +kernel
theorem dX12_isSo_1 : decode cX12_isSo 1 = .ok (.istore_n 2, 1) := by decide +kernel
theorem dX12_isSo_2 : decode cX12_isSo 2 = .ok (.iload_n 2, 1) := by decide +kernel
theorem dX12_isSo_3 : decode cX12_isSo 3 = .ok (.iload_n 1, 1) := by decide +kernel
theorem dX12_isSo_4 : decode cX12_isSo 4 = .ok (.if_icmp .ge 32, 3) := by decide +kernel
theorem dX12_isSo_7 : decode cX12_isSo 7 = .ok (.aload_n 0, 1) := by decide +kernel
theorem dX12_isSo_8 : decode cX12_isSo 8 = .ok (.getfield 28, 3) := by decide +kernel
theorem dX12_isSo_11 : decode cX12_isSo 11 = .ok (.invokestatic 147, 3) := by decide +kernel
theorem dX12_isSo_14 : decode cX12_isSo 14 = .ok (.aload_n 0, 1) := by decide +kernel
theorem dX12_isSo_15 : decode cX12_isSo 15 = .ok (.getfield 44, 3) := by decide +kernel
theorem dX12_isSo_18 : decode cX12_isSo 18 = .ok (.iload_n 2, 1) := by decide +kernel
theorem dX12_isSo_19 : decode cX12_isSo 19 = .ok (.iaload, 1) := by decide +kernel
theorem dX12_isSo_20 : decode cX12_isSo 20 = .ok (.if_icmp .eq 5, 3) := by decide +kernel
theorem dX12_isSo_23 : decode cX12_isSo 23 = .ok (.iconst 0, 1) := by decide +kernel
theorem dX12_isSo_24 : decode cX12_isSo 24 = .ok (.ireturn, 1) := by decide +kernel
theorem dX12_isSo_25 : decode cX12_isSo 25 = .ok (.aload_n 0, 1) := by decide +kernel
theorem dX12_isSo_26 : decode cX12_isSo 26 = .ok (.iconst 1, 1) := by decide +kernel
theorem dX12_isSo_27 : decode cX12_isSo 27 = .ok (.invokevirtual 174, 3) := by decide +kernel
theorem dX12_isSo_30 : decode cX12_isSo 30 = .ok (.iinc 2 1, 3) := by decide +kernel
theorem dX12_isSo_33 : decode cX12_isSo 33 = .ok (.goto (-31), 3) := by decide +kernel
theorem dX12_isSo_36 : decode cX12_isSo 36 = .ok (.iconst 1, 1) := by decide +kernel
theorem dX12_isSo_37 : decode cX12_isSo 37 = .ok (.ireturn, 1) := by decide +kernel
theorem dX12_fits_0 : decode cX12_fits 0 = .ok (.aload_n 0, 1) := by decide +kernel
theorem dX12_fits_1 : decode cX12_fits 1 = .ok (.iload_n 1, 1) := by decide +kernel
theorem dX12_fits_2 : decode cX12_fits 2 = .ok (.invokevirtual 168, 3) := by decide +kernel
theorem dX12_fits_5 : decode cX12_fits 5 = .ok (.ifCond .eq 31, 3) := by decide +kernel
theorem dX12_fits_8 : decode cX12_fits 8 = .ok (.iload_n 2, 1) := by decide +kernel
theorem dX12_fits_9 : decode cX12_fits 9 = .ok (.invokestatic 62, 3) := by decide +kernel
theorem dX12_fits_12 : decode cX12_fits 12 = .ok (.ifCond .eq 24, 3) := by decide +kernel
theorem dX12_fits_15 : decode cX12_fits 15 = .ok (.iload 4, 2) := by decide +kernel
theorem dX12_fits_17 : decode cX12_fits 17 = .ok (.iconst 1, 1) := by decide +kernel
theorem dX12_fits_18 : decode cX12_fits 18 = .ok (.bipush 16, 2) := by decide +kernel
theorem dX12_fits_20 : decode cX12_fits 20 = .ok (.invokestatic 53, 3) := by decide +kernel
theorem dX12_fits_23 : decode cX12_fits 23 = .ok (.ifCond .eq 13, 3) := by decide +kernel
theorem dX12_fits_26 : decode cX12_fits 26 = .ok (.iload 5, 2) := by decide +kernel
theorem dX12_fits_28 : decode cX12_fits 28 = .ok (.iconst 0, 1) := by decide +kernel
theorem dX12_fits_29 : decode cX12_fits 29 = .ok (.iconst 3, 1) := by decide +kernel
theorem dX12_fits_30 : decode cX12_fits 30 = .ok (.invokestatic 53, 3) := by decide +kernel
theorem dX12_fits_33 : decode cX12_fits 33 = .ok (.ifCond .ne 6, 3) := by decide +kernel
theorem dX12_fits_36 : decode cX12_fits 36 = .ok (.ldc 66, 2) := by decide +kernel
theorem dX12_fits_38 : decode cX12_fits 38 = .ok (.ireturn, 1) := by decide +kernel
theorem dX12_fits_39 : decode cX12_fits 39 = .ok (.aload_n 0, 1) := by decide +kernel
theorem dX12_fits_40 : decode cX12_fits 40 = .ok (.iload_n 2, 1) := by decide +kernel
theorem dX12_fits_41 : decode cX12_fits 41 = .ok (.iload_n 3, 1) := by decide +kernel
theorem dX12_fits_42 : decode cX12_fits 42 = .ok (.iload 4, 2) := by decide +kernel
theorem dX12_fits_44 : decode cX12_fits 44 = .ok (.invokevirtual 195, 3) := by decide +kernel
theorem dX12_fits_47 : decode cX12_fits 47 = .ok (.istore 6, 2) := by decide +kernel
theorem dX12_fits_49 : decode cX12_fits 49 = .ok (.iload 6, 2) := by decide +kernel
theorem dX12_fits_51 : decode cX12_fits 51 = .ok (.ifCond .ge 6, 3) := by decide +kernel
theorem dX12_fits_54 : decode cX12_fits 54 = .ok (.iload 6, 2) := by decide +kernel
theorem dX12_fits_56 : decode cX12_fits 56 = .ok (.ireturn, 1) := by decide +kernel
theorem dX12_fits_57 : decode cX12_fits 57 = .ok (.iload 5, 2) := by decide +kernel
theorem dX12_fits_59 : decode cX12_fits 59 = .ok (.iconst 2, 1) := by decide +kernel
theorem dX12_fits_60 : decode cX12_fits 60 = .ok (.if_icmp .ne 7, 3) := by decide +kernel
theorem dX12_fits_63 : decode cX12_fits 63 = .ok (.iconst 1, 1) := by decide +kernel
theorem dX12_fits_64 : decode cX12_fits 64 = .ok (.goto 4, 3) := by decide +kernel
theorem dX12_fits_67 : decode cX12_fits 67 = .ok (.iconst 0, 1) := by decide +kernel
theorem dX12_fits_68 : decode cX12_fits 68 = .ok (.istore 7, 2) := by decide +kernel
theorem dX12_fits_70 : decode cX12_fits 70 = .ok (.iload 5, 2) := by decide +kernel
theorem dX12_fits_72 : decode cX12_fits 72 = .ok (.ifCond .ne 8, 3) := by decide +kernel
theorem dX12_fits_75 : decode cX12_fits 75 = .ok (.bipush 9, 2) := by decide +kernel
theorem dX12_fits_77 : decode cX12_fits 77 = .ok (.goto 25, 3) := by decide +kernel
theorem dX12_fits_80 : decode cX12_fits 80 = .ok (.iload 5, 2) := by decide +kernel
theorem dX12_fits_82 : decode cX12_fits 82 = .ok (.iconst 1, 1) := by decide +kernel
theorem dX12_fits_83 : decode cX12_fits 83 = .ok (.if_icmp .ne 7, 3) := by decide +kernel
theorem dX12_fits_86 : decode cX12_fits 86 = .ok (.iconst 2, 1) := by decide +kernel
theorem dX12_fits_87 : decode cX12_fits 87 = .ok (.goto 15, 3) := by decide +kernel
theorem dX12_fits_90 : decode cX12_fits 90 = .ok (.iload 5, 2) := by decide +kernel
theorem dX12_fits_92 : decode cX12_fits 92 = .ok (.iconst 2, 1) := by decide +kernel
theorem dX12_fits_93 : decode cX12_fits 93 = .ok (.if_icmp .ne 7, 3) := by decide +kernel
theorem dX12_fits_96 : decode cX12_fits 96 = .ok (.iconst 5, 1) := by decide +kernel
theorem dX12_fits_97 : decode cX12_fits 97 = .ok (.goto 5, 3) := by decide +kernel
theorem dX12_fits_100 : decode cX12_fits 100 = .ok (.bipush 29, 2) := by decide +kernel
theorem dX12_fits_102 : decode cX12_fits 102 = .ok (.istore 8, 2) := by decide +kernel
theorem dX12_fits_104 : decode cX12_fits 104 = .ok (.iconst 0, 1) := by decide +kernel
theorem dX12_fits_105 : decode cX12_fits 105 = .ok (.istore 9, 2) := by decide +kernel
theorem dX12_fits_107 : decode cX12_fits 107 = .ok (.iload 7, 2) := by decide +kernel
theorem dX12_fits_109 : decode cX12_fits 109 = .ok (.istore 10, 2) := by decide +kernel
theorem dX12_fits_111 : decode cX12_fits 111 = .ok (.iload 10, 2) := by decide +kernel
theorem dX12_fits_113 : decode cX12_fits 113 = .ok (.iload 8, 2) := by decide +kernel
theorem dX12_fits_115 : decode cX12_fits 115 = .ok (.if_icmp .gt 78, 3) := by decide +kernel
theorem dX12_fits_118 : decode cX12_fits 118 = .ok (.aload_n 0, 1) := by decide +kernel
theorem dX12_fits_119 : decode cX12_fits 119 = .ok (.invokevirtual 171, 3) := by decide +kernel
theorem dX12_fits_122 : decode cX12_fits 122 = .ok (.aload_n 0, 1) := by decide +kernel
theorem dX12_fits_123 : decode cX12_fits 123 = .ok (.getfield 28, 3) := by decide +kernel
theorem dX12_fits_126 : decode cX12_fits 126 = .ok (.iload 5, 2) := by decide +kernel
theorem dX12_fits_128 : decode cX12_fits 128 = .ok (.ifCond .ne 8, 3) := by decide +kernel
theorem dX12_fits_131 : decode cX12_fits 131 = .ok (.bipush 14, 2) := by decide +kernel
theorem dX12_fits_133 : decode cX12_fits 133 = .ok (.goto 27, 3) := by decide +kernel
theorem dX12_fits_136 : decode cX12_fits 136 = .ok (.iload 5, 2) := by decide +kernel
theorem dX12_fits_138 : decode cX12_fits 138 = .ok (.iconst 1, 1) := by decide +kernel
theorem dX12_fits_139 : decode cX12_fits 139 = .ok (.if_icmp .ne 8, 3) := by decide +kernel
theorem dX12_fits_142 : decode cX12_fits 142 = .ok (.bipush 19, 2) := by decide +kernel
theorem dX12_fits_144 : decode cX12_fits 144 = .ok (.goto 16, 3) := by decide +kernel
theorem dX12_fits_147 : decode cX12_fits 147 = .ok (.iload 5, 2) := by decide +kernel
theorem dX12_fits_149 : decode cX12_fits 149 = .ok (.iconst 2, 1) := by decide +kernel
theorem dX12_fits_150 : decode cX12_fits 150 = .ok (.if_icmp .ne 8, 3) := by decide +kernel
theorem dX12_fits_153 : decode cX12_fits 153 = .ok (.bipush 9, 2) := by decide +kernel
theorem dX12_fits_155 : decode cX12_fits 155 = .ok (.goto 5, 3) := by decide +kernel
theorem dX12_fits_158 : decode cX12_fits 158 = .ok (.bipush 24, 2) := by decide +kernel
theorem dX12_fits_160 : decode cX12_fits 160 = .ok (.iload_n 1, 1) := by decide +kernel
theorem dX12_fits_161 : decode cX12_fits 161 = .ok (.iadd, 1) := by decide +kernel
theorem dX12_fits_162 : decode cX12_fits 162 = .ok (.iload 10, 2) := by decide +kernel
theorem dX12_fits_164 : decode cX12_fits 164 = .ok (.iastore, 1) := by decide +kernel
theorem dX12_fits_165 : decode cX12_fits 165 = .ok (.iload 9, 2) := by decide +kernel
theorem dX12_fits_167 : decode cX12_fits 167 = .ok (.aload_n 0, 1) := by decide +kernel
theorem dX12_fits_168 : decode cX12_fits 168 = .ok (.iload 4, 2) := by decide +kernel
theorem dX12_fits_170 : decode cX12_fits 170 = .ok (.invokevirtual 199, 3) := by decide +kernel
theorem dX12_fits_173 : decode cX12_fits 173 = .ok (.ifCond .eq 10, 3) := by decide +kernel
theorem dX12_fits_176 : decode cX12_fits 176 = .ok (.iconst 1, 1) := by decide +kernel
theorem dX12_fits_177 : decode cX12_fits 177 = .ok (.iload 10, 2) := by decide +kernel
theorem dX12_fits_179 : decode cX12_fits 179 = .ok (.ishl, 1) := by decide +kernel
theorem dX12_fits_180 : decode cX12_fits 180 = .ok (.goto 4, 3) := by decide +kernel
theorem dX12_fits_183 : decode cX12_fits 183 = .ok (.iconst 0, 1) := by decide +kernel
theorem dX12_fits_184 : decode cX12_fits 184 = .ok (.ior, 1) := by decide +kernel
theorem dX12_fits_185 : decode cX12_fits 185 = .ok (.istore 9, 2) := by decide +kernel
theorem dX12_fits_187 : decode cX12_fits 187 = .ok (.iinc 10 1, 3) := by decide +kernel
theorem dX12_fits_190 : decode cX12_fits 190 = .ok (.goto (-79), 3) := by decide +kernel
theorem dX12_fits_193 : decode cX12_fits 193 = .ok (.aload_n 0, 1) := by decide +kernel
theorem dX12_fits_194 : decode cX12_fits 194 = .ok (.iload 9, 2) := by decide +kernel
theorem dX12_fits_196 : decode cX12_fits 196 = .ok (.invokevirtual 71, 3) := by decide +kernel
theorem dX12_fits_199 : decode cX12_fits 199 = .ok (.ireturn, 1) := by decide +kernel
theorem dX12_fire_0 : decode cX12_fire 0 = .ok (.aload_n 0, 1) := by decide +kernel
theorem dX12_fire_1 : decode cX12_fire 1 = .ok (.invokevirtual 154, 3) := by decide +kernel
theorem dX12_fire_4 : decode cX12_fire 4 = .ok (.ifCond .ne 6, 3) := by decide +kernel
theorem dX12_fire_7 : decode cX12_fire 7 = .ok (.ldc 157, 2) := by decide +kernel
theorem dX12_fire_9 : decode cX12_fire 9 = .ok (.ireturn, 1) := by decide +kernel
theorem dX12_fire_10 : decode cX12_fire 10 = .ok (.iload_n 1, 1) := by decide +kernel
theorem dX12_fire_11 : decode cX12_fire 11 = .ok (.iconst 0, 1) := by decide +kernel
theorem dX12_fire_12 : decode cX12_fire 12 = .ok (.sipush 200, 3) := by decide +kernel
theorem dX12_fire_15 : decode cX12_fire 15 = .ok (.invokestatic 53, 3) := by decide +kernel
theorem dX12_fire_18 : decode cX12_fire 18 = .ok (.ifCond .eq 22, 3) := by decide +kernel
theorem dX12_fire_21 : decode cX12_fire 21 = .ok (.iload_n 2, 1) := by decide +kernel
theorem dX12_fire_22 : decode cX12_fire 22 = .ok (.iconst 0, 1) := by decide +kernel
theorem dX12_fire_23 : decode cX12_fire 23 = .ok (.bipush 10, 2) := by decide +kernel
theorem dX12_fire_25 : decode cX12_fire 25 = .ok (.invokestatic 53, 3) := by decide +kernel
theorem dX12_fire_28 : decode cX12_fire 28 = .ok (.ifCond .eq 12, 3) := by decide +kernel
theorem dX12_fire_31 : decode cX12_fire 31 = .ok (.iload_n 3, 1) := by decide +kernel
theorem dX12_fire_32 : decode cX12_fire 32 = .ok (.iconst 0, 1) := by decide +kernel
theorem dX12_fire_33 : decode cX12_fire 33 = .ok (.iconst 1, 1) := by decide +kernel
theorem dX12_fire_34 : decode cX12_fire 34 = .ok (.invokestatic 53, 3) := by decide +kernel
theorem dX12_fire_37 : decode cX12_fire 37 = .ok (.ifCond .ne 6, 3) := by decide +kernel
theorem dX12_fire_40 : decode cX12_fire 40 = .ok (.ldc 66, 2) := by decide +kernel
theorem dX12_fire_42 : decode cX12_fire 42 = .ok (.ireturn, 1) := by decide +kernel
theorem dX12_fire_43 : decode cX12_fire 43 = .ok (.iconst 0, 1) := by decide +kernel
theorem dX12_fire_44 : decode cX12_fire 44 = .ok (.istore 4, 2) := by decide +kernel
theorem dX12_fire_46 : decode cX12_fire 46 = .ok (.iconst 1, 1) := by decide +kernel
theorem dX12_fire_47 : decode cX12_fire 47 = .ok (.istore 5, 2) := by decide +kernel
theorem dX12_fire_49 : decode cX12_fire 49 = .ok (.iconst 0, 1) := by decide +kernel
theorem dX12_fire_50 : decode cX12_fire 50 = .ok (.istore 6, 2) := by decide +kernel
theorem dX12_fire_52 : decode cX12_fire 52 = .ok (.iload 6, 2) := by decide +kernel
theorem dX12_fire_54 : decode cX12_fire 54 = .ok (.aload_n 0, 1) := by decide +kernel
theorem dX12_fire_55 : decode cX12_fire 55 = .ok (.getfield 22, 3) := by decide +kernel
theorem dX12_fire_58 : decode cX12_fire 58 = .ok (.iconst 3, 1) := by decide +kernel
theorem dX12_fire_59 : decode cX12_fire 59 = .ok (.iaload, 1) := by decide +kernel
theorem dX12_fire_60 : decode cX12_fire 60 = .ok (.if_icmp .ge 16, 3) := by decide +kernel
theorem dX12_fire_63 : decode cX12_fire 63 = .ok (.iload 5, 2) := by decide +kernel
theorem dX12_fire_65 : decode cX12_fire 65 = .ok (.bipush 10, 2) := by decide +kernel
theorem dX12_fire_67 : decode cX12_fire 67 = .ok (.imul, 1) := by decide +kernel
theorem dX12_fire_68 : decode cX12_fire 68 = .ok (.istore 5, 2) := by decide +kernel
theorem dX12_fire_70 : decode cX12_fire 70 = .ok (.iinc 6 1, 3) := by decide +kernel
theorem dX12_fire_73 : decode cX12_fire 73 = .ok (.goto (-21), 3) := by decide +kernel
theorem dX12_fire_76 : decode cX12_fire 76 = .ok (.iconst 0, 1) := by decide +kernel
theorem dX12_fire_77 : decode cX12_fire 77 = .ok (.istore 6, 2) := by decide +kernel
theorem dX12_fire_79 : decode cX12_fire 79 = .ok (.iload 6, 2) := by decide +kernel
theorem dX12_fire_81 : decode cX12_fire 81 = .ok (.iconst 1, 1) := by decide +kernel
theorem dX12_fire_82 : decode cX12_fire 82 = .ok (.aload_n 0, 1) := by decide +kernel
theorem dX12_fire_83 : decode cX12_fire 83 = .ok (.getfield 22, 3) := by decide +kernel
theorem dX12_fire_86 : decode cX12_fire 86 = .ok (.iconst 3, 1) := by decide +kernel
theorem dX12_fire_87 : decode cX12_fire 87 = .ok (.iaload, 1) := by decide +kernel
theorem dX12_fire_88 : decode cX12_fire 88 = .ok (.ishl, 1) := by decide +kernel
theorem dX12_fire_89 : decode cX12_fire 89 = .ok (.if_icmp .ge 103, 3) := by decide +kernel
theorem dX12_fire_92 : decode cX12_fire 92 = .ok (.iconst 1, 1) := by decide +kernel
theorem dX12_fire_93 : decode cX12_fire 93 = .ok (.istore 7, 2) := by decide +kernel
theorem dX12_fire_95 : decode cX12_fire 95 = .ok (.iconst 0, 1) := by decide +kernel
theorem dX12_fire_96 : decode cX12_fire 96 = .ok (.istore 8, 2) := by decide +kernel
theorem dX12_fire_98 : decode cX12_fire 98 = .ok (.iconst 0, 1) := by decide +kernel
theorem dX12_fire_99 : decode cX12_fire 99 = .ok (.istore 9, 2) := by decide +kernel
theorem dX12_fire_101 : decode cX12_fire 101 = .ok (.iload 9, 2) := by decide +kernel
theorem dX12_fire_103 : decode cX12_fire 103 = .ok (.aload_n 0, 1) := by decide +kernel
theorem dX12_fire_104 : decode cX12_fire 104 = .ok (.getfield 22, 3) := by decide +kernel
theorem dX12_fire_107 : decode cX12_fire 107 = .ok (.iconst 3, 1) := by decide +kernel
theorem dX12_fire_108 : decode cX12_fire 108 = .ok (.iaload, 1) := by decide +kernel
theorem dX12_fire_109 : decode cX12_fire 109 = .ok (.if_icmp .ge 60, 3) := by decide +kernel
theorem dX12_fire_112 : decode cX12_fire 112 = .ok (.iload 7, 2) := by decide +kernel
theorem dX12_fire_114 : decode cX12_fire 114 = .ok (.iload 6, 2) := by decide +kernel
theorem dX12_fire_116 : decode cX12_fire 116 = .ok (.iload 9, 2) := by decide +kernel
theorem dX12_fire_118 : decode cX12_fire 118 = .ok (.invokestatic 202, 3) := by decide +kernel
theorem dX12_fire_121 : decode cX12_fire 121 = .ok (.ifCond .eq 7, 3) := by decide +kernel
theorem dX12_fire_124 : decode cX12_fire 124 = .ok (.iload_n 2, 1) := by decide +kernel
theorem dX12_fire_125 : decode cX12_fire 125 = .ok (.goto 7, 3) := by decide +kernel
theorem dX12_fire_128 : decode cX12_fire 128 = .ok (.bipush 10, 2) := by decide +kernel
theorem dX12_fire_130 : decode cX12_fire 130 = .ok (.iload_n 2, 1) := by decide +kernel
theorem dX12_fire_131 : decode cX12_fire 131 = .ok (.isub, 1) := by decide +kernel
theorem dX12_fire_132 : decode cX12_fire 132 = .ok (.imul, 1) := by decide +kernel
theorem dX12_fire_133 : decode cX12_fire 133 = .ok (.istore 7, 2) := by decide +kernel
theorem dX12_fire_135 : decode cX12_fire 135 = .ok (.iload 8, 2) := by decide +kernel
theorem dX12_fire_137 : decode cX12_fire 137 = .ok (.iload 6, 2) := by decide +kernel
theorem dX12_fire_139 : decode cX12_fire 139 = .ok (.iload 9, 2) := by decide +kernel
theorem dX12_fire_141 : decode cX12_fire 141 = .ok (.invokestatic 202, 3) := by decide +kernel
theorem dX12_fire_144 : decode cX12_fire 144 = .ok (.ifCond .eq 7, 3) := by decide +kernel
theorem dX12_fire_147 : decode cX12_fire 147 = .ok (.iconst 0, 1) := by decide +kernel
theorem dX12_fire_148 : decode cX12_fire 148 = .ok (.goto 12, 3) := by decide +kernel
theorem dX12_fire_151 : decode cX12_fire 151 = .ok (.aload_n 0, 1) := by decide +kernel
theorem dX12_fire_152 : decode cX12_fire 152 = .ok (.getfield 22, 3) := by decide +kernel
theorem dX12_fire_155 : decode cX12_fire 155 = .ok (.iload 9, 2) := by decide +kernel
theorem dX12_fire_157 : decode cX12_fire 157 = .ok (.invokestatic 143, 3) := by decide +kernel
theorem dX12_fire_160 : decode cX12_fire 160 = .ok (.iadd, 1) := by decide +kernel
theorem dX12_fire_161 : decode cX12_fire 161 = .ok (.istore 8, 2) := by decide +kernel
theorem dX12_fire_163 : decode cX12_fire 163 = .ok (.iinc 9 1, 3) := by decide +kernel
theorem dX12_fire_166 : decode cX12_fire 166 = .ok (.goto (-65), 3) := by decide +kernel
theorem dX12_fire_169 : decode cX12_fire 169 = .ok (.iload 4, 2) := by decide +kernel
theorem dX12_fire_171 : decode cX12_fire 171 = .ok (.iload 8, 2) := by decide +kernel
theorem dX12_fire_173 : decode cX12_fire 173 = .ok (.iload_n 1, 1) := by decide +kernel
theorem dX12_fire_174 : decode cX12_fire 174 = .ok (.if_icmp .lt 8, 3) := by decide +kernel
theorem dX12_fire_177 : decode cX12_fire 177 = .ok (.iload 7, 2) := by decide +kernel
theorem dX12_fire_179 : decode cX12_fire 179 = .ok (.goto 4, 3) := by decide +kernel
theorem dX12_fire_182 : decode cX12_fire 182 = .ok (.iconst 0, 1) := by decide +kernel
theorem dX12_fire_183 : decode cX12_fire 183 = .ok (.iadd, 1) := by decide +kernel
theorem dX12_fire_184 : decode cX12_fire 184 = .ok (.istore 4, 2) := by decide +kernel
theorem dX12_fire_186 : decode cX12_fire 186 = .ok (.iinc 6 1, 3) := by decide +kernel
theorem dX12_fire_189 : decode cX12_fire 189 = .ok (.goto (-110), 3) := by decide +kernel
theorem dX12_fire_192 : decode cX12_fire 192 = .ok (.iload 4, 2) := by decide +kernel
theorem dX12_fire_194 : decode cX12_fire 194 = .ok (.istore 6, 2) := by decide +kernel
theorem dX12_fire_196 : decode cX12_fire 196 = .ok (.iload 5, 2) := by decide +kernel
theorem dX12_fire_198 : decode cX12_fire 198 = .ok (.istore 7, 2) := by decide +kernel
theorem dX12_fire_200 : decode cX12_fire 200 = .ok (.iload 7, 2) := by decide +kernel
theorem dX12_fire_202 : decode cX12_fire 202 = .ok (.ifCond .le 21, 3) := by decide +kernel
theorem dX12_fire_205 : decode cX12_fire 205 = .ok (.iload 6, 2) := by decide +kernel
theorem dX12_fire_207 : decode cX12_fire 207 = .ok (.iload 7, 2) := by decide +kernel
theorem dX12_fire_209 : decode cX12_fire 209 = .ok (.irem, 1) := by decide +kernel
theorem dX12_fire_210 : decode cX12_fire 210 = .ok (.istore 8, 2) := by decide +kernel
theorem dX12_fire_212 : decode cX12_fire 212 = .ok (.iload 7, 2) := by decide +kernel
theorem dX12_fire_214 : decode cX12_fire 214 = .ok (.istore 6, 2) := by decide +kernel
theorem dX12_fire_216 : decode cX12_fire 216 = .ok (.iload 8, 2) := by decide +kernel
theorem dX12_fire_218 : decode cX12_fire 218 = .ok (.istore 7, 2) := by decide +kernel
theorem dX12_fire_220 : decode cX12_fire 220 = .ok (.goto (-20), 3) := by decide +kernel
theorem dX12_fire_223 : decode cX12_fire 223 = .ok (.iload_n 3, 1) := by decide +kernel
theorem dX12_fire_224 : decode cX12_fire 224 = .ok (.ifCond .ne 8, 3) := by decide +kernel
theorem dX12_fire_227 : decode cX12_fire 227 = .ok (.iload 4, 2) := by decide +kernel
theorem dX12_fire_229 : decode cX12_fire 229 = .ok (.goto 5, 3) := by decide +kernel
theorem dX12_fire_232 : decode cX12_fire 232 = .ok (.iload 5, 2) := by decide +kernel
theorem dX12_fire_234 : decode cX12_fire 234 = .ok (.iload 6, 2) := by decide +kernel
theorem dX12_fire_236 : decode cX12_fire 236 = .ok (.idiv, 1) := by decide +kernel
theorem dX12_fire_237 : decode cX12_fire 237 = .ok (.ireturn, 1) := by decide +kernel
theorem dX12_allSpans_0 : decode cX12_allSpans 0 = .ok (.iconst 0, 1) := by decide +kernel
theorem dX12_allSpans_1 : decode cX12_allSpans 1 = .ok (.istore_n 2, 1) := by decide +kernel
theorem dX12_allSpans_2 : decode cX12_allSpans 2 = .ok (.iconst 0, 1) := by decide +kernel
theorem dX12_allSpans_3 : decode cX12_allSpans 3 = .ok (.istore_n 3, 1) := by decide +kernel
theorem dX12_allSpans_4 : decode cX12_allSpans 4 = .ok (.iload_n 3, 1) := by decide +kernel
theorem dX12_allSpans_5 : decode cX12_allSpans 5 = .ok (.aload_n 1, 1) := by decide +kernel
theorem dX12_allSpans_6 : decode cX12_allSpans 6 = .ok (.iconst 3, 1) := by decide +kernel
theorem dX12_allSpans_7 : decode cX12_allSpans 7 = .ok (.iaload, 1) := by decide +kernel
theorem dX12_allSpans_8 : decode cX12_allSpans 8 = .ok (.if_icmp .ge 18, 3) := by decide +kernel
theorem dX12_allSpans_11 : decode cX12_allSpans 11 = .ok (.iload_n 2, 1) := by decide +kernel
theorem dX12_allSpans_12 : decode cX12_allSpans 12 = .ok (.aload_n 1, 1) := by decide +kernel
theorem dX12_allSpans_13 : decode cX12_allSpans 13 = .ok (.bipush 24, 2) := by decide +kernel
theorem dX12_allSpans_15 : decode cX12_allSpans 15 = .ok (.iload_n 3, 1) := by decide +kernel
theorem dX12_allSpans_16 : decode cX12_allSpans 16 = .ok (.iadd, 1) := by decide +kernel
theorem dX12_allSpans_17 : decode cX12_allSpans 17 = .ok (.iaload, 1) := by decide +kernel
theorem dX12_allSpans_18 : decode cX12_allSpans 18 = .ok (.iadd, 1) := by decide +kernel
theorem dX12_allSpans_19 : decode cX12_allSpans 19 = .ok (.istore_n 2, 1) := by decide +kernel
theorem dX12_allSpans_20 : decode cX12_allSpans 20 = .ok (.iinc 3 1, 3) := by decide +kernel
theorem dX12_allSpans_23 : decode cX12_allSpans 23 = .ok (.goto (-19), 3) := by decide +kernel
theorem dX12_allSpans_26 : decode cX12_allSpans 26 = .ok (.iload_n 2, 1) := by decide +kernel
theorem dX12_allSpans_27 : decode cX12_allSpans 27 = .ok (.ireturn, 1) := by decide +kernel
theorem dX12_drawn_0 : decode cX12_drawn 0 = .ok (.aload_n 0, 1) := by decide +kernel
theorem dX12_drawn_1 : decode cX12_drawn 1 = .ok (.invokevirtual 154, 3) := by decide +kernel
theorem dX12_drawn_4 : decode cX12_drawn 4 = .ok (.ifCond .ne 6, 3) := by decide +kernel
theorem dX12_drawn_7 : decode cX12_drawn 7 = .ok (.ldc 157, 2) := by decide +kernel
theorem dX12_drawn_9 : decode cX12_drawn 9 = .ok (.ireturn, 1) := by decide +kernel
theorem dX12_drawn_10 : decode cX12_drawn 10 = .ok (.iload_n 1, 1) := by decide +kernel
theorem dX12_drawn_11 : decode cX12_drawn 11 = .ok (.iconst 0, 1) := by decide +kernel
theorem dX12_drawn_12 : decode cX12_drawn 12 = .ok (.bipush 60, 2) := by decide +kernel
theorem dX12_drawn_14 : decode cX12_drawn 14 = .ok (.invokestatic 53, 3) := by decide +kernel
theorem dX12_drawn_17 : decode cX12_drawn 17 = .ok (.ifCond .eq 22, 3) := by decide +kernel
theorem dX12_drawn_20 : decode cX12_drawn 20 = .ok (.iload_n 2, 1) := by decide +kernel
theorem dX12_drawn_21 : decode cX12_drawn 21 = .ok (.iconst 1, 1) := by decide +kernel
theorem dX12_drawn_22 : decode cX12_drawn 22 = .ok (.ldc 205, 2) := by decide +kernel
theorem dX12_drawn_24 : decode cX12_drawn 24 = .ok (.invokestatic 53, 3) := by decide +kernel
theorem dX12_drawn_27 : decode cX12_drawn 27 = .ok (.ifCond .eq 12, 3) := by decide +kernel
theorem dX12_drawn_30 : decode cX12_drawn 30 = .ok (.iload_n 3, 1) := by decide +kernel
theorem dX12_drawn_31 : decode cX12_drawn 31 = .ok (.iconst 0, 1) := by decide +kernel
theorem dX12_drawn_32 : decode cX12_drawn 32 = .ok (.iconst 1, 1) := by decide +kernel
theorem dX12_drawn_33 : decode cX12_drawn 33 = .ok (.invokestatic 53, 3) := by decide +kernel
theorem dX12_drawn_36 : decode cX12_drawn 36 = .ok (.ifCond .ne 6, 3) := by decide +kernel
theorem dX12_drawn_39 : decode cX12_drawn 39 = .ok (.ldc 66, 2) := by decide +kernel
theorem dX12_drawn_41 : decode cX12_drawn 41 = .ok (.ireturn, 1) := by decide +kernel
theorem dX12_drawn_42 : decode cX12_drawn 42 = .ok (.aload_n 0, 1) := by decide +kernel
theorem dX12_drawn_43 : decode cX12_drawn 43 = .ok (.invokevirtual 171, 3) := by decide +kernel
theorem dX12_drawn_46 : decode cX12_drawn 46 = .ok (.iload_n 2, 1) := by decide +kernel
theorem dX12_drawn_47 : decode cX12_drawn 47 = .ok (.i2l, 1) := by decide +kernel
theorem dX12_drawn_48 : decode cX12_drawn 48 = .ok (.lstore 4, 2) := by decide +kernel
theorem dX12_drawn_50 : decode cX12_drawn 50 = .ok (.iconst 0, 1) := by decide +kernel
theorem dX12_drawn_51 : decode cX12_drawn 51 = .ok (.istore 6, 2) := by decide +kernel
theorem dX12_drawn_53 : decode cX12_drawn 53 = .ok (.iload 6, 2) := by decide +kernel
theorem dX12_drawn_55 : decode cX12_drawn 55 = .ok (.iload_n 1, 1) := by decide +kernel
theorem dX12_drawn_56 : decode cX12_drawn 56 = .ok (.if_icmp .ge 125, 3) := by decide +kernel
theorem dX12_drawn_59 : decode cX12_drawn 59 = .ok (.lload 4, 2) := by decide +kernel
theorem dX12_drawn_61 : decode cX12_drawn 61 = .ok (.ldc2_w 206, 3) := by decide +kernel
theorem dX12_drawn_64 : decode cX12_drawn 64 = .ok (.lmul, 1) := by decide +kernel
theorem dX12_drawn_65 : decode cX12_drawn 65 = .ok (.ldc2_w 208, 3) := by decide +kernel
theorem dX12_drawn_68 : decode cX12_drawn 68 = .ok (.lrem, 1) := by decide +kernel
theorem dX12_drawn_69 : decode cX12_drawn 69 = .ok (.lstore 4, 2) := by decide +kernel
theorem dX12_drawn_71 : decode cX12_drawn 71 = .ok (.aload_n 0, 1) := by decide +kernel
theorem dX12_drawn_72 : decode cX12_drawn 72 = .ok (.getfield 22, 3) := by decide +kernel
theorem dX12_drawn_75 : decode cX12_drawn 75 = .ok (.iconst 3, 1) := by decide +kernel
theorem dX12_drawn_76 : decode cX12_drawn 76 = .ok (.iaload, 1) := by decide +kernel
theorem dX12_drawn_77 : decode cX12_drawn 77 = .ok (.ifCond .ne 7, 3) := by decide +kernel
theorem dX12_drawn_80 : decode cX12_drawn 80 = .ok (.iconst (-1), 1) := by decide +kernel
theorem dX12_drawn_81 : decode cX12_drawn 81 = .ok (.goto 14, 3) := by decide +kernel
theorem dX12_drawn_84 : decode cX12_drawn 84 = .ok (.lload 4, 2) := by decide +kernel
theorem dX12_drawn_86 : decode cX12_drawn 86 = .ok (.aload_n 0, 1) := by decide +kernel
theorem dX12_drawn_87 : decode cX12_drawn 87 = .ok (.getfield 22, 3) := by decide +kernel
theorem dX12_drawn_90 : decode cX12_drawn 90 = .ok (.iconst 3, 1) := by decide +kernel
theorem dX12_drawn_91 : decode cX12_drawn 91 = .ok (.iaload, 1) := by decide +kernel
theorem dX12_drawn_92 : decode cX12_drawn 92 = .ok (.i2l, 1) := by decide +kernel
theorem dX12_drawn_93 : decode cX12_drawn 93 = .ok (.lrem, 1) := by decide +kernel
theorem dX12_drawn_94 : decode cX12_drawn 94 = .ok (.l2i, 1) := by decide +kernel
theorem dX12_drawn_95 : decode cX12_drawn 95 = .ok (.istore 7, 2) := by decide +kernel
theorem dX12_drawn_97 : decode cX12_drawn 97 = .ok (.lload 4, 2) := by decide +kernel
theorem dX12_drawn_99 : decode cX12_drawn 99 = .ok (.ldc2_w 210, 3) := by decide +kernel
theorem dX12_drawn_102 : decode cX12_drawn 102 = .ok (.lrem, 1) := by decide +kernel
theorem dX12_drawn_103 : decode cX12_drawn 103 = .ok (.lconst 0, 1) := by decide +kernel
theorem dX12_drawn_104 : decode cX12_drawn 104 = .ok (.lcmp, 1) := by decide +kernel
theorem dX12_drawn_105 : decode cX12_drawn 105 = .ok (.ifCond .ne 56, 3) := by decide +kernel
theorem dX12_drawn_108 : decode cX12_drawn 108 = .ok (.aload_n 0, 1) := by decide +kernel
theorem dX12_drawn_109 : decode cX12_drawn 109 = .ok (.getfield 28, 3) := by decide +kernel
theorem dX12_drawn_112 : decode cX12_drawn 112 = .ok (.iconst 2, 1) := by decide +kernel
theorem dX12_drawn_113 : decode cX12_drawn 113 = .ok (.iaload, 1) := by decide +kernel
theorem dX12_drawn_114 : decode cX12_drawn 114 = .ok (.ifCond .le 47, 3) := by decide +kernel
theorem dX12_drawn_117 : decode cX12_drawn 117 = .ok (.iload 7, 2) := by decide +kernel
theorem dX12_drawn_119 : decode cX12_drawn 119 = .ok (.ifCond .lt 42, 3) := by decide +kernel
theorem dX12_drawn_122 : decode cX12_drawn 122 = .ok (.aload_n 0, 1) := by decide +kernel
theorem dX12_drawn_123 : decode cX12_drawn 123 = .ok (.getfield 28, 3) := by decide +kernel
theorem dX12_drawn_126 : decode cX12_drawn 126 = .ok (.bipush 24, 2) := by decide +kernel
theorem dX12_drawn_128 : decode cX12_drawn 128 = .ok (.iload 7, 2) := by decide +kernel
theorem dX12_drawn_130 : decode cX12_drawn 130 = .ok (.iadd, 1) := by decide +kernel
theorem dX12_drawn_131 : decode cX12_drawn 131 = .ok (.iaload, 1) := by decide +kernel
theorem dX12_drawn_132 : decode cX12_drawn 132 = .ok (.bipush 99, 2) := by decide +kernel
theorem dX12_drawn_134 : decode cX12_drawn 134 = .ok (.if_icmp .ge 27, 3) := by decide +kernel
theorem dX12_drawn_137 : decode cX12_drawn 137 = .ok (.aload_n 0, 1) := by decide +kernel
theorem dX12_drawn_138 : decode cX12_drawn 138 = .ok (.getfield 28, 3) := by decide +kernel
theorem dX12_drawn_141 : decode cX12_drawn 141 = .ok (.iconst 2, 1) := by decide +kernel
theorem dX12_drawn_142 : decode cX12_drawn 142 = .ok (.dup2, 1) := by decide +kernel
theorem dX12_drawn_143 : decode cX12_drawn 143 = .ok (.iaload, 1) := by decide +kernel
theorem dX12_drawn_144 : decode cX12_drawn 144 = .ok (.iconst 1, 1) := by decide +kernel
theorem dX12_drawn_145 : decode cX12_drawn 145 = .ok (.isub, 1) := by decide +kernel
theorem dX12_drawn_146 : decode cX12_drawn 146 = .ok (.iastore, 1) := by decide +kernel
theorem dX12_drawn_147 : decode cX12_drawn 147 = .ok (.aload_n 0, 1) := by decide +kernel
theorem dX12_drawn_148 : decode cX12_drawn 148 = .ok (.getfield 28, 3) := by decide +kernel
theorem dX12_drawn_151 : decode cX12_drawn 151 = .ok (.bipush 24, 2) := by decide +kernel
theorem dX12_drawn_153 : decode cX12_drawn 153 = .ok (.iload 7, 2) := by decide +kernel
theorem dX12_drawn_155 : decode cX12_drawn 155 = .ok (.iadd, 1) := by decide +kernel
theorem dX12_drawn_156 : decode cX12_drawn 156 = .ok (.dup2, 1) := by decide +kernel
theorem dX12_drawn_157 : decode cX12_drawn 157 = .ok (.iaload, 1) := by decide +kernel
theorem dX12_drawn_158 : decode cX12_drawn 158 = .ok (.iconst 1, 1) := by decide +kernel
theorem dX12_drawn_159 : decode cX12_drawn 159 = .ok (.iadd, 1) := by decide +kernel
theorem dX12_drawn_160 : decode cX12_drawn 160 = .ok (.iastore, 1) := by decide +kernel
theorem dX12_drawn_161 : decode cX12_drawn 161 = .ok (.aload_n 0, 1) := by decide +kernel
theorem dX12_drawn_162 : decode cX12_drawn 162 = .ok (.getfield 28, 3) := by decide +kernel
theorem dX12_drawn_165 : decode cX12_drawn 165 = .ok (.lload 4, 2) := by decide +kernel
theorem dX12_drawn_167 : decode cX12_drawn 167 = .ok (.ldc2_w 212, 3) := by decide +kernel
theorem dX12_drawn_170 : decode cX12_drawn 170 = .ok (.lrem, 1) := by decide +kernel
theorem dX12_drawn_171 : decode cX12_drawn 171 = .ok (.l2i, 1) := by decide +kernel
theorem dX12_drawn_172 : decode cX12_drawn 172 = .ok (.invokestatic 164, 3) := by decide +kernel

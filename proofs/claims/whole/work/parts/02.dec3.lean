theorem dX11_weighGains_1 : decode cX11_weighGains 1 = .ok (.istore_n 3, 1) := by decide +kernel
theorem dX11_weighGains_2 : decode cX11_weighGains 2 = .ok (.iload_n 3, 1) := by decide +kernel
theorem dX11_weighGains_3 : decode cX11_weighGains 3 = .ok (.aload_n 0, 1) := by decide +kernel
theorem dX11_weighGains_4 : decode cX11_weighGains 4 = .ok (.getfield 26, 3) := by decide +kernel
theorem dX11_weighGains_7 : decode cX11_weighGains 7 = .ok (.getfield 173, 3) := by decide +kernel
theorem dX11_weighGains_10 : decode cX11_weighGains 10 = .ok (.if_icmp .ge 85, 3) := by decide +kernel
theorem dX11_weighGains_13 : decode cX11_weighGains 13 = .ok (.iconst 0, 1) := by decide +kernel
theorem dX11_weighGains_14 : decode cX11_weighGains 14 = .ok (.istore 4, 2) := by decide +kernel
theorem dX11_weighGains_16 : decode cX11_weighGains 16 = .ok (.iload 4, 2) := by decide +kernel
theorem dX11_weighGains_18 : decode cX11_weighGains 18 = .ok (.iload_n 2, 1) := by decide +kernel
theorem dX11_weighGains_19 : decode cX11_weighGains 19 = .ok (.if_icmp .gt 70, 3) := by decide +kernel
theorem dX11_weighGains_22 : decode cX11_weighGains 22 = .ok (.aload_n 0, 1) := by decide +kernel
theorem dX11_weighGains_23 : decode cX11_weighGains 23 = .ok (.getfield 26, 3) := by decide +kernel
theorem dX11_weighGains_26 : decode cX11_weighGains 26 = .ok (.getfield 203, 3) := by decide +kernel
theorem dX11_weighGains_29 : decode cX11_weighGains 29 = .ok (.iload_n 3, 1) := by decide +kernel
theorem dX11_weighGains_30 : decode cX11_weighGains 30 = .ok (.iaload, 1) := by decide +kernel
theorem dX11_weighGains_31 : decode cX11_weighGains 31 = .ok (.iload 4, 2) := by decide +kernel
theorem dX11_weighGains_33 : decode cX11_weighGains 33 = .ok (.iadd, 1) := by decide +kernel
theorem dX11_weighGains_34 : decode cX11_weighGains 34 = .ok (.istore 5, 2) := by decide +kernel
theorem dX11_weighGains_36 : decode cX11_weighGains 36 = .ok (.iload 5, 2) := by decide +kernel
theorem dX11_weighGains_38 : decode cX11_weighGains 38 = .ok (.bipush 99, 2) := by decide +kernel
theorem dX11_weighGains_40 : decode cX11_weighGains 40 = .ok (.if_icmp .gt 7, 3) := by decide +kernel
theorem dX11_weighGains_43 : decode cX11_weighGains 43 = .ok (.iconst 1, 1) := by decide +kernel
theorem dX11_weighGains_44 : decode cX11_weighGains 44 = .ok (.goto 4, 3) := by decide +kernel
theorem dX11_weighGains_47 : decode cX11_weighGains 47 = .ok (.iconst 0, 1) := by decide +kernel
theorem dX11_weighGains_48 : decode cX11_weighGains 48 = .ok (.istore 6, 2) := by decide +kernel
theorem dX11_weighGains_50 : decode cX11_weighGains 50 = .ok (.aload_n 0, 1) := by decide +kernel
theorem dX11_weighGains_51 : decode cX11_weighGains 51 = .ok (.getfield 88, 3) := by decide +kernel
theorem dX11_weighGains_54 : decode cX11_weighGains 54 = .ok (.iload_n 3, 1) := by decide +kernel
theorem dX11_weighGains_55 : decode cX11_weighGains 55 = .ok (.bipush 10, 2) := by decide +kernel
theorem dX11_weighGains_57 : decode cX11_weighGains 57 = .ok (.imul, 1) := by decide +kernel
theorem dX11_weighGains_58 : decode cX11_weighGains 58 = .ok (.iload 4, 2) := by decide +kernel
theorem dX11_weighGains_60 : decode cX11_weighGains 60 = .ok (.iadd, 1) := by decide +kernel
theorem dX11_weighGains_61 : decode cX11_weighGains 61 = .ok (.iload 6, 2) := by decide +kernel
theorem dX11_weighGains_63 : decode cX11_weighGains 63 = .ok (.ifCond .eq 17, 3) := by decide +kernel
theorem dX11_weighGains_66 : decode cX11_weighGains 66 = .ok (.aload_n 0, 1) := by decide +kernel
theorem dX11_weighGains_67 : decode cX11_weighGains 67 = .ok (.getfield 26, 3) := by decide +kernel
theorem dX11_weighGains_70 : decode cX11_weighGains 70 = .ok (.iload_n 3, 1) := by decide +kernel
theorem dX11_weighGains_71 : decode cX11_weighGains 71 = .ok (.iload 5, 2) := by decide +kernel
theorem dX11_weighGains_73 : decode cX11_weighGains 73 = .ok (.iload_n 1, 1) := by decide +kernel
theorem dX11_weighGains_74 : decode cX11_weighGains 74 = .ok (.invokevirtual 356, 3) := by decide +kernel
theorem dX11_weighGains_77 : decode cX11_weighGains 77 = .ok (.goto 5, 3) := by decide +kernel
theorem dX11_weighGains_80 : decode cX11_weighGains 80 = .ok (.ldc 237, 2) := by decide +kernel
theorem dX11_weighGains_82 : decode cX11_weighGains 82 = .ok (.iastore, 1) := by decide +kernel
theorem dX11_weighGains_83 : decode cX11_weighGains 83 = .ok (.iinc 4 1, 3) := by decide +kernel
theorem dX11_weighGains_86 : decode cX11_weighGains 86 = .ok (.goto (-70), 3) := by decide +kernel
theorem dX11_weighGains_89 : decode cX11_weighGains 89 = .ok (.iinc 3 1, 3) := by decide +kernel
theorem dX11_weighGains_92 : decode cX11_weighGains 92 = .ok (.goto (-90), 3) := by decide +kernel
theorem dX11_weighGains_95 : decode cX11_weighGains 95 = .ok (.return_, 1) := by decide +kernel
theorem dX11_weighBests_0 : decode cX11_weighBests 0 = .ok (.iconst 0, 1) := by decide +kernel
theorem dX11_weighBests_1 : decode cX11_weighBests 1 = .ok (.istore_n 2, 1) := by decide +kernel
theorem dX11_weighBests_2 : decode cX11_weighBests 2 = .ok (.iload_n 2, 1) := by decide +kernel
theorem dX11_weighBests_3 : decode cX11_weighBests 3 = .ok (.iload_n 1, 1) := by decide +kernel
theorem dX11_weighBests_4 : decode cX11_weighBests 4 = .ok (.if_icmp .gt 36, 3) := by decide +kernel
theorem dX11_weighBests_7 : decode cX11_weighBests 7 = .ok (.aload_n 0, 1) := by decide +kernel
theorem dX11_weighBests_8 : decode cX11_weighBests 8 = .ok (.getfield 92, 3) := by decide +kernel
theorem dX11_weighBests_11 : decode cX11_weighBests 11 = .ok (.aload_n 0, 1) := by decide +kernel
theorem dX11_weighBests_12 : decode cX11_weighBests 12 = .ok (.getfield 26, 3) := by decide +kernel
theorem dX11_weighBests_15 : decode cX11_weighBests 15 = .ok (.getfield 173, 3) := by decide +kernel
theorem dX11_weighBests_18 : decode cX11_weighBests 18 = .ok (.bipush 10, 2) := by decide +kernel
theorem dX11_weighBests_20 : decode cX11_weighBests 20 = .ok (.imul, 1) := by decide +kernel
theorem dX11_weighBests_21 : decode cX11_weighBests 21 = .ok (.iload_n 2, 1) := by decide +kernel
theorem dX11_weighBests_22 : decode cX11_weighBests 22 = .ok (.iadd, 1) := by decide +kernel
theorem dX11_weighBests_23 : decode cX11_weighBests 23 = .ok (.iload_n 2, 1) := by decide +kernel
theorem dX11_weighBests_24 : decode cX11_weighBests 24 = .ok (.ifCond .ne 7, 3) := by decide +kernel
theorem dX11_weighBests_27 : decode cX11_weighBests 27 = .ok (.iconst 0, 1) := by decide +kernel
theorem dX11_weighBests_28 : decode cX11_weighBests 28 = .ok (.goto 5, 3) := by decide +kernel
theorem dX11_weighBests_31 : decode cX11_weighBests 31 = .ok (.ldc 237, 2) := by decide +kernel
theorem dX11_weighBests_33 : decode cX11_weighBests 33 = .ok (.iastore, 1) := by decide +kernel
theorem dX11_weighBests_34 : decode cX11_weighBests 34 = .ok (.iinc 2 1, 3) := by decide +kernel
theorem dX11_weighBests_37 : decode cX11_weighBests 37 = .ok (.goto (-35), 3) := by decide +kernel
theorem dX11_weighBests_40 : decode cX11_weighBests 40 = .ok (.aload_n 0, 1) := by decide +kernel
theorem dX11_weighBests_41 : decode cX11_weighBests 41 = .ok (.getfield 26, 3) := by decide +kernel
theorem dX11_weighBests_44 : decode cX11_weighBests 44 = .ok (.getfield 173, 3) := by decide +kernel
theorem dX11_weighBests_47 : decode cX11_weighBests 47 = .ok (.iconst 1, 1) := by decide +kernel
theorem dX11_weighBests_48 : decode cX11_weighBests 48 = .ok (.isub, 1) := by decide +kernel
theorem dX11_weighBests_49 : decode cX11_weighBests 49 = .ok (.istore_n 2, 1) := by decide +kernel
theorem dX11_weighBests_50 : decode cX11_weighBests 50 = .ok (.iload_n 2, 1) := by decide +kernel
theorem dX11_weighBests_51 : decode cX11_weighBests 51 = .ok (.ifCond .lt 69, 3) := by decide +kernel
theorem dX11_weighBests_54 : decode cX11_weighBests 54 = .ok (.iconst 0, 1) := by decide +kernel
theorem dX11_weighBests_55 : decode cX11_weighBests 55 = .ok (.istore_n 3, 1) := by decide +kernel
theorem dX11_weighBests_56 : decode cX11_weighBests 56 = .ok (.iload_n 3, 1) := by decide +kernel
theorem dX11_weighBests_57 : decode cX11_weighBests 57 = .ok (.iload_n 1, 1) := by decide +kernel
theorem dX11_weighBests_58 : decode cX11_weighBests 58 = .ok (.if_icmp .gt 56, 3) := by decide +kernel
theorem dX11_weighBests_61 : decode cX11_weighBests 61 = .ok (.ldc 237, 2) := by decide +kernel
theorem dX11_weighBests_63 : decode cX11_weighBests 63 = .ok (.istore 4, 2) := by decide +kernel
theorem dX11_weighBests_65 : decode cX11_weighBests 65 = .ok (.iconst 0, 1) := by decide +kernel
theorem dX11_weighBests_66 : decode cX11_weighBests 66 = .ok (.istore 5, 2) := by decide +kernel
theorem dX11_weighBests_68 : decode cX11_weighBests 68 = .ok (.iload 5, 2) := by decide +kernel
theorem dX11_weighBests_70 : decode cX11_weighBests 70 = .ok (.iload_n 3, 1) := by decide +kernel
theorem dX11_weighBests_71 : decode cX11_weighBests 71 = .ok (.if_icmp .gt 24, 3) := by decide +kernel
theorem dX11_weighBests_74 : decode cX11_weighBests 74 = .ok (.iload 4, 2) := by decide +kernel
theorem dX11_weighBests_76 : decode cX11_weighBests 76 = .ok (.aload_n 0, 1) := by decide +kernel
theorem dX11_weighBests_77 : decode cX11_weighBests 77 = .ok (.iload_n 2, 1) := by decide +kernel
theorem dX11_weighBests_78 : decode cX11_weighBests 78 = .ok (.iload 5, 2) := by decide +kernel
theorem dX11_weighBests_80 : decode cX11_weighBests 80 = .ok (.iload_n 3, 1) := by decide +kernel
theorem dX11_weighBests_81 : decode cX11_weighBests 81 = .ok (.invokevirtual 359, 3) := by decide +kernel
theorem dX11_weighBests_84 : decode cX11_weighBests 84 = .ok (.invokestatic 362, 3) := by decide +kernel
theorem dX11_weighBests_87 : decode cX11_weighBests 87 = .ok (.istore 4, 2) := by decide +kernel
theorem dX11_weighBests_89 : decode cX11_weighBests 89 = .ok (.iinc 5 1, 3) := by decide +kernel
theorem dX11_weighBests_92 : decode cX11_weighBests 92 = .ok (.goto (-24), 3) := by decide +kernel
theorem dX11_weighBests_95 : decode cX11_weighBests 95 = .ok (.aload_n 0, 1) := by decide +kernel
theorem dX11_weighBests_96 : decode cX11_weighBests 96 = .ok (.getfield 92, 3) := by decide +kernel
theorem dX11_weighBests_99 : decode cX11_weighBests 99 = .ok (.iload_n 2, 1) := by decide +kernel
theorem dX11_weighBests_100 : decode cX11_weighBests 100 = .ok (.bipush 10, 2) := by decide +kernel
theorem dX11_weighBests_102 : decode cX11_weighBests 102 = .ok (.imul, 1) := by decide +kernel
theorem dX11_weighBests_103 : decode cX11_weighBests 103 = .ok (.iload_n 3, 1) := by decide +kernel
theorem dX11_weighBests_104 : decode cX11_weighBests 104 = .ok (.iadd, 1) := by decide +kernel
theorem dX11_weighBests_105 : decode cX11_weighBests 105 = .ok (.iload 4, 2) := by decide +kernel
theorem dX11_weighBests_107 : decode cX11_weighBests 107 = .ok (.iastore, 1) := by decide +kernel
theorem dX11_weighBests_108 : decode cX11_weighBests 108 = .ok (.iinc 3 1, 3) := by decide +kernel
theorem dX11_weighBests_111 : decode cX11_weighBests 111 = .ok (.goto (-55), 3) := by decide +kernel
theorem dX11_weighBests_114 : decode cX11_weighBests 114 = .ok (.iinc 2 (-1), 3) := by decide +kernel
theorem dX11_weighBests_117 : decode cX11_weighBests 117 = .ok (.goto (-67), 3) := by decide +kernel
theorem dX11_weighBests_120 : decode cX11_weighBests 120 = .ok (.return_, 1) := by decide +kernel
theorem dX11_gainBehind_0 : decode cX11_gainBehind 0 = .ok (.aload_n 0, 1) := by decide +kernel
theorem dX11_gainBehind_1 : decode cX11_gainBehind 1 = .ok (.getfield 88, 3) := by decide +kernel
theorem dX11_gainBehind_4 : decode cX11_gainBehind 4 = .ok (.iload_n 1, 1) := by decide +kernel
theorem dX11_gainBehind_5 : decode cX11_gainBehind 5 = .ok (.bipush 10, 2) := by decide +kernel
theorem dX11_gainBehind_7 : decode cX11_gainBehind 7 = .ok (.imul, 1) := by decide +kernel
theorem dX11_gainBehind_8 : decode cX11_gainBehind 8 = .ok (.iload_n 2, 1) := by decide +kernel
theorem dX11_gainBehind_9 : decode cX11_gainBehind 9 = .ok (.iadd, 1) := by decide +kernel
theorem dX11_gainBehind_10 : decode cX11_gainBehind 10 = .ok (.iaload, 1) := by decide +kernel
theorem dX11_gainBehind_11 : decode cX11_gainBehind 11 = .ok (.istore 4, 2) := by decide +kernel
theorem dX11_gainBehind_13 : decode cX11_gainBehind 13 = .ok (.aload_n 0, 1) := by decide +kernel
theorem dX11_gainBehind_14 : decode cX11_gainBehind 14 = .ok (.getfield 92, 3) := by decide +kernel
theorem dX11_gainBehind_17 : decode cX11_gainBehind 17 = .ok (.iload_n 1, 1) := by decide +kernel
theorem dX11_gainBehind_18 : decode cX11_gainBehind 18 = .ok (.iconst 1, 1) := by decide +kernel
theorem dX11_gainBehind_19 : decode cX11_gainBehind 19 = .ok (.iadd, 1) := by decide +kernel
theorem dX11_gainBehind_20 : decode cX11_gainBehind 20 = .ok (.bipush 10, 2) := by decide +kernel
theorem dX11_gainBehind_22 : decode cX11_gainBehind 22 = .ok (.imul, 1) := by decide +kernel
theorem dX11_gainBehind_23 : decode cX11_gainBehind 23 = .ok (.iload_n 3, 1) := by decide +kernel
theorem dX11_gainBehind_24 : decode cX11_gainBehind 24 = .ok (.iadd, 1) := by decide +kernel
theorem dX11_gainBehind_25 : decode cX11_gainBehind 25 = .ok (.iload_n 2, 1) := by decide +kernel
theorem dX11_gainBehind_26 : decode cX11_gainBehind 26 = .ok (.isub, 1) := by decide +kernel
theorem dX11_gainBehind_27 : decode cX11_gainBehind 27 = .ok (.iaload, 1) := by decide +kernel
theorem dX11_gainBehind_28 : decode cX11_gainBehind 28 = .ok (.istore 5, 2) := by decide +kernel
theorem dX11_gainBehind_30 : decode cX11_gainBehind 30 = .ok (.iload 4, 2) := by decide +kernel
theorem dX11_gainBehind_32 : decode cX11_gainBehind 32 = .ok (.ldc 237, 2) := by decide +kernel
theorem dX11_gainBehind_34 : decode cX11_gainBehind 34 = .ok (.if_icmp .eq 10, 3) := by decide +kernel
theorem dX11_gainBehind_37 : decode cX11_gainBehind 37 = .ok (.iload 5, 2) := by decide +kernel
theorem dX11_gainBehind_39 : decode cX11_gainBehind 39 = .ok (.ldc 237, 2) := by decide +kernel
theorem dX11_gainBehind_41 : decode cX11_gainBehind 41 = .ok (.if_icmp .ne 8, 3) := by decide +kernel
theorem dX11_gainBehind_44 : decode cX11_gainBehind 44 = .ok (.ldc 237, 2) := by decide +kernel
theorem dX11_gainBehind_46 : decode cX11_gainBehind 46 = .ok (.goto 8, 3) := by decide +kernel
theorem dX11_gainBehind_49 : decode cX11_gainBehind 49 = .ok (.iload 4, 2) := by decide +kernel
theorem dX11_gainBehind_51 : decode cX11_gainBehind 51 = .ok (.iload 5, 2) := by decide +kernel
theorem dX11_gainBehind_53 : decode cX11_gainBehind 53 = .ok (.iadd, 1) := by decide +kernel
theorem dX11_gainBehind_54 : decode cX11_gainBehind 54 = .ok (.ireturn, 1) := by decide +kernel
theorem dX11_fewestOfBest_0 : decode cX11_fewestOfBest 0 = .ok (.iconst 0, 1) := by decide +kernel
theorem dX11_fewestOfBest_1 : decode cX11_fewestOfBest 1 = .ok (.istore_n 2, 1) := by decide +kernel
theorem dX11_fewestOfBest_2 : decode cX11_fewestOfBest 2 = .ok (.iconst 1, 1) := by decide +kernel
theorem dX11_fewestOfBest_3 : decode cX11_fewestOfBest 3 = .ok (.istore_n 3, 1) := by decide +kernel
theorem dX11_fewestOfBest_4 : decode cX11_fewestOfBest 4 = .ok (.iload_n 3, 1) := by decide +kernel
theorem dX11_fewestOfBest_5 : decode cX11_fewestOfBest 5 = .ok (.iload_n 1, 1) := by decide +kernel
theorem dX11_fewestOfBest_6 : decode cX11_fewestOfBest 6 = .ok (.if_icmp .gt 45, 3) := by decide +kernel
theorem dX11_fewestOfBest_9 : decode cX11_fewestOfBest 9 = .ok (.aload_n 0, 1) := by decide +kernel
theorem dX11_fewestOfBest_10 : decode cX11_fewestOfBest 10 = .ok (.getfield 92, 3) := by decide +kernel
theorem dX11_fewestOfBest_13 : decode cX11_fewestOfBest 13 = .ok (.iload_n 3, 1) := by decide +kernel
theorem dX11_fewestOfBest_14 : decode cX11_fewestOfBest 14 = .ok (.iaload, 1) := by decide +kernel
theorem dX11_fewestOfBest_15 : decode cX11_fewestOfBest 15 = .ok (.ldc 237, 2) := by decide +kernel
theorem dX11_fewestOfBest_17 : decode cX11_fewestOfBest 17 = .ok (.if_icmp .eq 28, 3) := by decide +kernel
theorem dX11_fewestOfBest_20 : decode cX11_fewestOfBest 20 = .ok (.aload_n 0, 1) := by decide +kernel
theorem dX11_fewestOfBest_21 : decode cX11_fewestOfBest 21 = .ok (.aload_n 0, 1) := by decide +kernel
theorem dX11_fewestOfBest_22 : decode cX11_fewestOfBest 22 = .ok (.getfield 92, 3) := by decide +kernel
theorem dX11_fewestOfBest_25 : decode cX11_fewestOfBest 25 = .ok (.iload_n 3, 1) := by decide +kernel
theorem dX11_fewestOfBest_26 : decode cX11_fewestOfBest 26 = .ok (.iaload, 1) := by decide +kernel
theorem dX11_fewestOfBest_27 : decode cX11_fewestOfBest 27 = .ok (.invokevirtual 262, 3) := by decide +kernel
theorem dX11_fewestOfBest_30 : decode cX11_fewestOfBest 30 = .ok (.aload_n 0, 1) := by decide +kernel
theorem dX11_fewestOfBest_31 : decode cX11_fewestOfBest 31 = .ok (.aload_n 0, 1) := by decide +kernel
theorem dX11_fewestOfBest_32 : decode cX11_fewestOfBest 32 = .ok (.getfield 92, 3) := by decide +kernel
theorem dX11_fewestOfBest_35 : decode cX11_fewestOfBest 35 = .ok (.iload_n 2, 1) := by decide +kernel
theorem dX11_fewestOfBest_36 : decode cX11_fewestOfBest 36 = .ok (.iaload, 1) := by decide +kernel
theorem dX11_fewestOfBest_37 : decode cX11_fewestOfBest 37 = .ok (.invokevirtual 262, 3) := by decide +kernel
theorem dX11_fewestOfBest_40 : decode cX11_fewestOfBest 40 = .ok (.if_icmp .le 5, 3) := by decide +kernel
theorem dX11_fewestOfBest_43 : decode cX11_fewestOfBest 43 = .ok (.iload_n 3, 1) := by decide +kernel
theorem dX11_fewestOfBest_44 : decode cX11_fewestOfBest 44 = .ok (.istore_n 2, 1) := by decide +kernel
theorem dX11_fewestOfBest_45 : decode cX11_fewestOfBest 45 = .ok (.iinc 3 1, 3) := by decide +kernel
theorem dX11_fewestOfBest_48 : decode cX11_fewestOfBest 48 = .ok (.goto (-44), 3) := by decide +kernel
theorem dX11_fewestOfBest_51 : decode cX11_fewestOfBest 51 = .ok (.iload_n 2, 1) := by decide +kernel
theorem dX11_fewestOfBest_52 : decode cX11_fewestOfBest 52 = .ok (.ireturn, 1) := by decide +kernel
theorem dX11_shareOut_0 : decode cX11_shareOut 0 = .ok (.iload_n 1, 1) := by decide +kernel
theorem dX11_shareOut_1 : decode cX11_shareOut 1 = .ok (.istore_n 3, 1) := by decide +kernel
theorem dX11_shareOut_2 : decode cX11_shareOut 2 = .ok (.iconst 0, 1) := by decide +kernel
theorem dX11_shareOut_3 : decode cX11_shareOut 3 = .ok (.istore 4, 2) := by decide +kernel
theorem dX11_shareOut_5 : decode cX11_shareOut 5 = .ok (.iconst 0, 1) := by decide +kernel
theorem dX11_shareOut_6 : decode cX11_shareOut 6 = .ok (.istore 5, 2) := by decide +kernel
theorem dX11_shareOut_8 : decode cX11_shareOut 8 = .ok (.iload 5, 2) := by decide +kernel
theorem dX11_shareOut_10 : decode cX11_shareOut 10 = .ok (.aload_n 0, 1) := by decide +kernel
theorem dX11_shareOut_11 : decode cX11_shareOut 11 = .ok (.getfield 26, 3) := by decide +kernel
theorem dX11_shareOut_14 : decode cX11_shareOut 14 = .ok (.getfield 173, 3) := by decide +kernel
theorem dX11_shareOut_17 : decode cX11_shareOut 17 = .ok (.if_icmp .ge 53, 3) := by decide +kernel
theorem dX11_shareOut_20 : decode cX11_shareOut 20 = .ok (.aload_n 0, 1) := by decide +kernel
theorem dX11_shareOut_21 : decode cX11_shareOut 21 = .ok (.iload 5, 2) := by decide +kernel
theorem dX11_shareOut_23 : decode cX11_shareOut 23 = .ok (.iload_n 3, 1) := by decide +kernel
theorem dX11_shareOut_24 : decode cX11_shareOut 24 = .ok (.iload 4, 2) := by decide +kernel
theorem dX11_shareOut_26 : decode cX11_shareOut 26 = .ok (.iload_n 2, 1) := by decide +kernel
theorem dX11_shareOut_27 : decode cX11_shareOut 27 = .ok (.invokevirtual 365, 3) := by decide +kernel
theorem dX11_shareOut_30 : decode cX11_shareOut 30 = .ok (.istore 6, 2) := by decide +kernel
theorem dX11_shareOut_32 : decode cX11_shareOut 32 = .ok (.aload_n 0, 1) := by decide +kernel
theorem dX11_shareOut_33 : decode cX11_shareOut 33 = .ok (.getfield 95, 3) := by decide +kernel
theorem dX11_shareOut_36 : decode cX11_shareOut 36 = .ok (.iload 5, 2) := by decide +kernel
theorem dX11_shareOut_38 : decode cX11_shareOut 38 = .ok (.iload 6, 2) := by decide +kernel
theorem dX11_shareOut_40 : decode cX11_shareOut 40 = .ok (.iastore, 1) := by decide +kernel
theorem dX11_shareOut_41 : decode cX11_shareOut 41 = .ok (.iload 4, 2) := by decide +kernel
theorem dX11_shareOut_43 : decode cX11_shareOut 43 = .ok (.aload_n 0, 1) := by decide +kernel
theorem dX11_shareOut_44 : decode cX11_shareOut 44 = .ok (.getfield 88, 3) := by decide +kernel
theorem dX11_shareOut_47 : decode cX11_shareOut 47 = .ok (.iload 5, 2) := by decide +kernel
theorem dX11_shareOut_49 : decode cX11_shareOut 49 = .ok (.bipush 10, 2) := by decide +kernel
theorem dX11_shareOut_51 : decode cX11_shareOut 51 = .ok (.imul, 1) := by decide +kernel
theorem dX11_shareOut_52 : decode cX11_shareOut 52 = .ok (.iload 6, 2) := by decide +kernel
theorem dX11_shareOut_54 : decode cX11_shareOut 54 = .ok (.iadd, 1) := by decide +kernel
theorem dX11_shareOut_55 : decode cX11_shareOut 55 = .ok (.iaload, 1) := by decide +kernel
theorem dX11_shareOut_56 : decode cX11_shareOut 56 = .ok (.iadd, 1) := by decide +kernel
theorem dX11_shareOut_57 : decode cX11_shareOut 57 = .ok (.istore 4, 2) := by decide +kernel
theorem dX11_shareOut_59 : decode cX11_shareOut 59 = .ok (.iload_n 3, 1) := by decide +kernel
theorem dX11_shareOut_60 : decode cX11_shareOut 60 = .ok (.iload 6, 2) := by decide +kernel
theorem dX11_shareOut_62 : decode cX11_shareOut 62 = .ok (.isub, 1) := by decide +kernel
theorem dX11_shareOut_63 : decode cX11_shareOut 63 = .ok (.istore_n 3, 1) := by decide +kernel
theorem dX11_shareOut_64 : decode cX11_shareOut 64 = .ok (.iinc 5 1, 3) := by decide +kernel
theorem dX11_shareOut_67 : decode cX11_shareOut 67 = .ok (.goto (-59), 3) := by decide +kernel
theorem dX11_shareOut_70 : decode cX11_shareOut 70 = .ok (.return_, 1) := by decide +kernel
theorem dX11_firstShare_0 : decode cX11_firstShare 0 = .ok (.iconst 0, 1) := by decide +kernel
theorem dX11_firstShare_1 : decode cX11_firstShare 1 = .ok (.istore 5, 2) := by decide +kernel
theorem dX11_firstShare_3 : decode cX11_firstShare 3 = .ok (.iload 5, 2) := by decide +kernel
theorem dX11_firstShare_5 : decode cX11_firstShare 5 = .ok (.iload_n 2, 1) := by decide +kernel
theorem dX11_firstShare_6 : decode cX11_firstShare 6 = .ok (.if_icmp .ge 42, 3) := by decide +kernel
theorem dX11_firstShare_9 : decode cX11_firstShare 9 = .ok (.aload_n 0, 1) := by decide +kernel
theorem dX11_firstShare_10 : decode cX11_firstShare 10 = .ok (.iload_n 1, 1) := by decide +kernel
theorem dX11_firstShare_11 : decode cX11_firstShare 11 = .ok (.iload 5, 2) := by decide +kernel
theorem dX11_firstShare_13 : decode cX11_firstShare 13 = .ok (.iload_n 2, 1) := by decide +kernel
theorem dX11_firstShare_14 : decode cX11_firstShare 14 = .ok (.invokevirtual 359, 3) := by decide +kernel
theorem dX11_firstShare_17 : decode cX11_firstShare 17 = .ok (.istore 6, 2) := by decide +kernel
theorem dX11_firstShare_19 : decode cX11_firstShare 19 = .ok (.iload 6, 2) := by decide +kernel
theorem dX11_firstShare_21 : decode cX11_firstShare 21 = .ok (.ldc 237, 2) := by decide +kernel
theorem dX11_firstShare_23 : decode cX11_firstShare 23 = .ok (.if_icmp .eq 19, 3) := by decide +kernel
theorem dX11_firstShare_26 : decode cX11_firstShare 26 = .ok (.aload_n 0, 1) := by decide +kernel
theorem dX11_firstShare_27 : decode cX11_firstShare 27 = .ok (.iload_n 3, 1) := by decide +kernel
theorem dX11_firstShare_28 : decode cX11_firstShare 28 = .ok (.iload 6, 2) := by decide +kernel
theorem dX11_firstShare_30 : decode cX11_firstShare 30 = .ok (.iadd, 1) := by decide +kernel
theorem dX11_firstShare_31 : decode cX11_firstShare 31 = .ok (.invokevirtual 262, 3) := by decide +kernel
theorem dX11_firstShare_34 : decode cX11_firstShare 34 = .ok (.iload 4, 2) := by decide +kernel
theorem dX11_firstShare_36 : decode cX11_firstShare 36 = .ok (.if_icmp .ne 6, 3) := by decide +kernel
theorem dX11_firstShare_39 : decode cX11_firstShare 39 = .ok (.iload 5, 2) := by decide +kernel
theorem dX11_firstShare_41 : decode cX11_firstShare 41 = .ok (.ireturn, 1) := by decide +kernel
theorem dX11_firstShare_42 : decode cX11_firstShare 42 = .ok (.iinc 5 1, 3) := by decide +kernel
theorem dX11_firstShare_45 : decode cX11_firstShare 45 = .ok (.goto (-42), 3) := by decide +kernel
theorem dX11_firstShare_48 : decode cX11_firstShare 48 = .ok (.iload_n 2, 1) := by decide +kernel
theorem dX11_firstShare_49 : decode cX11_firstShare 49 = .ok (.ireturn, 1) := by decide +kernel
theorem dX11_takenBy_0 : decode cX11_takenBy 0 = .ok (.iconst 0, 1) := by decide +kernel
theorem dX11_takenBy_1 : decode cX11_takenBy 1 = .ok (.istore_n 2, 1) := by decide +kernel
theorem dX11_takenBy_2 : decode cX11_takenBy 2 = .ok (.iconst 0, 1) := by decide +kernel
theorem dX11_takenBy_3 : decode cX11_takenBy 3 = .ok (.istore_n 3, 1) := by decide +kernel
theorem dX11_takenBy_4 : decode cX11_takenBy 4 = .ok (.iload_n 3, 1) := by decide +kernel
theorem dX11_takenBy_5 : decode cX11_takenBy 5 = .ok (.aload_n 0, 1) := by decide +kernel
theorem dX11_takenBy_6 : decode cX11_takenBy 6 = .ok (.getfield 26, 3) := by decide +kernel
theorem dX11_takenBy_9 : decode cX11_takenBy 9 = .ok (.getfield 173, 3) := by decide +kernel
theorem dX11_takenBy_12 : decode cX11_takenBy 12 = .ok (.if_icmp .ge 29, 3) := by decide +kernel
theorem dX11_takenBy_15 : decode cX11_takenBy 15 = .ok (.iload_n 1, 1) := by decide +kernel
theorem dX11_takenBy_16 : decode cX11_takenBy 16 = .ok (.iload_n 3, 1) := by decide +kernel
theorem dX11_takenBy_17 : decode cX11_takenBy 17 = .ok (.ishr, 1) := by decide +kernel
theorem dX11_takenBy_18 : decode cX11_takenBy 18 = .ok (.iconst 1, 1) := by decide +kernel
theorem dX11_takenBy_19 : decode cX11_takenBy 19 = .ok (.iand, 1) := by decide +kernel
theorem dX11_takenBy_20 : decode cX11_takenBy 20 = .ok (.iconst 1, 1) := by decide +kernel
theorem dX11_takenBy_21 : decode cX11_takenBy 21 = .ok (.if_icmp .ne 14, 3) := by decide +kernel
theorem dX11_takenBy_24 : decode cX11_takenBy 24 = .ok (.iload_n 2, 1) := by decide +kernel
theorem dX11_takenBy_25 : decode cX11_takenBy 25 = .ok (.aload_n 0, 1) := by decide +kernel
theorem dX11_takenBy_26 : decode cX11_takenBy 26 = .ok (.getfield 26, 3) := by decide +kernel
theorem dX11_takenBy_29 : decode cX11_takenBy 29 = .ok (.iload_n 3, 1) := by decide +kernel
theorem dX11_takenBy_30 : decode cX11_takenBy 30 = .ok (.invokevirtual 224, 3) := by decide +kernel
theorem dX11_takenBy_33 : decode cX11_takenBy 33 = .ok (.iadd, 1) := by decide +kernel
theorem dX11_takenBy_34 : decode cX11_takenBy 34 = .ok (.istore_n 2, 1) := by decide +kernel
theorem dX11_takenBy_35 : decode cX11_takenBy 35 = .ok (.iinc 3 1, 3) := by decide +kernel
theorem dX11_takenBy_38 : decode cX11_takenBy 38 = .ok (.goto (-34), 3) := by decide +kernel
theorem dX11_takenBy_41 : decode cX11_takenBy 41 = .ok (.iload_n 2, 1) := by decide +kernel
theorem dX11_takenBy_42 : decode cX11_takenBy 42 = .ok (.ireturn, 1) := by decide +kernel
theorem dX11_chanceOf_0 : decode cX11_chanceOf 0 = .ok (.iconst 1, 1) := by decide +kernel
theorem dX11_chanceOf_1 : decode cX11_chanceOf 1 = .ok (.istore_n 3, 1) := by decide +kernel
theorem dX11_chanceOf_2 : decode cX11_chanceOf 2 = .ok (.iconst 0, 1) := by decide +kernel
theorem dX11_chanceOf_3 : decode cX11_chanceOf 3 = .ok (.istore 4, 2) := by decide +kernel
theorem dX11_chanceOf_5 : decode cX11_chanceOf 5 = .ok (.iload 4, 2) := by decide +kernel
theorem dX11_chanceOf_7 : decode cX11_chanceOf 7 = .ok (.aload_n 0, 1) := by decide +kernel
theorem dX11_chanceOf_8 : decode cX11_chanceOf 8 = .ok (.getfield 26, 3) := by decide +kernel
theorem dX11_chanceOf_11 : decode cX11_chanceOf 11 = .ok (.getfield 173, 3) := by decide +kernel
theorem dX11_chanceOf_14 : decode cX11_chanceOf 14 = .ok (.if_icmp .ge 30, 3) := by decide +kernel
theorem dX11_chanceOf_17 : decode cX11_chanceOf 17 = .ok (.iload_n 3, 1) := by decide +kernel
theorem dX11_chanceOf_18 : decode cX11_chanceOf 18 = .ok (.iload_n 1, 1) := by decide +kernel
theorem dX11_chanceOf_19 : decode cX11_chanceOf 19 = .ok (.iload 4, 2) := by decide +kernel
theorem dX11_chanceOf_21 : decode cX11_chanceOf 21 = .ok (.ishr, 1) := by decide +kernel
theorem dX11_chanceOf_22 : decode cX11_chanceOf 22 = .ok (.iconst 1, 1) := by decide +kernel
theorem dX11_chanceOf_23 : decode cX11_chanceOf 23 = .ok (.iand, 1) := by decide +kernel
theorem dX11_chanceOf_24 : decode cX11_chanceOf 24 = .ok (.iconst 1, 1) := by decide +kernel
theorem dX11_chanceOf_25 : decode cX11_chanceOf 25 = .ok (.if_icmp .ne 10, 3) := by decide +kernel
theorem dX11_chanceOf_28 : decode cX11_chanceOf 28 = .ok (.bipush 10, 2) := by decide +kernel
theorem dX11_chanceOf_30 : decode cX11_chanceOf 30 = .ok (.iload_n 2, 1) := by decide +kernel
theorem dX11_chanceOf_31 : decode cX11_chanceOf 31 = .ok (.isub, 1) := by decide +kernel
theorem dX11_chanceOf_32 : decode cX11_chanceOf 32 = .ok (.goto 4, 3) := by decide +kernel
theorem dX11_chanceOf_35 : decode cX11_chanceOf 35 = .ok (.iload_n 2, 1) := by decide +kernel
theorem dX11_chanceOf_36 : decode cX11_chanceOf 36 = .ok (.imul, 1) := by decide +kernel
theorem dX11_chanceOf_37 : decode cX11_chanceOf 37 = .ok (.istore_n 3, 1) := by decide +kernel
theorem dX11_chanceOf_38 : decode cX11_chanceOf 38 = .ok (.iinc 4 1, 3) := by decide +kernel
theorem dX11_chanceOf_41 : decode cX11_chanceOf 41 = .ok (.goto (-36), 3) := by decide +kernel
theorem dX11_chanceOf_44 : decode cX11_chanceOf 44 = .ok (.iload_n 3, 1) := by decide +kernel
theorem dX11_chanceOf_45 : decode cX11_chanceOf 45 = .ok (.ireturn, 1) := by decide +kernel
theorem dX11_commonDivisor_0 : decode cX11_commonDivisor 0 = .ok (.iload_n 0, 1) := by decide +kernel
theorem dX11_commonDivisor_1 : decode cX11_commonDivisor 1 = .ok (.istore_n 2, 1) := by decide +kernel
theorem dX11_commonDivisor_2 : decode cX11_commonDivisor 2 = .ok (.iload_n 1, 1) := by decide +kernel
theorem dX11_commonDivisor_3 : decode cX11_commonDivisor 3 = .ok (.istore_n 3, 1) := by decide +kernel
theorem dX11_commonDivisor_4 : decode cX11_commonDivisor 4 = .ok (.iconst 0, 1) := by decide +kernel
theorem dX11_commonDivisor_5 : decode cX11_commonDivisor 5 = .ok (.istore 4, 2) := by decide +kernel
theorem dX11_commonDivisor_7 : decode cX11_commonDivisor 7 = .ok (.iload 4, 2) := by decide +kernel
theorem dX11_commonDivisor_9 : decode cX11_commonDivisor 9 = .ok (.bipush 64, 2) := by decide +kernel
theorem dX11_commonDivisor_11 : decode cX11_commonDivisor 11 = .ok (.if_icmp .ge 23, 3) := by decide +kernel
theorem dX11_commonDivisor_14 : decode cX11_commonDivisor 14 = .ok (.iload_n 3, 1) := by decide +kernel
theorem dX11_commonDivisor_15 : decode cX11_commonDivisor 15 = .ok (.ifCond .eq 19, 3) := by decide +kernel
theorem dX11_commonDivisor_18 : decode cX11_commonDivisor 18 = .ok (.iload_n 2, 1) := by decide +kernel
theorem dX11_commonDivisor_19 : decode cX11_commonDivisor 19 = .ok (.iload_n 3, 1) := by decide +kernel
theorem dX11_commonDivisor_20 : decode cX11_commonDivisor 20 = .ok (.irem, 1) := by decide +kernel
theorem dX11_commonDivisor_21 : decode cX11_commonDivisor 21 = .ok (.istore 5, 2) := by decide +kernel
theorem dX11_commonDivisor_23 : decode cX11_commonDivisor 23 = .ok (.iload_n 3, 1) := by decide +kernel
theorem dX11_commonDivisor_24 : decode cX11_commonDivisor 24 = .ok (.istore_n 2, 1) := by decide +kernel
theorem dX11_commonDivisor_25 : decode cX11_commonDivisor 25 = .ok (.iload 5, 2) := by decide +kernel
theorem dX11_commonDivisor_27 : decode cX11_commonDivisor 27 = .ok (.istore_n 3, 1) := by decide +kernel
theorem dX11_commonDivisor_28 : decode cX11_commonDivisor 28 = .ok (.iinc 4 1, 3) := by decide +kernel
theorem dX11_commonDivisor_31 : decode cX11_commonDivisor 31 = .ok (.goto (-24), 3) := by decide +kernel
theorem dX11_commonDivisor_34 : decode cX11_commonDivisor 34 = .ok (.iload_n 2, 1) := by decide +kernel
theorem dX11_commonDivisor_35 : decode cX11_commonDivisor 35 = .ok (.ireturn, 1) := by decide +kernel
theorem dX11_buildDrawn_0 : decode cX11_buildDrawn 0 = .ok (.aload_n 0, 1) := by decide +kernel
theorem dX11_buildDrawn_1 : decode cX11_buildDrawn 1 = .ok (.getfield 30, 3) := by decide +kernel
theorem dX11_buildDrawn_4 : decode cX11_buildDrawn 4 = .ok (.getfield 173, 3) := by decide +kernel
theorem dX11_buildDrawn_7 : decode cX11_buildDrawn 7 = .ok (.ifCond .eq 13, 3) := by decide +kernel
theorem dX11_buildDrawn_10 : decode cX11_buildDrawn 10 = .ok (.aload_n 0, 1) := by decide +kernel
theorem dX11_buildDrawn_11 : decode cX11_buildDrawn 11 = .ok (.getfield 30, 3) := by decide +kernel
theorem dX11_buildDrawn_14 : decode cX11_buildDrawn 14 = .ok (.getfield 200, 3) := by decide +kernel
theorem dX11_buildDrawn_17 : decode cX11_buildDrawn 17 = .ok (.ifCond .ne 4, 3) := by decide +kernel
theorem dX11_buildDrawn_20 : decode cX11_buildDrawn 20 = .ok (.return_, 1) := by decide +kernel
theorem dX11_buildDrawn_21 : decode cX11_buildDrawn 21 = .ok (.lload_n 1, 1) := by decide +kernel
theorem dX11_buildDrawn_22 : decode cX11_buildDrawn 22 = .ok (.aload_n 0, 1) := by decide +kernel
theorem dX11_buildDrawn_23 : decode cX11_buildDrawn 23 = .ok (.getfield 30, 3) := by decide +kernel
theorem dX11_buildDrawn_26 : decode cX11_buildDrawn 26 = .ok (.getfield 173, 3) := by decide +kernel
theorem dX11_buildDrawn_29 : decode cX11_buildDrawn 29 = .ok (.i2l, 1) := by decide +kernel
theorem dX11_buildDrawn_30 : decode cX11_buildDrawn 30 = .ok (.lrem, 1) := by decide +kernel
theorem dX11_buildDrawn_31 : decode cX11_buildDrawn 31 = .ok (.l2i, 1) := by decide +kernel
theorem dX11_buildDrawn_32 : decode cX11_buildDrawn 32 = .ok (.istore_n 3, 1) := by decide +kernel
theorem dX11_buildDrawn_33 : decode cX11_buildDrawn 33 = .ok (.aload_n 0, 1) := by decide +kernel
theorem dX11_buildDrawn_34 : decode cX11_buildDrawn 34 = .ok (.getfield 30, 3) := by decide +kernel
theorem dX11_buildDrawn_37 : decode cX11_buildDrawn 37 = .ok (.getfield 203, 3) := by decide +kernel
theorem dX11_buildDrawn_40 : decode cX11_buildDrawn 40 = .ok (.iload_n 3, 1) := by decide +kernel
theorem dX11_buildDrawn_41 : decode cX11_buildDrawn 41 = .ok (.iaload, 1) := by decide +kernel
theorem dX11_buildDrawn_42 : decode cX11_buildDrawn 42 = .ok (.bipush 99, 2) := by decide +kernel
theorem dX11_buildDrawn_44 : decode cX11_buildDrawn 44 = .ok (.if_icmp .ge 11, 3) := by decide +kernel
theorem dX11_buildDrawn_47 : decode cX11_buildDrawn 47 = .ok (.aload_n 0, 1) := by decide +kernel
theorem dX11_buildDrawn_48 : decode cX11_buildDrawn 48 = .ok (.getfield 30, 3) := by decide +kernel
theorem dX11_buildDrawn_51 : decode cX11_buildDrawn 51 = .ok (.iload_n 3, 1) := by decide +kernel
theorem dX11_buildDrawn_52 : decode cX11_buildDrawn 52 = .ok (.invokevirtual 206, 3) := by decide +kernel
theorem dX11_buildDrawn_55 : decode cX11_buildDrawn 55 = .ok (.return_, 1) := by decide +kernel
theorem dX11_bodyOf_0 : decode cX11_bodyOf 0 = .ok (.iload_n 1, 1) := by decide +kernel
theorem dX11_bodyOf_1 : decode cX11_bodyOf 1 = .ok (.tableswitch 51 2 5 #[31, 36, 41, 46], 31) := by decide +kernel
theorem dX11_bodyOf_32 : decode cX11_bodyOf 32 = .ok (.aload_n 0, 1) := by decide +kernel
theorem dX11_bodyOf_33 : decode cX11_bodyOf 33 = .ok (.getfield 63, 3) := by decide +kernel
theorem dX11_bodyOf_36 : decode cX11_bodyOf 36 = .ok (.areturn, 1) := by decide +kernel
theorem dX11_bodyOf_37 : decode cX11_bodyOf 37 = .ok (.aload_n 0, 1) := by decide +kernel
theorem dX11_bodyOf_38 : decode cX11_bodyOf 38 = .ok (.getfield 70, 3) := by decide +kernel
theorem dX11_bodyOf_41 : decode cX11_bodyOf 41 = .ok (.areturn, 1) := by decide +kernel
theorem dX11_bodyOf_42 : decode cX11_bodyOf 42 = .ok (.aload_n 0, 1) := by decide +kernel
theorem dX11_bodyOf_43 : decode cX11_bodyOf 43 = .ok (.getfield 77, 3) := by decide +kernel
theorem dX11_bodyOf_46 : decode cX11_bodyOf 46 = .ok (.areturn, 1) := by decide +kernel
theorem dX11_bodyOf_47 : decode cX11_bodyOf 47 = .ok (.aload_n 0, 1) := by decide +kernel
theorem dX11_bodyOf_48 : decode cX11_bodyOf 48 = .ok (.getfield 84, 3) := by decide +kernel
theorem dX11_bodyOf_51 : decode cX11_bodyOf 51 = .ok (.areturn, 1) := by decide +kernel
theorem dX11_bodyOf_52 : decode cX11_bodyOf 52 = .ok (.aload_n 0, 1) := by decide +kernel
theorem dX11_bodyOf_53 : decode cX11_bodyOf 53 = .ok (.getfield 56, 3) := by decide +kernel
theorem dX11_bodyOf_56 : decode cX11_bodyOf 56 = .ok (.areturn, 1) := by decide +kernel
theorem dX11_isOfKind_0 : decode cX11_isOfKind 0 = .ok (.iload_n 1, 1) := by decide +kernel
theorem dX11_isOfKind_1 : decode cX11_isOfKind 1 = .ok (.tableswitch 60 1 5 #[35, 40, 45, 50, 55], 35) := by decide +kernel
theorem dX11_isOfKind_36 : decode cX11_isOfKind 36 = .ok (.aload_n 0, 1) := by decide +kernel
theorem dX11_isOfKind_37 : decode cX11_isOfKind 37 = .ok (.instanceof 53, 3) := by decide +kernel
theorem dX11_isOfKind_40 : decode cX11_isOfKind 40 = .ok (.ireturn, 1) := by decide +kernel
theorem dX11_isOfKind_41 : decode cX11_isOfKind 41 = .ok (.aload_n 0, 1) := by decide +kernel
theorem dX11_isOfKind_42 : decode cX11_isOfKind 42 = .ok (.instanceof 60, 3) := by decide +kernel
theorem dX11_isOfKind_45 : decode cX11_isOfKind 45 = .ok (.ireturn, 1) := by decide +kernel
theorem dX11_isOfKind_46 : decode cX11_isOfKind 46 = .ok (.aload_n 0, 1) := by decide +kernel
theorem dX11_isOfKind_47 : decode cX11_isOfKind 47 = .ok (.instanceof 67, 3) := by decide +kernel
theorem dX11_isOfKind_50 : decode cX11_isOfKind 50 = .ok (.ireturn, 1) := by decide +kernel
theorem dX11_isOfKind_51 : decode cX11_isOfKind 51 = .ok (.aload_n 0, 1) := by decide +kernel
theorem dX11_isOfKind_52 : decode cX11_isOfKind 52 = .ok (.instanceof 74, 3) := by decide +kernel
theorem dX11_isOfKind_55 : decode cX11_isOfKind 55 = .ok (.ireturn, 1) := by decide +kernel
theorem dX11_isOfKind_56 : decode cX11_isOfKind 56 = .ok (.aload_n 0, 1) := by decide +kernel
theorem dX11_isOfKind_57 : decode cX11_isOfKind 57 = .ok (.instanceof 81, 3) := by decide +kernel
theorem dX11_isOfKind_60 : decode cX11_isOfKind 60 = .ok (.ireturn, 1) := by decide +kernel
theorem dX11_isOfKind_61 : decode cX11_isOfKind 61 = .ok (.aload_n 0, 1) := by decide +kernel
theorem dX11_isOfKind_62 : decode cX11_isOfKind 62 = .ok (.instanceof 330, 3) := by decide +kernel
theorem dX11_isOfKind_65 : decode cX11_isOfKind 65 = .ok (.ireturn, 1) := by decide +kernel
theorem dX12_init_0 : decode cX12_init 0 = .ok (.aload_n 0, 1) := by decide +kernel
theorem dX12_init_1 : decode cX12_init 1 = .ok (.invokespecial 1, 3) := by decide +kernel
theorem dX12_init_4 : decode cX12_init 4 = .ok (.aload_n 0, 1) := by decide +kernel
theorem dX12_init_5 : decode cX12_init 5 = .ok (.bipush 8, 2) := by decide +kernel
theorem dX12_init_7 : decode cX12_init 7 = .ok (.newarray .int, 2) := by decide +kernel
theorem dX12_init_9 : decode cX12_init 9 = .ok (.putfield 7, 3) := by decide +kernel
theorem dX12_init_12 : decode cX12_init 12 = .ok (.aload_n 0, 1) := by decide +kernel
theorem dX12_init_13 : decode cX12_init 13 = .ok (.bipush 8, 2) := by decide +kernel
theorem dX12_init_15 : decode cX12_init 15 = .ok (.newarray .int, 2) := by decide +kernel
theorem dX12_init_17 : decode cX12_init 17 = .ok (.putfield 13, 3) := by decide +kernel
theorem dX12_init_20 : decode cX12_init 20 = .ok (.aload_n 0, 1) := by decide +kernel
theorem dX12_init_21 : decode cX12_init 21 = .ok (.sipush 320, 3) := by decide +kernel
theorem dX12_init_24 : decode cX12_init 24 = .ok (.newarray .int, 2) := by decide +kernel
theorem dX12_init_26 : decode cX12_init 26 = .ok (.putfield 16, 3) := by decide +kernel
theorem dX12_init_29 : decode cX12_init 29 = .ok (.aload_n 0, 1) := by decide +kernel
theorem dX12_init_30 : decode cX12_init 30 = .ok (.bipush 100, 2) := by decide +kernel
theorem dX12_init_32 : decode cX12_init 32 = .ok (.newarray .int, 2) := by decide +kernel
theorem dX12_init_34 : decode cX12_init 34 = .ok (.putfield 19, 3) := by decide +kernel
theorem dX12_init_37 : decode cX12_init 37 = .ok (.aload_n 0, 1) := by decide +kernel
theorem dX12_init_38 : decode cX12_init 38 = .ok (.bipush 29, 2) := by decide +kernel
theorem dX12_init_40 : decode cX12_init 40 = .ok (.newarray .int, 2) := by decide +kernel
theorem dX12_init_42 : decode cX12_init 42 = .ok (.putfield 22, 3) := by decide +kernel
theorem dX12_init_45 : decode cX12_init 45 = .ok (.aload_n 0, 1) := by decide +kernel
theorem dX12_init_46 : decode cX12_init 46 = .ok (.bipush 29, 2) := by decide +kernel
theorem dX12_init_48 : decode cX12_init 48 = .ok (.newarray .int, 2) := by decide +kernel
theorem dX12_init_50 : decode cX12_init 50 = .ok (.putfield 25, 3) := by decide +kernel
theorem dX12_init_53 : decode cX12_init 53 = .ok (.aload_n 0, 1) := by decide +kernel
theorem dX12_init_54 : decode cX12_init 54 = .ok (.bipush 29, 2) := by decide +kernel
theorem dX12_init_56 : decode cX12_init 56 = .ok (.newarray .int, 2) := by decide +kernel
theorem dX12_init_58 : decode cX12_init 58 = .ok (.putfield 28, 3) := by decide +kernel
theorem dX12_init_61 : decode cX12_init 61 = .ok (.aload_n 0, 1) := by decide +kernel
theorem dX12_init_62 : decode cX12_init 62 = .ok (.bipush 58, 2) := by decide +kernel
theorem dX12_init_64 : decode cX12_init 64 = .ok (.newarray .int, 2) := by decide +kernel
theorem dX12_init_66 : decode cX12_init 66 = .ok (.putfield 31, 3) := by decide +kernel
theorem dX12_init_69 : decode cX12_init 69 = .ok (.aload_n 0, 1) := by decide +kernel
theorem dX12_init_70 : decode cX12_init 70 = .ok (.iconst 2, 1) := by decide +kernel
theorem dX12_init_71 : decode cX12_init 71 = .ok (.newarray .boolean, 2) := by decide +kernel
theorem dX12_init_73 : decode cX12_init 73 = .ok (.putfield 34, 3) := by decide +kernel
theorem dX12_init_76 : decode cX12_init 76 = .ok (.aload_n 0, 1) := by decide +kernel
theorem dX12_init_77 : decode cX12_init 77 = .ok (.sipush 696, 3) := by decide +kernel
theorem dX12_init_80 : decode cX12_init 80 = .ok (.newarray .int, 2) := by decide +kernel
theorem dX12_init_82 : decode cX12_init 82 = .ok (.putfield 38, 3) := by decide +kernel
theorem dX12_init_85 : decode cX12_init 85 = .ok (.aload_n 0, 1) := by decide +kernel
theorem dX12_init_86 : decode cX12_init 86 = .ok (.bipush 16, 2) := by decide +kernel
theorem dX12_init_88 : decode cX12_init 88 = .ok (.newarray .int, 2) := by decide +kernel
theorem dX12_init_90 : decode cX12_init 90 = .ok (.putfield 41, 3) := by decide +kernel
theorem dX12_init_93 : decode cX12_init 93 = .ok (.aload_n 0, 1) := by decide +kernel
theorem dX12_init_94 : decode cX12_init 94 = .ok (.bipush 16, 2) := by decide +kernel
theorem dX12_init_96 : decode cX12_init 96 = .ok (.newarray .int, 2) := by decide +kernel
theorem dX12_init_98 : decode cX12_init 98 = .ok (.putfield 44, 3) := by decide +kernel
theorem dX12_init_101 : decode cX12_init 101 = .ok (.aload_n 0, 1) := by decide +kernel
theorem dX12_init_102 : decode cX12_init 102 = .ok (.iconst 5, 1) := by decide +kernel
theorem dX12_init_103 : decode cX12_init 103 = .ok (.newarray .int, 2) := by decide +kernel
theorem dX12_init_105 : decode cX12_init 105 = .ok (.putfield 47, 3) := by decide +kernel
theorem dX12_init_108 : decode cX12_init 108 = .ok (.aload_n 0, 1) := by decide +kernel
theorem dX12_init_109 : decode cX12_init 109 = .ok (.iconst 5, 1) := by decide +kernel
theorem dX12_init_110 : decode cX12_init 110 = .ok (.newarray .int, 2) := by decide +kernel
theorem dX12_init_112 : decode cX12_init 112 = .ok (.putfield 50, 3) := by decide +kernel
theorem dX12_init_115 : decode cX12_init 115 = .ok (.iconst 0, 1) := by decide +kernel
theorem dX12_init_116 : decode cX12_init 116 = .ok (.istore_n 1, 1) := by decide +kernel
theorem dX12_init_117 : decode cX12_init 117 = .ok (.iload_n 1, 1) := by decide +kernel
theorem dX12_init_118 : decode cX12_init 118 = .ok (.bipush 8, 2) := by decide +kernel
theorem dX12_init_120 : decode cX12_init 120 = .ok (.if_icmp .ge 16, 3) := by decide +kernel
theorem dX12_init_123 : decode cX12_init 123 = .ok (.aload_n 0, 1) := by decide +kernel
theorem dX12_init_124 : decode cX12_init 124 = .ok (.getfield 7, 3) := by decide +kernel
theorem dX12_init_127 : decode cX12_init 127 = .ok (.iload_n 1, 1) := by decide +kernel
theorem dX12_init_128 : decode cX12_init 128 = .ok (.iconst (-1), 1) := by decide +kernel
theorem dX12_init_129 : decode cX12_init 129 = .ok (.iastore, 1) := by decide +kernel
theorem dX12_init_130 : decode cX12_init 130 = .ok (.iinc 1 1, 3) := by decide +kernel
theorem dX12_init_133 : decode cX12_init 133 = .ok (.goto (-16), 3) := by decide +kernel
theorem dX12_init_136 : decode cX12_init 136 = .ok (.return_, 1) := by decide +kernel
theorem dX12_in_0 : decode cX12_in 0 = .ok (.iload_n 0, 1) := by decide +kernel
theorem dX12_in_1 : decode cX12_in 1 = .ok (.iload_n 1, 1) := by decide +kernel
theorem dX12_in_2 : decode cX12_in 2 = .ok (.if_icmp .lt 12, 3) := by decide +kernel
theorem dX12_in_5 : decode cX12_in 5 = .ok (.iload_n 0, 1) := by decide +kernel
theorem dX12_in_6 : decode cX12_in 6 = .ok (.iload_n 2, 1) := by decide +kernel
theorem dX12_in_7 : decode cX12_in 7 = .ok (.if_icmp .gt 7, 3) := by decide +kernel
theorem dX12_in_10 : decode cX12_in 10 = .ok (.iconst 1, 1) := by decide +kernel
theorem dX12_in_11 : decode cX12_in 11 = .ok (.goto 4, 3) := by decide +kernel
theorem dX12_in_14 : decode cX12_in 14 = .ok (.iconst 0, 1) := by decide +kernel
theorem dX12_in_15 : decode cX12_in 15 = .ok (.ireturn, 1) := by decide +kernel
theorem dX12_isIn_0 : decode cX12_isIn 0 = .ok (.iload_n 0, 1) := by decide +kernel
theorem dX12_isIn_1 : decode cX12_isIn 1 = .ok (.iload_n 1, 1) := by decide +kernel
theorem dX12_isIn_2 : decode cX12_isIn 2 = .ok (.ishr, 1) := by decide +kernel
theorem dX12_isIn_3 : decode cX12_isIn 3 = .ok (.iconst 1, 1) := by decide +kernel
theorem dX12_isIn_4 : decode cX12_isIn 4 = .ok (.iand, 1) := by decide +kernel
theorem dX12_isIn_5 : decode cX12_isIn 5 = .ok (.iconst 1, 1) := by decide +kernel
theorem dX12_isIn_6 : decode cX12_isIn 6 = .ok (.if_icmp .ne 7, 3) := by decide +kernel
theorem dX12_isIn_9 : decode cX12_isIn 9 = .ok (.iconst 1, 1) := by decide +kernel
theorem dX12_isIn_10 : decode cX12_isIn 10 = .ok (.goto 4, 3) := by decide +kernel
theorem dX12_isIn_13 : decode cX12_isIn 13 = .ok (.iconst 0, 1) := by decide +kernel
theorem dX12_isIn_14 : decode cX12_isIn 14 = .ok (.ireturn, 1) := by decide +kernel
theorem dX12_lay_0 : decode cX12_lay 0 = .ok (.iconst 0, 1) := by decide +kernel
theorem dX12_lay_1 : decode cX12_lay 1 = .ok (.istore 4, 2) := by decide +kernel
theorem dX12_lay_3 : decode cX12_lay 3 = .ok (.iload 4, 2) := by decide +kernel
theorem dX12_lay_5 : decode cX12_lay 5 = .ok (.bipush 29, 2) := by decide +kernel
theorem dX12_lay_7 : decode cX12_lay 7 = .ok (.if_icmp .ge 21, 3) := by decide +kernel
theorem dX12_lay_10 : decode cX12_lay 10 = .ok (.aload_n 2, 1) := by decide +kernel
theorem dX12_lay_11 : decode cX12_lay 11 = .ok (.iload_n 3, 1) := by decide +kernel
theorem dX12_lay_12 : decode cX12_lay 12 = .ok (.iload 4, 2) := by decide +kernel
theorem dX12_lay_14 : decode cX12_lay 14 = .ok (.iadd, 1) := by decide +kernel
theorem dX12_lay_15 : decode cX12_lay 15 = .ok (.aload_n 0, 1) := by decide +kernel
theorem dX12_lay_16 : decode cX12_lay 16 = .ok (.iload_n 1, 1) := by decide +kernel
theorem dX12_lay_17 : decode cX12_lay 17 = .ok (.iload 4, 2) := by decide +kernel
theorem dX12_lay_19 : decode cX12_lay 19 = .ok (.iadd, 1) := by decide +kernel
theorem dX12_lay_20 : decode cX12_lay 20 = .ok (.iaload, 1) := by decide +kernel
theorem dX12_lay_21 : decode cX12_lay 21 = .ok (.iastore, 1) := by decide +kernel
theorem dX12_lay_22 : decode cX12_lay 22 = .ok (.iinc 4 1, 3) := by decide +kernel
theorem dX12_lay_25 : decode cX12_lay 25 = .ok (.goto (-22), 3) := by decide +kernel
theorem dX12_lay_28 : decode cX12_lay 28 = .ok (.return_, 1) := by decide +kernel
theorem dX12_isCoast_0 : decode cX12_isCoast 0 = .ok (.aload_n 0, 1) := by decide +kernel
theorem dX12_isCoast_1 : decode cX12_isCoast 1 = .ok (.getfield 22, 3) := by decide +kernel
theorem dX12_isCoast_4 : decode cX12_isCoast 4 = .ok (.bipush 8, 2) := by decide +kernel
theorem dX12_isCoast_6 : decode cX12_isCoast 6 = .ok (.iaload, 1) := by decide +kernel
theorem dX12_isCoast_7 : decode cX12_isCoast 7 = .ok (.iconst 1, 1) := by decide +kernel
theorem dX12_isCoast_8 : decode cX12_isCoast 8 = .ok (.if_icmp .ne 7, 3) := by decide +kernel
theorem dX12_isCoast_11 : decode cX12_isCoast 11 = .ok (.iconst 1, 1) := by decide +kernel
theorem dX12_isCoast_12 : decode cX12_isCoast 12 = .ok (.goto 4, 3) := by decide +kernel
theorem dX12_isCoast_15 : decode cX12_isCoast 15 = .ok (.iconst 0, 1) := by decide +kernel
theorem dX12_isCoast_16 : decode cX12_isCoast 16 = .ok (.ireturn, 1) := by decide +kernel
theorem dX12_isOne_0 : decode cX12_isOne 0 = .ok (.iload_n 1, 1) := by decide +kernel
theorem dX12_isOne_1 : decode cX12_isOne 1 = .ok (.iconst 0, 1) := by decide +kernel
theorem dX12_isOne_2 : decode cX12_isOne 2 = .ok (.aload_n 0, 1) := by decide +kernel
theorem dX12_isOne_3 : decode cX12_isOne 3 = .ok (.getfield 22, 3) := by decide +kernel
theorem dX12_isOne_6 : decode cX12_isOne 6 = .ok (.iconst 3, 1) := by decide +kernel
theorem dX12_isOne_7 : decode cX12_isOne 7 = .ok (.iaload, 1) := by decide +kernel
theorem dX12_isOne_8 : decode cX12_isOne 8 = .ok (.iconst 1, 1) := by decide +kernel
theorem dX12_isOne_9 : decode cX12_isOne 9 = .ok (.isub, 1) := by decide +kernel
theorem dX12_isOne_10 : decode cX12_isOne 10 = .ok (.invokestatic 53, 3) := by decide +kernel
theorem dX12_isOne_13 : decode cX12_isOne 13 = .ok (.ireturn, 1) := by decide +kernel
theorem dX12_finds_0 : decode cX12_finds 0 = .ok (.aload_n 0, 1) := by decide +kernel
theorem dX12_finds_1 : decode cX12_finds 1 = .ok (.iload_n 1, 1) := by decide +kernel
theorem dX12_finds_2 : decode cX12_finds 2 = .ok (.putfield 57, 3) := by decide +kernel
theorem dX12_finds_5 : decode cX12_finds 5 = .ok (.ldc 61, 2) := by decide +kernel
theorem dX12_finds_7 : decode cX12_finds 7 = .ok (.iload_n 1, 1) := by decide +kernel
theorem dX12_finds_8 : decode cX12_finds 8 = .ok (.isub, 1) := by decide +kernel
theorem dX12_finds_9 : decode cX12_finds 9 = .ok (.ireturn, 1) := by decide +kernel
theorem dX12_done_0 : decode cX12_done 0 = .ok (.aload_n 0, 1) := by decide +kernel
theorem dX12_done_1 : decode cX12_done 1 = .ok (.iconst 0, 1) := by decide +kernel
theorem dX12_done_2 : decode cX12_done 2 = .ok (.putfield 57, 3) := by decide +kernel
theorem dX12_done_5 : decode cX12_done 5 = .ok (.iload_n 1, 1) := by decide +kernel
theorem dX12_done_6 : decode cX12_done 6 = .ok (.ireturn, 1) := by decide +kernel
theorem dX12_isRow_0 : decode cX12_isRow 0 = .ok (.iload_n 0, 1) := by decide +kernel
theorem dX12_isRow_1 : decode cX12_isRow 1 = .ok (.iconst 0, 1) := by decide +kernel
theorem dX12_isRow_2 : decode cX12_isRow 2 = .ok (.bipush 7, 2) := by decide +kernel
theorem dX12_isRow_4 : decode cX12_isRow 4 = .ok (.invokestatic 53, 3) := by decide +kernel
theorem dX12_isRow_7 : decode cX12_isRow 7 = .ok (.ireturn, 1) := by decide +kernel
theorem dX12_row_0 : decode cX12_row 0 = .ok (.iload_n 1, 1) := by decide +kernel
theorem dX12_row_1 : decode cX12_row 1 = .ok (.invokestatic 62, 3) := by decide +kernel
theorem dX12_row_4 : decode cX12_row 4 = .ok (.ifCond .eq 18, 3) := by decide +kernel
theorem dX12_row_7 : decode cX12_row 7 = .ok (.iload_n 2, 1) := by decide +kernel
theorem dX12_row_8 : decode cX12_row 8 = .ok (.iconst 0, 1) := by decide +kernel
theorem dX12_row_9 : decode cX12_row 9 = .ok (.iconst 2, 1) := by decide +kernel
theorem dX12_row_10 : decode cX12_row 10 = .ok (.invokestatic 53, 3) := by decide +kernel
theorem dX12_row_13 : decode cX12_row 13 = .ok (.ifCond .eq 9, 3) := by decide +kernel
theorem dX12_row_16 : decode cX12_row 16 = .ok (.iload_n 3, 1) := by decide +kernel
theorem dX12_row_17 : decode cX12_row 17 = .ok (.bipush 40, 2) := by decide +kernel
theorem dX12_row_19 : decode cX12_row 19 = .ok (.if_icmp .le 6, 3) := by decide +kernel
theorem dX12_row_22 : decode cX12_row 22 = .ok (.ldc 66, 2) := by decide +kernel
theorem dX12_row_24 : decode cX12_row 24 = .ok (.ireturn, 1) := by decide +kernel
theorem dX12_row_25 : decode cX12_row 25 = .ok (.iload_n 3, 1) := by decide +kernel
theorem dX12_row_26 : decode cX12_row 26 = .ok (.ifCond .ge 9, 3) := by decide +kernel
theorem dX12_row_29 : decode cX12_row 29 = .ok (.aload_n 0, 1) := by decide +kernel
theorem dX12_row_30 : decode cX12_row 30 = .ok (.iconst 4, 1) := by decide +kernel
theorem dX12_row_31 : decode cX12_row 31 = .ok (.invokevirtual 67, 3) := by decide +kernel
theorem dX12_row_34 : decode cX12_row 34 = .ok (.ireturn, 1) := by decide +kernel
theorem dX12_row_35 : decode cX12_row 35 = .ok (.aload_n 0, 1) := by decide +kernel
theorem dX12_row_36 : decode cX12_row 36 = .ok (.getfield 7, 3) := by decide +kernel
theorem dX12_row_39 : decode cX12_row 39 = .ok (.iload_n 1, 1) := by decide +kernel
theorem dX12_row_40 : decode cX12_row 40 = .ok (.iload_n 2, 1) := by decide +kernel
theorem dX12_row_41 : decode cX12_row 41 = .ok (.iastore, 1) := by decide +kernel
theorem dX12_row_42 : decode cX12_row 42 = .ok (.aload_n 0, 1) := by decide +kernel
theorem dX12_row_43 : decode cX12_row 43 = .ok (.getfield 13, 3) := by decide +kernel
theorem dX12_row_46 : decode cX12_row 46 = .ok (.iload_n 1, 1) := by decide +kernel
theorem dX12_row_47 : decode cX12_row 47 = .ok (.iload_n 3, 1) := by decide +kernel
theorem dX12_row_48 : decode cX12_row 48 = .ok (.iastore, 1) := by decide +kernel
theorem dX12_row_49 : decode cX12_row 49 = .ok (.iconst 0, 1) := by decide +kernel
theorem dX12_row_50 : decode cX12_row 50 = .ok (.istore 4, 2) := by decide +kernel
theorem dX12_row_52 : decode cX12_row 52 = .ok (.iload 4, 2) := by decide +kernel
theorem dX12_row_54 : decode cX12_row 54 = .ok (.bipush 40, 2) := by decide +kernel
theorem dX12_row_56 : decode cX12_row 56 = .ok (.if_icmp .ge 22, 3) := by decide +kernel
theorem dX12_row_59 : decode cX12_row 59 = .ok (.aload_n 0, 1) := by decide +kernel
theorem dX12_row_60 : decode cX12_row 60 = .ok (.getfield 16, 3) := by decide +kernel
theorem dX12_row_63 : decode cX12_row 63 = .ok (.bipush 40, 2) := by decide +kernel
theorem dX12_row_65 : decode cX12_row 65 = .ok (.iload_n 1, 1) := by decide +kernel
theorem dX12_row_66 : decode cX12_row 66 = .ok (.imul, 1) := by decide +kernel
theorem dX12_row_67 : decode cX12_row 67 = .ok (.iload 4, 2) := by decide +kernel
theorem dX12_row_69 : decode cX12_row 69 = .ok (.iadd, 1) := by decide +kernel
theorem dX12_row_70 : decode cX12_row 70 = .ok (.iconst 0, 1) := by decide +kernel
theorem dX12_row_71 : decode cX12_row 71 = .ok (.iastore, 1) := by decide +kernel
theorem dX12_row_72 : decode cX12_row 72 = .ok (.iinc 4 1, 3) := by decide +kernel
theorem dX12_row_75 : decode cX12_row 75 = .ok (.goto (-23), 3) := by decide +kernel
theorem dX12_row_78 : decode cX12_row 78 = .ok (.aload_n 0, 1) := by decide +kernel
theorem dX12_row_79 : decode cX12_row 79 = .ok (.iload_n 3, 1) := by decide +kernel
theorem dX12_row_80 : decode cX12_row 80 = .ok (.invokevirtual 71, 3) := by decide +kernel
theorem dX12_row_83 : decode cX12_row 83 = .ok (.ireturn, 1) := by decide +kernel
theorem dX12_set_0 : decode cX12_set 0 = .ok (.iload_n 1, 1) := by decide +kernel
theorem dX12_set_1 : decode cX12_set 1 = .ok (.invokestatic 62, 3) := by decide +kernel
theorem dX12_set_4 : decode cX12_set 4 = .ok (.ifCond .ne 6, 3) := by decide +kernel
theorem dX12_set_7 : decode cX12_set 7 = .ok (.ldc 66, 2) := by decide +kernel
theorem dX12_set_9 : decode cX12_set 9 = .ok (.ireturn, 1) := by decide +kernel
theorem dX12_set_10 : decode cX12_set 10 = .ok (.aload_n 0, 1) := by decide +kernel
theorem dX12_set_11 : decode cX12_set 11 = .ok (.getfield 7, 3) := by decide +kernel
theorem dX12_set_14 : decode cX12_set 14 = .ok (.iload_n 1, 1) := by decide +kernel
theorem dX12_set_15 : decode cX12_set 15 = .ok (.iaload, 1) := by decide +kernel
theorem dX12_set_16 : decode cX12_set 16 = .ok (.ifCond .ge 9, 3) := by decide +kernel
theorem dX12_set_19 : decode cX12_set 19 = .ok (.aload_n 0, 1) := by decide +kernel
theorem dX12_set_20 : decode cX12_set 20 = .ok (.iconst 1, 1) := by decide +kernel
theorem dX12_set_21 : decode cX12_set 21 = .ok (.invokevirtual 67, 3) := by decide +kernel
theorem dX12_set_24 : decode cX12_set 24 = .ok (.ireturn, 1) := by decide +kernel
theorem dX12_set_25 : decode cX12_set 25 = .ok (.iload_n 2, 1) := by decide +kernel
theorem dX12_set_26 : decode cX12_set 26 = .ok (.iconst 0, 1) := by decide +kernel
theorem dX12_set_27 : decode cX12_set 27 = .ok (.aload_n 0, 1) := by decide +kernel
theorem dX12_set_28 : decode cX12_set 28 = .ok (.getfield 13, 3) := by decide +kernel
theorem dX12_set_31 : decode cX12_set 31 = .ok (.iload_n 1, 1) := by decide +kernel
theorem dX12_set_32 : decode cX12_set 32 = .ok (.iaload, 1) := by decide +kernel
theorem dX12_set_33 : decode cX12_set 33 = .ok (.iconst 1, 1) := by decide +kernel
theorem dX12_set_34 : decode cX12_set 34 = .ok (.isub, 1) := by decide +kernel
theorem dX12_set_35 : decode cX12_set 35 = .ok (.invokestatic 53, 3) := by decide +kernel
theorem dX12_set_38 : decode cX12_set 38 = .ok (.ifCond .ne 9, 3) := by decide +kernel
theorem dX12_set_41 : decode cX12_set 41 = .ok (.aload_n 0, 1) := by decide +kernel
theorem dX12_set_42 : decode cX12_set 42 = .ok (.iconst 2, 1) := by decide +kernel
theorem dX12_set_43 : decode cX12_set 43 = .ok (.invokevirtual 67, 3) := by decide +kernel
theorem dX12_set_46 : decode cX12_set 46 = .ok (.ireturn, 1) := by decide +kernel
theorem dX12_set_47 : decode cX12_set 47 = .ok (.aload_n 0, 1) := by decide +kernel
theorem dX12_set_48 : decode cX12_set 48 = .ok (.getfield 16, 3) := by decide +kernel
theorem dX12_set_51 : decode cX12_set 51 = .ok (.bipush 40, 2) := by decide +kernel
theorem dX12_set_53 : decode cX12_set 53 = .ok (.iload_n 1, 1) := by decide +kernel
theorem dX12_set_54 : decode cX12_set 54 = .ok (.imul, 1) := by decide +kernel
theorem dX12_set_55 : decode cX12_set 55 = .ok (.iload_n 2, 1) := by decide +kernel
theorem dX12_set_56 : decode cX12_set 56 = .ok (.iadd, 1) := by decide +kernel
theorem dX12_set_57 : decode cX12_set 57 = .ok (.aload_n 0, 1) := by decide +kernel
theorem dX12_set_58 : decode cX12_set 58 = .ok (.getfield 7, 3) := by decide +kernel
theorem dX12_set_61 : decode cX12_set 61 = .ok (.iload_n 1, 1) := by decide +kernel
theorem dX12_set_62 : decode cX12_set 62 = .ok (.iaload, 1) := by decide +kernel
theorem dX12_set_63 : decode cX12_set 63 = .ok (.ifCond .ne 8, 3) := by decide +kernel
theorem dX12_set_66 : decode cX12_set 66 = .ok (.iload_n 3, 1) := by decide +kernel
theorem dX12_set_67 : decode cX12_set 67 = .ok (.i2b, 1) := by decide +kernel
theorem dX12_set_68 : decode cX12_set 68 = .ok (.goto 19, 3) := by decide +kernel
theorem dX12_set_71 : decode cX12_set 71 = .ok (.aload_n 0, 1) := by decide +kernel
theorem dX12_set_72 : decode cX12_set 72 = .ok (.getfield 7, 3) := by decide +kernel
theorem dX12_set_75 : decode cX12_set 75 = .ok (.iload_n 1, 1) := by decide +kernel
theorem dX12_set_76 : decode cX12_set 76 = .ok (.iaload, 1) := by decide +kernel
theorem dX12_set_77 : decode cX12_set 77 = .ok (.iconst 1, 1) := by decide +kernel
theorem dX12_set_78 : decode cX12_set 78 = .ok (.if_icmp .ne 8, 3) := by decide +kernel
theorem dX12_set_81 : decode cX12_set 81 = .ok (.iload_n 3, 1) := by decide +kernel
theorem dX12_set_82 : decode cX12_set 82 = .ok (.i2s, 1) := by decide +kernel
theorem dX12_set_83 : decode cX12_set 83 = .ok (.goto 4, 3) := by decide +kernel
theorem dX12_set_86 : decode cX12_set 86 = .ok (.iload_n 3, 1) := by decide +kernel
theorem dX12_set_87 : decode cX12_set 87 = .ok (.iastore, 1) := by decide +kernel
theorem dX12_set_88 : decode cX12_set 88 = .ok (.aload_n 0, 1) := by decide +kernel
theorem dX12_set_89 : decode cX12_set 89 = .ok (.aload_n 0, 1) := by decide +kernel
theorem dX12_set_90 : decode cX12_set 90 = .ok (.getfield 16, 3) := by decide +kernel
theorem dX12_set_93 : decode cX12_set 93 = .ok (.bipush 40, 2) := by decide +kernel
theorem dX12_set_95 : decode cX12_set 95 = .ok (.iload_n 1, 1) := by decide +kernel
theorem dX12_set_96 : decode cX12_set 96 = .ok (.imul, 1) := by decide +kernel
theorem dX12_set_97 : decode cX12_set 97 = .ok (.iload_n 2, 1) := by decide +kernel
theorem dX12_set_98 : decode cX12_set 98 = .ok (.iadd, 1) := by decide +kernel
theorem dX12_set_99 : decode cX12_set 99 = .ok (.iaload, 1) := by decide +kernel
theorem dX12_set_100 : decode cX12_set 100 = .ok (.invokevirtual 71, 3) := by decide +kernel
theorem dX12_set_103 : decode cX12_set 103 = .ok (.ireturn, 1) := by decide +kernel
theorem dX12_isPart_0 : decode cX12_isPart 0 = .ok (.iload_n 0, 1) := by decide +kernel
theorem dX12_isPart_1 : decode cX12_isPart 1 = .ok (.ifCond .lt 23, 3) := by decide +kernel
theorem dX12_isPart_4 : decode cX12_isPart 4 = .ok (.iload_n 1, 1) := by decide +kernel
theorem dX12_isPart_5 : decode cX12_isPart 5 = .ok (.ifCond .lt 19, 3) := by decide +kernel
theorem dX12_isPart_8 : decode cX12_isPart 8 = .ok (.iload_n 1, 1) := by decide +kernel
theorem dX12_isPart_9 : decode cX12_isPart 9 = .ok (.iload_n 2, 1) := by decide +kernel
theorem dX12_isPart_10 : decode cX12_isPart 10 = .ok (.if_icmp .gt 14, 3) := by decide +kernel
theorem dX12_isPart_13 : decode cX12_isPart 13 = .ok (.iload_n 0, 1) := by decide +kernel
theorem dX12_isPart_14 : decode cX12_isPart 14 = .ok (.iload_n 2, 1) := by decide +kernel
theorem dX12_isPart_15 : decode cX12_isPart 15 = .ok (.iload_n 1, 1) := by decide +kernel
theorem dX12_isPart_16 : decode cX12_isPart 16 = .ok (.isub, 1) := by decide +kernel
theorem dX12_isPart_17 : decode cX12_isPart 17 = .ok (.if_icmp .gt 7, 3) := by decide +kernel
theorem dX12_isPart_20 : decode cX12_isPart 20 = .ok (.iconst 1, 1) := by decide +kernel
theorem dX12_isPart_21 : decode cX12_isPart 21 = .ok (.goto 4, 3) := by decide +kernel
theorem dX12_isPart_24 : decode cX12_isPart 24 = .ok (.iconst 0, 1) := by decide +kernel
theorem dX12_isPart_25 : decode cX12_isPart 25 = .ok (.ireturn, 1) := by decide +kernel
theorem dX12_copy_0 : decode cX12_copy 0 = .ok (.iload_n 1, 1) := by decide +kernel
theorem dX12_copy_1 : decode cX12_copy 1 = .ok (.invokestatic 62, 3) := by decide +kernel
theorem dX12_copy_4 : decode cX12_copy 4 = .ok (.ifCond .eq 10, 3) := by decide +kernel
theorem dX12_copy_7 : decode cX12_copy 7 = .ok (.iload_n 3, 1) := by decide +kernel
theorem dX12_copy_8 : decode cX12_copy 8 = .ok (.invokestatic 62, 3) := by decide +kernel
theorem dX12_copy_11 : decode cX12_copy 11 = .ok (.ifCond .ne 6, 3) := by decide +kernel
theorem dX12_copy_14 : decode cX12_copy 14 = .ok (.ldc 66, 2) := by decide +kernel
theorem dX12_copy_16 : decode cX12_copy 16 = .ok (.ireturn, 1) := by decide +kernel
theorem dX12_copy_17 : decode cX12_copy 17 = .ok (.aload_n 0, 1) := by decide +kernel
theorem dX12_copy_18 : decode cX12_copy 18 = .ok (.getfield 7, 3) := by decide +kernel
theorem dX12_copy_21 : decode cX12_copy 21 = .ok (.iload_n 1, 1) := by decide +kernel
theorem dX12_copy_22 : decode cX12_copy 22 = .ok (.iaload, 1) := by decide +kernel
theorem dX12_copy_23 : decode cX12_copy 23 = .ok (.ifCond .lt 12, 3) := by decide +kernel
theorem dX12_copy_26 : decode cX12_copy 26 = .ok (.aload_n 0, 1) := by decide +kernel
theorem dX12_copy_27 : decode cX12_copy 27 = .ok (.getfield 7, 3) := by decide +kernel
theorem dX12_copy_30 : decode cX12_copy 30 = .ok (.iload_n 3, 1) := by decide +kernel
theorem dX12_copy_31 : decode cX12_copy 31 = .ok (.iaload, 1) := by decide +kernel
theorem dX12_copy_32 : decode cX12_copy 32 = .ok (.ifCond .ge 9, 3) := by decide +kernel
theorem dX12_copy_35 : decode cX12_copy 35 = .ok (.aload_n 0, 1) := by decide +kernel
theorem dX12_copy_36 : decode cX12_copy 36 = .ok (.iconst 1, 1) := by decide +kernel
theorem dX12_copy_37 : decode cX12_copy 37 = .ok (.invokevirtual 67, 3) := by decide +kernel
theorem dX12_copy_40 : decode cX12_copy 40 = .ok (.ireturn, 1) := by decide +kernel
theorem dX12_copy_41 : decode cX12_copy 41 = .ok (.aload_n 0, 1) := by decide +kernel
theorem dX12_copy_42 : decode cX12_copy 42 = .ok (.getfield 7, 3) := by decide +kernel
theorem dX12_copy_45 : decode cX12_copy 45 = .ok (.iload_n 1, 1) := by decide +kernel
theorem dX12_copy_46 : decode cX12_copy 46 = .ok (.iaload, 1) := by decide +kernel
theorem dX12_copy_47 : decode cX12_copy 47 = .ok (.aload_n 0, 1) := by decide +kernel
theorem dX12_copy_48 : decode cX12_copy 48 = .ok (.getfield 7, 3) := by decide +kernel
theorem dX12_copy_51 : decode cX12_copy 51 = .ok (.iload_n 3, 1) := by decide +kernel
theorem dX12_copy_52 : decode cX12_copy 52 = .ok (.iaload, 1) := by decide +kernel
theorem dX12_copy_53 : decode cX12_copy 53 = .ok (.if_icmp .eq 9, 3) := by decide +kernel
theorem dX12_copy_56 : decode cX12_copy 56 = .ok (.aload_n 0, 1) := by decide +kernel
theorem dX12_copy_57 : decode cX12_copy 57 = .ok (.iconst 5, 1) := by decide +kernel
theorem dX12_copy_58 : decode cX12_copy 58 = .ok (.invokevirtual 67, 3) := by decide +kernel
theorem dX12_copy_61 : decode cX12_copy 61 = .ok (.ireturn, 1) := by decide +kernel
theorem dX12_copy_62 : decode cX12_copy 62 = .ok (.iload_n 2, 1) := by decide +kernel
theorem dX12_copy_63 : decode cX12_copy 63 = .ok (.iload 5, 2) := by decide +kernel
theorem dX12_copy_65 : decode cX12_copy 65 = .ok (.aload_n 0, 1) := by decide +kernel
theorem dX12_copy_66 : decode cX12_copy 66 = .ok (.getfield 13, 3) := by decide +kernel
theorem dX12_copy_69 : decode cX12_copy 69 = .ok (.iload_n 1, 1) := by decide +kernel
theorem dX12_copy_70 : decode cX12_copy 70 = .ok (.iaload, 1) := by decide +kernel
theorem dX12_copy_71 : decode cX12_copy 71 = .ok (.invokestatic 74, 3) := by decide +kernel
theorem dX12_copy_74 : decode cX12_copy 74 = .ok (.ifCond .eq 19, 3) := by decide +kernel
theorem dX12_copy_77 : decode cX12_copy 77 = .ok (.iload 4, 2) := by decide +kernel
theorem dX12_copy_79 : decode cX12_copy 79 = .ok (.iload 5, 2) := by decide +kernel
theorem dX12_copy_81 : decode cX12_copy 81 = .ok (.aload_n 0, 1) := by decide +kernel
theorem dX12_copy_82 : decode cX12_copy 82 = .ok (.getfield 13, 3) := by decide +kernel
theorem dX12_copy_85 : decode cX12_copy 85 = .ok (.iload_n 3, 1) := by decide +kernel
theorem dX12_copy_86 : decode cX12_copy 86 = .ok (.iaload, 1) := by decide +kernel
theorem dX12_copy_87 : decode cX12_copy 87 = .ok (.invokestatic 74, 3) := by decide +kernel
theorem dX12_copy_90 : decode cX12_copy 90 = .ok (.ifCond .ne 9, 3) := by decide +kernel
theorem dX12_copy_93 : decode cX12_copy 93 = .ok (.aload_n 0, 1) := by decide +kernel
theorem dX12_copy_94 : decode cX12_copy 94 = .ok (.iconst 2, 1) := by decide +kernel
theorem dX12_copy_95 : decode cX12_copy 95 = .ok (.invokevirtual 67, 3) := by decide +kernel
theorem dX12_copy_98 : decode cX12_copy 98 = .ok (.ireturn, 1) := by decide +kernel
theorem dX12_copy_99 : decode cX12_copy 99 = .ok (.iload_n 1, 1) := by decide +kernel
theorem dX12_copy_100 : decode cX12_copy 100 = .ok (.iload_n 3, 1) := by decide +kernel
theorem dX12_copy_101 : decode cX12_copy 101 = .ok (.if_icmp .ne 13, 3) := by decide +kernel
theorem dX12_copy_104 : decode cX12_copy 104 = .ok (.iload 4, 2) := by decide +kernel
theorem dX12_copy_106 : decode cX12_copy 106 = .ok (.iload_n 2, 1) := by decide +kernel
theorem dX12_copy_107 : decode cX12_copy 107 = .ok (.if_icmp .le 7, 3) := by decide +kernel
theorem dX12_copy_110 : decode cX12_copy 110 = .ok (.iconst 1, 1) := by decide +kernel
theorem dX12_copy_111 : decode cX12_copy 111 = .ok (.goto 4, 3) := by decide +kernel
theorem dX12_copy_114 : decode cX12_copy 114 = .ok (.iconst 0, 1) := by decide +kernel
theorem dX12_copy_115 : decode cX12_copy 115 = .ok (.istore 6, 2) := by decide +kernel
theorem dX12_copy_117 : decode cX12_copy 117 = .ok (.iconst 0, 1) := by decide +kernel
theorem dX12_copy_118 : decode cX12_copy 118 = .ok (.istore 7, 2) := by decide +kernel
theorem dX12_copy_120 : decode cX12_copy 120 = .ok (.iload 7, 2) := by decide +kernel
theorem dX12_copy_122 : decode cX12_copy 122 = .ok (.iload 5, 2) := by decide +kernel
theorem dX12_copy_124 : decode cX12_copy 124 = .ok (.if_icmp .ge 57, 3) := by decide +kernel
theorem dX12_copy_127 : decode cX12_copy 127 = .ok (.iload 6, 2) := by decide +kernel
theorem dX12_copy_129 : decode cX12_copy 129 = .ok (.ifCond .eq 13, 3) := by decide +kernel
theorem dX12_copy_132 : decode cX12_copy 132 = .ok (.iload 5, 2) := by decide +kernel
theorem dX12_copy_134 : decode cX12_copy 134 = .ok (.iconst 1, 1) := by decide +kernel
theorem dX12_copy_135 : decode cX12_copy 135 = .ok (.isub, 1) := by decide +kernel
theorem dX12_copy_136 : decode cX12_copy 136 = .ok (.iload 7, 2) := by decide +kernel
theorem dX12_copy_138 : decode cX12_copy 138 = .ok (.isub, 1) := by decide +kernel
theorem dX12_copy_139 : decode cX12_copy 139 = .ok (.goto 5, 3) := by decide +kernel
theorem dX12_copy_142 : decode cX12_copy 142 = .ok (.iload 7, 2) := by decide +kernel
theorem dX12_copy_144 : decode cX12_copy 144 = .ok (.istore 8, 2) := by decide +kernel
theorem dX12_copy_146 : decode cX12_copy 146 = .ok (.aload_n 0, 1) := by decide +kernel
theorem dX12_copy_147 : decode cX12_copy 147 = .ok (.getfield 16, 3) := by decide +kernel
theorem dX12_copy_150 : decode cX12_copy 150 = .ok (.bipush 40, 2) := by decide +kernel
theorem dX12_copy_152 : decode cX12_copy 152 = .ok (.iload_n 3, 1) := by decide +kernel
theorem dX12_copy_153 : decode cX12_copy 153 = .ok (.imul, 1) := by decide +kernel
theorem dX12_copy_154 : decode cX12_copy 154 = .ok (.iload 4, 2) := by decide +kernel
theorem dX12_copy_156 : decode cX12_copy 156 = .ok (.iadd, 1) := by decide +kernel
theorem dX12_copy_157 : decode cX12_copy 157 = .ok (.iload 8, 2) := by decide +kernel
theorem dX12_copy_159 : decode cX12_copy 159 = .ok (.iadd, 1) := by decide +kernel
theorem dX12_copy_160 : decode cX12_copy 160 = .ok (.aload_n 0, 1) := by decide +kernel
theorem dX12_copy_161 : decode cX12_copy 161 = .ok (.getfield 16, 3) := by decide +kernel
theorem dX12_copy_164 : decode cX12_copy 164 = .ok (.bipush 40, 2) := by decide +kernel
theorem dX12_copy_166 : decode cX12_copy 166 = .ok (.iload_n 1, 1) := by decide +kernel
theorem dX12_copy_167 : decode cX12_copy 167 = .ok (.imul, 1) := by decide +kernel
theorem dX12_copy_168 : decode cX12_copy 168 = .ok (.iload_n 2, 1) := by decide +kernel
theorem dX12_copy_169 : decode cX12_copy 169 = .ok (.iadd, 1) := by decide +kernel
theorem dX12_copy_170 : decode cX12_copy 170 = .ok (.iload 8, 2) := by decide +kernel
theorem dX12_copy_172 : decode cX12_copy 172 = .ok (.iadd, 1) := by decide +kernel
theorem dX12_copy_173 : decode cX12_copy 173 = .ok (.iaload, 1) := by decide +kernel
theorem dX12_copy_174 : decode cX12_copy 174 = .ok (.iastore, 1) := by decide +kernel
theorem dX12_copy_175 : decode cX12_copy 175 = .ok (.iinc 7 1, 3) := by decide +kernel
theorem dX12_copy_178 : decode cX12_copy 178 = .ok (.goto (-58), 3) := by decide +kernel
theorem dX12_copy_181 : decode cX12_copy 181 = .ok (.aload_n 0, 1) := by decide +kernel
theorem dX12_copy_182 : decode cX12_copy 182 = .ok (.iload 5, 2) := by decide +kernel
theorem dX12_copy_184 : decode cX12_copy 184 = .ok (.invokevirtual 71, 3) := by decide +kernel
theorem dX12_copy_187 : decode cX12_copy 187 = .ok (.ireturn, 1) := by decide +kernel
theorem dX12_drop_0 : decode cX12_drop 0 = .ok (.iload_n 1, 1) := by decide +kernel
theorem dX12_drop_1 : decode cX12_drop 1 = .ok (.invokestatic 62, 3) := by decide +kernel
theorem dX12_drop_4 : decode cX12_drop 4 = .ok (.ifCond .ne 6, 3) := by decide +kernel
theorem dX12_drop_7 : decode cX12_drop 7 = .ok (.ldc 66, 2) := by decide +kernel
theorem dX12_drop_9 : decode cX12_drop 9 = .ok (.ireturn, 1) := by decide +kernel
theorem dX12_drop_10 : decode cX12_drop 10 = .ok (.aload_n 0, 1) := by decide +kernel
theorem dX12_drop_11 : decode cX12_drop 11 = .ok (.getfield 7, 3) := by decide +kernel
theorem dX12_drop_14 : decode cX12_drop 14 = .ok (.iload_n 1, 1) := by decide +kernel
theorem dX12_drop_15 : decode cX12_drop 15 = .ok (.iaload, 1) := by decide +kernel
theorem dX12_drop_16 : decode cX12_drop 16 = .ok (.ifCond .ge 9, 3) := by decide +kernel
theorem dX12_drop_19 : decode cX12_drop 19 = .ok (.aload_n 0, 1) := by decide +kernel
theorem dX12_drop_20 : decode cX12_drop 20 = .ok (.iconst 1, 1) := by decide +kernel
theorem dX12_drop_21 : decode cX12_drop 21 = .ok (.invokevirtual 67, 3) := by decide +kernel
theorem dX12_drop_24 : decode cX12_drop 24 = .ok (.ireturn, 1) := by decide +kernel
theorem dX12_drop_25 : decode cX12_drop 25 = .ok (.aload_n 0, 1) := by decide +kernel
theorem dX12_drop_26 : decode cX12_drop 26 = .ok (.getfield 7, 3) := by decide +kernel
theorem dX12_drop_29 : decode cX12_drop 29 = .ok (.iload_n 1, 1) := by decide +kernel
theorem dX12_drop_30 : decode cX12_drop 30 = .ok (.iconst (-1), 1) := by decide +kernel
theorem dX12_drop_31 : decode cX12_drop 31 = .ok (.iastore, 1) := by decide +kernel
theorem dX12_drop_32 : decode cX12_drop 32 = .ok (.aload_n 0, 1) := by decide +kernel
theorem dX12_drop_33 : decode cX12_drop 33 = .ok (.aload_n 0, 1) := by decide +kernel
theorem dX12_drop_34 : decode cX12_drop 34 = .ok (.getfield 13, 3) := by decide +kernel
theorem dX12_drop_37 : decode cX12_drop 37 = .ok (.iload_n 1, 1) := by decide +kernel
theorem dX12_drop_38 : decode cX12_drop 38 = .ok (.iaload, 1) := by decide +kernel
theorem dX12_drop_39 : decode cX12_drop 39 = .ok (.invokevirtual 71, 3) := by decide +kernel
theorem dX12_drop_42 : decode cX12_drop 42 = .ok (.ireturn, 1) := by decide +kernel
theorem dX12_feed_0 : decode cX12_feed 0 = .ok (.iload_n 1, 1) := by decide +kernel
theorem dX12_feed_1 : decode cX12_feed 1 = .ok (.iconst 0, 1) := by decide +kernel
theorem dX12_feed_2 : decode cX12_feed 2 = .ok (.sipush 255, 3) := by decide +kernel
theorem dX12_feed_5 : decode cX12_feed 5 = .ok (.invokestatic 53, 3) := by decide +kernel
theorem dX12_feed_8 : decode cX12_feed 8 = .ok (.ifCond .ne 6, 3) := by decide +kernel
theorem dX12_feed_11 : decode cX12_feed 11 = .ok (.ldc 66, 2) := by decide +kernel
theorem dX12_feed_13 : decode cX12_feed 13 = .ok (.ireturn, 1) := by decide +kernel
theorem dX12_feed_14 : decode cX12_feed 14 = .ok (.aload_n 0, 1) := by decide +kernel
theorem dX12_feed_15 : decode cX12_feed 15 = .ok (.getfield 77, 3) := by decide +kernel
theorem dX12_feed_18 : decode cX12_feed 18 = .ok (.bipush 100, 2) := by decide +kernel
theorem dX12_feed_20 : decode cX12_feed 20 = .ok (.if_icmp .ne 6, 3) := by decide +kernel
theorem dX12_feed_23 : decode cX12_feed 23 = .ok (.ldc 80, 2) := by decide +kernel
theorem dX12_feed_25 : decode cX12_feed 25 = .ok (.ireturn, 1) := by decide +kernel
theorem dX12_feed_26 : decode cX12_feed 26 = .ok (.aload_n 0, 1) := by decide +kernel
theorem dX12_feed_27 : decode cX12_feed 27 = .ok (.getfield 19, 3) := by decide +kernel
theorem dX12_feed_30 : decode cX12_feed 30 = .ok (.aload_n 0, 1) := by decide +kernel
theorem dX12_feed_31 : decode cX12_feed 31 = .ok (.getfield 77, 3) := by decide +kernel
theorem dX12_feed_34 : decode cX12_feed 34 = .ok (.iload_n 1, 1) := by decide +kernel
theorem dX12_feed_35 : decode cX12_feed 35 = .ok (.iastore, 1) := by decide +kernel
theorem dX12_feed_36 : decode cX12_feed 36 = .ok (.aload_n 0, 1) := by decide +kernel
theorem dX12_feed_37 : decode cX12_feed 37 = .ok (.dup, 1) := by decide +kernel
theorem dX12_feed_38 : decode cX12_feed 38 = .ok (.getfield 77, 3) := by decide +kernel
theorem dX12_feed_41 : decode cX12_feed 41 = .ok (.iconst 1, 1) := by decide +kernel
theorem dX12_feed_42 : decode cX12_feed 42 = .ok (.iadd, 1) := by decide +kernel
theorem dX12_feed_43 : decode cX12_feed 43 = .ok (.putfield 77, 3) := by decide +kernel
theorem dX12_feed_46 : decode cX12_feed 46 = .ok (.aload_n 0, 1) := by decide +kernel
theorem dX12_feed_47 : decode cX12_feed 47 = .ok (.getfield 77, 3) := by decide +kernel
theorem dX12_feed_50 : decode cX12_feed 50 = .ok (.ireturn, 1) := by decide +kernel
theorem dX12_nextToken_0 : decode cX12_nextToken 0 = .ok (.aload_n 0, 1) := by decide +kernel
theorem dX12_nextToken_1 : decode cX12_nextToken 1 = .ok (.aload_n 0, 1) := by decide +kernel
theorem dX12_nextToken_2 : decode cX12_nextToken 2 = .ok (.getfield 81, 3) := by decide +kernel
theorem dX12_nextToken_5 : decode cX12_nextToken 5 = .ok (.putfield 84, 3) := by decide +kernel
theorem dX12_nextToken_8 : decode cX12_nextToken 8 = .ok (.aload_n 0, 1) := by decide +kernel
theorem dX12_nextToken_9 : decode cX12_nextToken 9 = .ok (.iconst 0, 1) := by decide +kernel
theorem dX12_nextToken_10 : decode cX12_nextToken 10 = .ok (.putfield 87, 3) := by decide +kernel
theorem dX12_nextToken_13 : decode cX12_nextToken 13 = .ok (.aload_n 0, 1) := by decide +kernel
theorem dX12_nextToken_14 : decode cX12_nextToken 14 = .ok (.getfield 81, 3) := by decide +kernel
theorem dX12_nextToken_17 : decode cX12_nextToken 17 = .ok (.aload_n 0, 1) := by decide +kernel
theorem dX12_nextToken_18 : decode cX12_nextToken 18 = .ok (.getfield 77, 3) := by decide +kernel
theorem dX12_nextToken_21 : decode cX12_nextToken 21 = .ok (.if_icmp .ne 10, 3) := by decide +kernel
theorem dX12_nextToken_24 : decode cX12_nextToken 24 = .ok (.aload_n 0, 1) := by decide +kernel
theorem dX12_nextToken_25 : decode cX12_nextToken 25 = .ok (.bipush (-2), 2) := by decide +kernel
theorem dX12_nextToken_27 : decode cX12_nextToken 27 = .ok (.putfield 90, 3) := by decide +kernel
theorem dX12_nextToken_30 : decode cX12_nextToken 30 = .ok (.return_, 1) := by decide +kernel
theorem dX12_nextToken_31 : decode cX12_nextToken 31 = .ok (.aload_n 0, 1) := by decide +kernel
theorem dX12_nextToken_32 : decode cX12_nextToken 32 = .ok (.getfield 19, 3) := by decide +kernel
theorem dX12_nextToken_35 : decode cX12_nextToken 35 = .ok (.aload_n 0, 1) := by decide +kernel
theorem dX12_nextToken_36 : decode cX12_nextToken 36 = .ok (.getfield 81, 3) := by decide +kernel
theorem dX12_nextToken_39 : decode cX12_nextToken 39 = .ok (.iaload, 1) := by decide +kernel
theorem dX12_nextToken_40 : decode cX12_nextToken 40 = .ok (.istore_n 1, 1) := by decide +kernel
theorem dX12_nextToken_41 : decode cX12_nextToken 41 = .ok (.iload_n 1, 1) := by decide +kernel
theorem dX12_nextToken_42 : decode cX12_nextToken 42 = .ok (.bipush 48, 2) := by decide +kernel
theorem dX12_nextToken_44 : decode cX12_nextToken 44 = .ok (.bipush 57, 2) := by decide +kernel
theorem dX12_nextToken_46 : decode cX12_nextToken 46 = .ok (.invokestatic 53, 3) := by decide +kernel
theorem dX12_nextToken_49 : decode cX12_nextToken 49 = .ok (.ifCond .eq 114, 3) := by decide +kernel
theorem dX12_nextToken_52 : decode cX12_nextToken 52 = .ok (.aload_n 0, 1) := by decide +kernel
theorem dX12_nextToken_53 : decode cX12_nextToken 53 = .ok (.getfield 81, 3) := by decide +kernel
theorem dX12_nextToken_56 : decode cX12_nextToken 56 = .ok (.aload_n 0, 1) := by decide +kernel
theorem dX12_nextToken_57 : decode cX12_nextToken 57 = .ok (.getfield 77, 3) := by decide +kernel
theorem dX12_nextToken_60 : decode cX12_nextToken 60 = .ok (.if_icmp .ge 79, 3) := by decide +kernel
theorem dX12_nextToken_63 : decode cX12_nextToken 63 = .ok (.aload_n 0, 1) := by decide +kernel
theorem dX12_nextToken_64 : decode cX12_nextToken 64 = .ok (.getfield 19, 3) := by decide +kernel
theorem dX12_nextToken_67 : decode cX12_nextToken 67 = .ok (.aload_n 0, 1) := by decide +kernel
theorem dX12_nextToken_68 : decode cX12_nextToken 68 = .ok (.getfield 81, 3) := by decide +kernel
theorem dX12_nextToken_71 : decode cX12_nextToken 71 = .ok (.iaload, 1) := by decide +kernel
theorem dX12_nextToken_72 : decode cX12_nextToken 72 = .ok (.bipush 48, 2) := by decide +kernel
theorem dX12_nextToken_74 : decode cX12_nextToken 74 = .ok (.bipush 57, 2) := by decide +kernel
theorem dX12_nextToken_76 : decode cX12_nextToken 76 = .ok (.invokestatic 53, 3) := by decide +kernel
theorem dX12_nextToken_79 : decode cX12_nextToken 79 = .ok (.ifCond .eq 60, 3) := by decide +kernel
theorem dX12_nextToken_82 : decode cX12_nextToken 82 = .ok (.aload_n 0, 1) := by decide +kernel
theorem dX12_nextToken_83 : decode cX12_nextToken 83 = .ok (.aload_n 0, 1) := by decide +kernel
theorem dX12_nextToken_84 : decode cX12_nextToken 84 = .ok (.getfield 81, 3) := by decide +kernel
theorem dX12_nextToken_87 : decode cX12_nextToken 87 = .ok (.aload_n 0, 1) := by decide +kernel
theorem dX12_nextToken_88 : decode cX12_nextToken 88 = .ok (.getfield 84, 3) := by decide +kernel
theorem dX12_nextToken_91 : decode cX12_nextToken 91 = .ok (.isub, 1) := by decide +kernel
theorem dX12_nextToken_92 : decode cX12_nextToken 92 = .ok (.iconst 2, 1) := by decide +kernel
theorem dX12_nextToken_93 : decode cX12_nextToken 93 = .ok (.if_icmp .ge 26, 3) := by decide +kernel
theorem dX12_nextToken_96 : decode cX12_nextToken 96 = .ok (.bipush 10, 2) := by decide +kernel
theorem dX12_nextToken_98 : decode cX12_nextToken 98 = .ok (.aload_n 0, 1) := by decide +kernel
theorem dX12_nextToken_99 : decode cX12_nextToken 99 = .ok (.getfield 87, 3) := by decide +kernel
theorem dX12_nextToken_102 : decode cX12_nextToken 102 = .ok (.imul, 1) := by decide +kernel
theorem dX12_nextToken_103 : decode cX12_nextToken 103 = .ok (.aload_n 0, 1) := by decide +kernel
theorem dX12_nextToken_104 : decode cX12_nextToken 104 = .ok (.getfield 19, 3) := by decide +kernel
theorem dX12_nextToken_107 : decode cX12_nextToken 107 = .ok (.aload_n 0, 1) := by decide +kernel
theorem dX12_nextToken_108 : decode cX12_nextToken 108 = .ok (.getfield 81, 3) := by decide +kernel
theorem dX12_nextToken_111 : decode cX12_nextToken 111 = .ok (.iaload, 1) := by decide +kernel
theorem dX12_nextToken_112 : decode cX12_nextToken 112 = .ok (.iadd, 1) := by decide +kernel
theorem dX12_nextToken_113 : decode cX12_nextToken 113 = .ok (.bipush 48, 2) := by decide +kernel
theorem dX12_nextToken_115 : decode cX12_nextToken 115 = .ok (.isub, 1) := by decide +kernel
theorem dX12_nextToken_116 : decode cX12_nextToken 116 = .ok (.goto 7, 3) := by decide +kernel
theorem dX12_nextToken_119 : decode cX12_nextToken 119 = .ok (.aload_n 0, 1) := by decide +kernel
theorem dX12_nextToken_120 : decode cX12_nextToken 120 = .ok (.getfield 87, 3) := by decide +kernel
theorem dX12_nextToken_123 : decode cX12_nextToken 123 = .ok (.putfield 87, 3) := by decide +kernel
theorem dX12_nextToken_126 : decode cX12_nextToken 126 = .ok (.aload_n 0, 1) := by decide +kernel
theorem dX12_nextToken_127 : decode cX12_nextToken 127 = .ok (.dup, 1) := by decide +kernel
theorem dX12_nextToken_128 : decode cX12_nextToken 128 = .ok (.getfield 81, 3) := by decide +kernel
theorem dX12_nextToken_131 : decode cX12_nextToken 131 = .ok (.iconst 1, 1) := by decide +kernel
theorem dX12_nextToken_132 : decode cX12_nextToken 132 = .ok (.iadd, 1) := by decide +kernel
theorem dX12_nextToken_133 : decode cX12_nextToken 133 = .ok (.putfield 81, 3) := by decide +kernel
theorem dX12_nextToken_136 : decode cX12_nextToken 136 = .ok (.goto (-84), 3) := by decide +kernel
theorem dX12_nextToken_139 : decode cX12_nextToken 139 = .ok (.aload_n 0, 1) := by decide +kernel
theorem dX12_nextToken_140 : decode cX12_nextToken 140 = .ok (.aload_n 0, 1) := by decide +kernel
theorem dX12_nextToken_141 : decode cX12_nextToken 141 = .ok (.getfield 81, 3) := by decide +kernel
theorem dX12_nextToken_144 : decode cX12_nextToken 144 = .ok (.aload_n 0, 1) := by decide +kernel
theorem dX12_nextToken_145 : decode cX12_nextToken 145 = .ok (.getfield 84, 3) := by decide +kernel
theorem dX12_nextToken_148 : decode cX12_nextToken 148 = .ok (.isub, 1) := by decide +kernel
theorem dX12_nextToken_149 : decode cX12_nextToken 149 = .ok (.iconst 2, 1) := by decide +kernel
theorem dX12_nextToken_150 : decode cX12_nextToken 150 = .ok (.if_icmp .le 8, 3) := by decide +kernel
theorem dX12_nextToken_153 : decode cX12_nextToken 153 = .ok (.bipush (-3), 2) := by decide +kernel
theorem dX12_nextToken_155 : decode cX12_nextToken 155 = .ok (.goto 4, 3) := by decide +kernel
theorem dX12_nextToken_158 : decode cX12_nextToken 158 = .ok (.iconst (-1), 1) := by decide +kernel
theorem dX12_nextToken_159 : decode cX12_nextToken 159 = .ok (.putfield 90, 3) := by decide +kernel
theorem dX12_nextToken_162 : decode cX12_nextToken 162 = .ok (.return_, 1) := by decide +kernel
theorem dX12_nextToken_163 : decode cX12_nextToken 163 = .ok (.aload_n 0, 1) := by decide +kernel
theorem dX12_nextToken_164 : decode cX12_nextToken 164 = .ok (.iload_n 1, 1) := by decide +kernel
theorem dX12_nextToken_165 : decode cX12_nextToken 165 = .ok (.bipush 97, 2) := by decide +kernel
theorem dX12_nextToken_167 : decode cX12_nextToken 167 = .ok (.bipush 122, 2) := by decide +kernel
theorem dX12_nextToken_169 : decode cX12_nextToken 169 = .ok (.invokestatic 53, 3) := by decide +kernel
theorem dX12_nextToken_172 : decode cX12_nextToken 172 = .ok (.ifCond .ne 15, 3) := by decide +kernel
theorem dX12_nextToken_175 : decode cX12_nextToken 175 = .ok (.iload_n 1, 1) := by decide +kernel
theorem dX12_nextToken_176 : decode cX12_nextToken 176 = .ok (.bipush 44, 2) := by decide +kernel
theorem dX12_nextToken_178 : decode cX12_nextToken 178 = .ok (.if_icmp .eq 9, 3) := by decide +kernel
theorem dX12_nextToken_181 : decode cX12_nextToken 181 = .ok (.iload_n 1, 1) := by decide +kernel
theorem dX12_nextToken_182 : decode cX12_nextToken 182 = .ok (.bipush 59, 2) := by decide +kernel
theorem dX12_nextToken_184 : decode cX12_nextToken 184 = .ok (.if_icmp .ne 7, 3) := by decide +kernel
theorem dX12_nextToken_187 : decode cX12_nextToken 187 = .ok (.iload_n 1, 1) := by decide +kernel
theorem dX12_nextToken_188 : decode cX12_nextToken 188 = .ok (.goto 5, 3) := by decide +kernel
theorem dX12_nextToken_191 : decode cX12_nextToken 191 = .ok (.bipush (-3), 2) := by decide +kernel
theorem dX12_nextToken_193 : decode cX12_nextToken 193 = .ok (.putfield 90, 3) := by decide +kernel
theorem dX12_nextToken_196 : decode cX12_nextToken 196 = .ok (.aload_n 0, 1) := by decide +kernel
theorem dX12_nextToken_197 : decode cX12_nextToken 197 = .ok (.dup, 1) := by decide +kernel
theorem dX12_nextToken_198 : decode cX12_nextToken 198 = .ok (.getfield 81, 3) := by decide +kernel
theorem dX12_nextToken_201 : decode cX12_nextToken 201 = .ok (.iconst 1, 1) := by decide +kernel
theorem dX12_nextToken_202 : decode cX12_nextToken 202 = .ok (.iadd, 1) := by decide +kernel
theorem dX12_nextToken_203 : decode cX12_nextToken 203 = .ok (.putfield 81, 3) := by decide +kernel
theorem dX12_nextToken_206 : decode cX12_nextToken 206 = .ok (.return_, 1) := by decide +kernel
theorem dX12_fails_0 : decode cX12_fails 0 = .ok (.aload_n 0, 1) := by decide +kernel
theorem dX12_fails_1 : decode cX12_fails 1 = .ok (.iload_n 1, 1) := by decide +kernel
theorem dX12_fails_2 : decode cX12_fails 2 = .ok (.putfield 93, 3) := by decide +kernel
theorem dX12_fails_5 : decode cX12_fails 5 = .ok (.iconst 0, 1) := by decide +kernel
theorem dX12_fails_6 : decode cX12_fails 6 = .ok (.ireturn, 1) := by decide +kernel
theorem dX12_isSign_0 : decode cX12_isSign 0 = .ok (.aload_n 0, 1) := by decide +kernel
theorem dX12_isSign_1 : decode cX12_isSign 1 = .ok (.invokevirtual 96, 3) := by decide +kernel
theorem dX12_isSign_4 : decode cX12_isSign 4 = .ok (.aload_n 0, 1) := by decide +kernel
theorem dX12_isSign_5 : decode cX12_isSign 5 = .ok (.getfield 90, 3) := by decide +kernel
theorem dX12_isSign_8 : decode cX12_isSign 8 = .ok (.iload_n 1, 1) := by decide +kernel
theorem dX12_isSign_9 : decode cX12_isSign 9 = .ok (.if_icmp .eq 11, 3) := by decide +kernel
theorem dX12_isSign_12 : decode cX12_isSign 12 = .ok (.aload_n 0, 1) := by decide +kernel
theorem dX12_isSign_13 : decode cX12_isSign 13 = .ok (.iconst 1, 1) := by decide +kernel
theorem dX12_isSign_14 : decode cX12_isSign 14 = .ok (.invokevirtual 99, 3) := by decide +kernel
theorem dX12_isSign_17 : decode cX12_isSign 17 = .ok (.ifCond .eq 7, 3) := by decide +kernel
theorem dX12_isSign_20 : decode cX12_isSign 20 = .ok (.iconst 1, 1) := by decide +kernel
theorem dX12_isSign_21 : decode cX12_isSign 21 = .ok (.goto 4, 3) := by decide +kernel
theorem dX12_isSign_24 : decode cX12_isSign 24 = .ok (.iconst 0, 1) := by decide +kernel
theorem dX12_isSign_25 : decode cX12_isSign 25 = .ok (.ireturn, 1) := by decide +kernel
theorem dX12_isNumber_0 : decode cX12_isNumber 0 = .ok (.aload_n 0, 1) := by decide +kernel
theorem dX12_isNumber_1 : decode cX12_isNumber 1 = .ok (.invokevirtual 96, 3) := by decide +kernel
theorem dX12_isNumber_4 : decode cX12_isNumber 4 = .ok (.aload_n 0, 1) := by decide +kernel
theorem dX12_isNumber_5 : decode cX12_isNumber 5 = .ok (.getfield 90, 3) := by decide +kernel
theorem dX12_isNumber_8 : decode cX12_isNumber 8 = .ok (.iconst (-1), 1) := by decide +kernel
theorem dX12_isNumber_9 : decode cX12_isNumber 9 = .ok (.if_icmp .eq 9, 3) := by decide +kernel
theorem dX12_isNumber_12 : decode cX12_isNumber 12 = .ok (.aload_n 0, 1) := by decide +kernel
theorem dX12_isNumber_13 : decode cX12_isNumber 13 = .ok (.iconst 1, 1) := by decide +kernel
theorem dX12_isNumber_14 : decode cX12_isNumber 14 = .ok (.invokevirtual 99, 3) := by decide +kernel
theorem dX12_isNumber_17 : decode cX12_isNumber 17 = .ok (.ireturn, 1) := by decide +kernel
theorem dX12_isNumber_18 : decode cX12_isNumber 18 = .ok (.aload_n 0, 1) := by decide +kernel
theorem dX12_isNumber_19 : decode cX12_isNumber 19 = .ok (.getfield 87, 3) := by decide +kernel
theorem dX12_isNumber_22 : decode cX12_isNumber 22 = .ok (.iload_n 1, 1) := by decide +kernel
theorem dX12_isNumber_23 : decode cX12_isNumber 23 = .ok (.iload_n 2, 1) := by decide +kernel
theorem dX12_isNumber_24 : decode cX12_isNumber 24 = .ok (.invokestatic 53, 3) := by decide +kernel
theorem dX12_isNumber_27 : decode cX12_isNumber 27 = .ok (.ifCond .ne 11, 3) := by decide +kernel
theorem dX12_isNumber_30 : decode cX12_isNumber 30 = .ok (.aload_n 0, 1) := by decide +kernel
theorem dX12_isNumber_31 : decode cX12_isNumber 31 = .ok (.iconst 2, 1) := by decide +kernel
theorem dX12_isNumber_32 : decode cX12_isNumber 32 = .ok (.invokevirtual 99, 3) := by decide +kernel
theorem dX12_isNumber_35 : decode cX12_isNumber 35 = .ok (.ifCond .eq 7, 3) := by decide +kernel
theorem dX12_isNumber_38 : decode cX12_isNumber 38 = .ok (.iconst 1, 1) := by decide +kernel
theorem dX12_isNumber_39 : decode cX12_isNumber 39 = .ok (.goto 4, 3) := by decide +kernel
theorem dX12_isNumber_42 : decode cX12_isNumber 42 = .ok (.iconst 0, 1) := by decide +kernel
theorem dX12_isNumber_43 : decode cX12_isNumber 43 = .ok (.ireturn, 1) := by decide +kernel
theorem dX12_sortBy_0 : decode cX12_sortBy 0 = .ok (.iload_n 0, 1) := by decide +kernel
theorem dX12_sortBy_1 : decode cX12_sortBy 1 = .ok (.bipush 105, 2) := by decide +kernel
theorem dX12_sortBy_3 : decode cX12_sortBy 3 = .ok (.if_icmp .ne 7, 3) := by decide +kernel
theorem dX12_sortBy_6 : decode cX12_sortBy 6 = .ok (.iconst 1, 1) := by decide +kernel
theorem dX12_sortBy_7 : decode cX12_sortBy 7 = .ok (.goto 44, 3) := by decide +kernel
theorem dX12_sortBy_10 : decode cX12_sortBy 10 = .ok (.iload_n 0, 1) := by decide +kernel
theorem dX12_sortBy_11 : decode cX12_sortBy 11 = .ok (.bipush 99, 2) := by decide +kernel
theorem dX12_sortBy_13 : decode cX12_sortBy 13 = .ok (.if_icmp .ne 7, 3) := by decide +kernel
theorem dX12_sortBy_16 : decode cX12_sortBy 16 = .ok (.iconst 2, 1) := by decide +kernel
theorem dX12_sortBy_17 : decode cX12_sortBy 17 = .ok (.goto 34, 3) := by decide +kernel
theorem dX12_sortBy_20 : decode cX12_sortBy 20 = .ok (.iload_n 0, 1) := by decide +kernel
theorem dX12_sortBy_21 : decode cX12_sortBy 21 = .ok (.bipush 114, 2) := by decide +kernel
theorem dX12_sortBy_23 : decode cX12_sortBy 23 = .ok (.if_icmp .ne 7, 3) := by decide +kernel
theorem dX12_sortBy_26 : decode cX12_sortBy 26 = .ok (.iconst 3, 1) := by decide +kernel
theorem dX12_sortBy_27 : decode cX12_sortBy 27 = .ok (.goto 24, 3) := by decide +kernel
theorem dX12_sortBy_30 : decode cX12_sortBy 30 = .ok (.iload_n 0, 1) := by decide +kernel
theorem dX12_sortBy_31 : decode cX12_sortBy 31 = .ok (.bipush 119, 2) := by decide +kernel
theorem dX12_sortBy_33 : decode cX12_sortBy 33 = .ok (.if_icmp .ne 7, 3) := by decide +kernel
theorem dX12_sortBy_36 : decode cX12_sortBy 36 = .ok (.iconst 4, 1) := by decide +kernel
theorem dX12_sortBy_37 : decode cX12_sortBy 37 = .ok (.goto 14, 3) := by decide +kernel
theorem dX12_sortBy_40 : decode cX12_sortBy 40 = .ok (.iload_n 0, 1) := by decide +kernel
theorem dX12_sortBy_41 : decode cX12_sortBy 41 = .ok (.bipush 112, 2) := by decide +kernel
theorem dX12_sortBy_43 : decode cX12_sortBy 43 = .ok (.if_icmp .ne 7, 3) := by decide +kernel
theorem dX12_sortBy_46 : decode cX12_sortBy 46 = .ok (.iconst 5, 1) := by decide +kernel
theorem dX12_sortBy_47 : decode cX12_sortBy 47 = .ok (.goto 4, 3) := by decide +kernel
theorem dX12_sortBy_50 : decode cX12_sortBy 50 = .ok (.iconst 0, 1) := by decide +kernel
theorem dX12_sortBy_51 : decode cX12_sortBy 51 = .ok (.ireturn, 1) := by decide +kernel
theorem dX12_isPart__0 : decode cX12_isPart_ 0 = .ok (.aload_n 0, 1) := by decide +kernel
theorem dX12_isPart__1 : decode cX12_isPart_ 1 = .ok (.iload_n 2, 1) := by decide +kernel
theorem dX12_isPart__2 : decode cX12_isPart_ 2 = .ok (.iload_n 3, 1) := by decide +kernel
theorem dX12_isPart__3 : decode cX12_isPart_ 3 = .ok (.invokevirtual 102, 3) := by decide +kernel
theorem dX12_isPart__6 : decode cX12_isPart_ 6 = .ok (.ifCond .ne 5, 3) := by decide +kernel
theorem dX12_isPart__9 : decode cX12_isPart_ 9 = .ok (.iconst 0, 1) := by decide +kernel
theorem dX12_isPart__10 : decode cX12_isPart_ 10 = .ok (.ireturn, 1) := by decide +kernel
theorem dX12_isPart__11 : decode cX12_isPart_ 11 = .ok (.aload_n 0, 1) := by decide +kernel
theorem dX12_isPart__12 : decode cX12_isPart_ 12 = .ok (.getfield 25, 3) := by decide +kernel
theorem dX12_isPart__15 : decode cX12_isPart_ 15 = .ok (.iload_n 1, 1) := by decide +kernel
theorem dX12_isPart__16 : decode cX12_isPart_ 16 = .ok (.aload_n 0, 1) := by decide +kernel
theorem dX12_isPart__17 : decode cX12_isPart_ 17 = .ok (.getfield 87, 3) := by decide +kernel
theorem dX12_isPart__20 : decode cX12_isPart_ 20 = .ok (.iastore, 1) := by decide +kernel
theorem dX12_isPart__21 : decode cX12_isPart_ 21 = .ok (.aload_n 0, 1) := by decide +kernel
theorem dX12_isPart__22 : decode cX12_isPart_ 22 = .ok (.iload 4, 2) := by decide +kernel
theorem dX12_isPart__24 : decode cX12_isPart_ 24 = .ok (.invokevirtual 106, 3) := by decide +kernel
theorem dX12_isPart__27 : decode cX12_isPart_ 27 = .ok (.ireturn, 1) := by decide +kernel
theorem dX12_isLaw_0 : decode cX12_isLaw 0 = .ok (.aload_n 0, 1) := by decide +kernel
theorem dX12_isLaw_1 : decode cX12_isLaw 1 = .ok (.bipush 108, 2) := by decide +kernel
theorem dX12_isLaw_3 : decode cX12_isLaw 3 = .ok (.invokevirtual 106, 3) := by decide +kernel
theorem dX12_isLaw_6 : decode cX12_isLaw 6 = .ok (.ifCond .eq 74, 3) := by decide +kernel
theorem dX12_isLaw_9 : decode cX12_isLaw 9 = .ok (.aload_n 0, 1) := by decide +kernel
theorem dX12_isLaw_10 : decode cX12_isLaw 10 = .ok (.iconst 4, 1) := by decide +kernel
theorem dX12_isLaw_11 : decode cX12_isLaw 11 = .ok (.iconst 0, 1) := by decide +kernel
theorem dX12_isLaw_12 : decode cX12_isLaw 12 = .ok (.bipush 9, 2) := by decide +kernel
theorem dX12_isLaw_14 : decode cX12_isLaw 14 = .ok (.bipush 44, 2) := by decide +kernel
theorem dX12_isLaw_16 : decode cX12_isLaw 16 = .ok (.invokevirtual 109, 3) := by decide +kernel
theorem dX12_isLaw_19 : decode cX12_isLaw 19 = .ok (.ifCond .eq 61, 3) := by decide +kernel
theorem dX12_isLaw_22 : decode cX12_isLaw 22 = .ok (.aload_n 0, 1) := by decide +kernel
theorem dX12_isLaw_23 : decode cX12_isLaw 23 = .ok (.iconst 5, 1) := by decide +kernel
theorem dX12_isLaw_24 : decode cX12_isLaw 24 = .ok (.iconst 0, 1) := by decide +kernel
theorem dX12_isLaw_25 : decode cX12_isLaw 25 = .ok (.bipush 9, 2) := by decide +kernel
theorem dX12_isLaw_27 : decode cX12_isLaw 27 = .ok (.bipush 44, 2) := by decide +kernel
theorem dX12_isLaw_29 : decode cX12_isLaw 29 = .ok (.invokevirtual 109, 3) := by decide +kernel
theorem dX12_isLaw_32 : decode cX12_isLaw 32 = .ok (.ifCond .eq 48, 3) := by decide +kernel
theorem dX12_isLaw_35 : decode cX12_isLaw 35 = .ok (.aload_n 0, 1) := by decide +kernel
theorem dX12_isLaw_36 : decode cX12_isLaw 36 = .ok (.bipush 6, 2) := by decide +kernel
theorem dX12_isLaw_38 : decode cX12_isLaw 38 = .ok (.iconst 1, 1) := by decide +kernel
theorem dX12_isLaw_39 : decode cX12_isLaw 39 = .ok (.bipush 30, 2) := by decide +kernel
theorem dX12_isLaw_41 : decode cX12_isLaw 41 = .ok (.bipush 44, 2) := by decide +kernel
theorem dX12_isLaw_43 : decode cX12_isLaw 43 = .ok (.invokevirtual 109, 3) := by decide +kernel
theorem dX12_isLaw_46 : decode cX12_isLaw 46 = .ok (.ifCond .eq 34, 3) := by decide +kernel
theorem dX12_isLaw_49 : decode cX12_isLaw 49 = .ok (.aload_n 0, 1) := by decide +kernel
theorem dX12_isLaw_50 : decode cX12_isLaw 50 = .ok (.bipush 7, 2) := by decide +kernel
theorem dX12_isLaw_52 : decode cX12_isLaw 52 = .ok (.iconst 0, 1) := by decide +kernel
theorem dX12_isLaw_53 : decode cX12_isLaw 53 = .ok (.bipush 9, 2) := by decide +kernel
theorem dX12_isLaw_55 : decode cX12_isLaw 55 = .ok (.bipush 44, 2) := by decide +kernel
theorem dX12_isLaw_57 : decode cX12_isLaw 57 = .ok (.invokevirtual 109, 3) := by decide +kernel
theorem dX12_isLaw_60 : decode cX12_isLaw 60 = .ok (.ifCond .eq 20, 3) := by decide +kernel
theorem dX12_isLaw_63 : decode cX12_isLaw 63 = .ok (.aload_n 0, 1) := by decide +kernel
theorem dX12_isLaw_64 : decode cX12_isLaw 64 = .ok (.iconst 2, 1) := by decide +kernel
theorem dX12_isLaw_65 : decode cX12_isLaw 65 = .ok (.iconst 0, 1) := by decide +kernel
theorem dX12_isLaw_66 : decode cX12_isLaw 66 = .ok (.bipush 9, 2) := by decide +kernel
theorem dX12_isLaw_68 : decode cX12_isLaw 68 = .ok (.bipush 59, 2) := by decide +kernel
theorem dX12_isLaw_70 : decode cX12_isLaw 70 = .ok (.invokevirtual 109, 3) := by decide +kernel
theorem dX12_isLaw_73 : decode cX12_isLaw 73 = .ok (.ifCond .eq 7, 3) := by decide +kernel
theorem dX12_isLaw_76 : decode cX12_isLaw 76 = .ok (.iconst 1, 1) := by decide +kernel
theorem dX12_isLaw_77 : decode cX12_isLaw 77 = .ok (.goto 4, 3) := by decide +kernel
theorem dX12_isLaw_80 : decode cX12_isLaw 80 = .ok (.iconst 0, 1) := by decide +kernel
theorem dX12_isLaw_81 : decode cX12_isLaw 81 = .ok (.ireturn, 1) := by decide +kernel
theorem dX12_isPier_0 : decode cX12_isPier 0 = .ok (.aload_n 0, 1) := by decide +kernel
theorem dX12_isPier_1 : decode cX12_isPier 1 = .ok (.getfield 90, 3) := by decide +kernel
theorem dX12_isPier_4 : decode cX12_isPier 4 = .ok (.ifCond .le 13, 3) := by decide +kernel
theorem dX12_isPier_7 : decode cX12_isPier 7 = .ok (.aload_n 0, 1) := by decide +kernel
theorem dX12_isPier_8 : decode cX12_isPier 8 = .ok (.getfield 90, 3) := by decide +kernel
theorem dX12_isPier_11 : decode cX12_isPier 11 = .ok (.invokestatic 112, 3) := by decide +kernel
theorem dX12_isPier_14 : decode cX12_isPier 14 = .ok (.goto 4, 3) := by decide +kernel
theorem dX12_isPier_17 : decode cX12_isPier 17 = .ok (.iconst 0, 1) := by decide +kernel
theorem dX12_isPier_18 : decode cX12_isPier 18 = .ok (.istore_n 1, 1) := by decide +kernel
theorem dX12_isPier_19 : decode cX12_isPier 19 = .ok (.iload_n 1, 1) := by decide +kernel
theorem dX12_isPier_20 : decode cX12_isPier 20 = .ok (.ifCond .ne 9, 3) := by decide +kernel
theorem dX12_isPier_23 : decode cX12_isPier 23 = .ok (.aload_n 0, 1) := by decide +kernel
theorem dX12_isPier_24 : decode cX12_isPier 24 = .ok (.iconst 1, 1) := by decide +kernel
theorem dX12_isPier_25 : decode cX12_isPier 25 = .ok (.invokevirtual 99, 3) := by decide +kernel
theorem dX12_isPier_28 : decode cX12_isPier 28 = .ok (.ireturn, 1) := by decide +kernel
theorem dX12_isPier_29 : decode cX12_isPier 29 = .ok (.aload_n 0, 1) := by decide +kernel
theorem dX12_isPier_30 : decode cX12_isPier 30 = .ok (.getfield 25, 3) := by decide +kernel
theorem dX12_isPier_33 : decode cX12_isPier 33 = .ok (.iconst 3, 1) := by decide +kernel
theorem dX12_isPier_34 : decode cX12_isPier 34 = .ok (.iaload, 1) := by decide +kernel
theorem dX12_isPier_35 : decode cX12_isPier 35 = .ok (.istore_n 2, 1) := by decide +kernel
theorem dX12_isPier_36 : decode cX12_isPier 36 = .ok (.iload_n 2, 1) := by decide +kernel
theorem dX12_isPier_37 : decode cX12_isPier 37 = .ok (.iconst 5, 1) := by decide +kernel
theorem dX12_isPier_38 : decode cX12_isPier 38 = .ok (.if_icmp .ne 9, 3) := by decide +kernel
theorem dX12_isPier_41 : decode cX12_isPier 41 = .ok (.aload_n 0, 1) := by decide +kernel
theorem dX12_isPier_42 : decode cX12_isPier 42 = .ok (.iconst 3, 1) := by decide +kernel
theorem dX12_isPier_43 : decode cX12_isPier 43 = .ok (.invokevirtual 99, 3) := by decide +kernel
theorem dX12_isPier_46 : decode cX12_isPier 46 = .ok (.ireturn, 1) := by decide +kernel
theorem dX12_isPier_47 : decode cX12_isPier 47 = .ok (.aload_n 0, 1) := by decide +kernel
theorem dX12_isPier_48 : decode cX12_isPier 48 = .ok (.getfield 25, 3) := by decide +kernel
theorem dX12_isPier_51 : decode cX12_isPier 51 = .ok (.bipush 9, 2) := by decide +kernel
theorem dX12_isPier_53 : decode cX12_isPier 53 = .ok (.iload_n 2, 1) := by decide +kernel
theorem dX12_isPier_54 : decode cX12_isPier 54 = .ok (.iadd, 1) := by decide +kernel
theorem dX12_isPier_55 : decode cX12_isPier 55 = .ok (.iload_n 1, 1) := by decide +kernel
theorem dX12_isPier_56 : decode cX12_isPier 56 = .ok (.iastore, 1) := by decide +kernel
theorem dX12_isPier_57 : decode cX12_isPier 57 = .ok (.aload_n 0, 1) := by decide +kernel
theorem dX12_isPier_58 : decode cX12_isPier 58 = .ok (.bipush 14, 2) := by decide +kernel
theorem dX12_isPier_60 : decode cX12_isPier 60 = .ok (.iload_n 2, 1) := by decide +kernel
theorem dX12_isPier_61 : decode cX12_isPier 61 = .ok (.iadd, 1) := by decide +kernel
theorem dX12_isPier_62 : decode cX12_isPier 62 = .ok (.iconst 0, 1) := by decide +kernel
theorem dX12_isPier_63 : decode cX12_isPier 63 = .ok (.bipush 9, 2) := by decide +kernel
theorem dX12_isPier_65 : decode cX12_isPier 65 = .ok (.bipush 44, 2) := by decide +kernel
theorem dX12_isPier_67 : decode cX12_isPier 67 = .ok (.invokevirtual 109, 3) := by decide +kernel
theorem dX12_isPier_70 : decode cX12_isPier 70 = .ok (.ifCond .eq 34, 3) := by decide +kernel
theorem dX12_isPier_73 : decode cX12_isPier 73 = .ok (.aload_n 0, 1) := by decide +kernel
theorem dX12_isPier_74 : decode cX12_isPier 74 = .ok (.bipush 19, 2) := by decide +kernel
theorem dX12_isPier_76 : decode cX12_isPier 76 = .ok (.iload_n 2, 1) := by decide +kernel
theorem dX12_isPier_77 : decode cX12_isPier 77 = .ok (.iadd, 1) := by decide +kernel
theorem dX12_isPier_78 : decode cX12_isPier 78 = .ok (.iconst 0, 1) := by decide +kernel
theorem dX12_isPier_79 : decode cX12_isPier 79 = .ok (.iconst 2, 1) := by decide +kernel
theorem dX12_isPier_80 : decode cX12_isPier 80 = .ok (.bipush 44, 2) := by decide +kernel
theorem dX12_isPier_82 : decode cX12_isPier 82 = .ok (.invokevirtual 109, 3) := by decide +kernel
theorem dX12_isPier_85 : decode cX12_isPier 85 = .ok (.ifCond .eq 19, 3) := by decide +kernel
theorem dX12_isPier_88 : decode cX12_isPier 88 = .ok (.aload_n 0, 1) := by decide +kernel
theorem dX12_isPier_89 : decode cX12_isPier 89 = .ok (.bipush 24, 2) := by decide +kernel
theorem dX12_isPier_91 : decode cX12_isPier 91 = .ok (.iload_n 2, 1) := by decide +kernel
theorem dX12_isPier_92 : decode cX12_isPier 92 = .ok (.iadd, 1) := by decide +kernel
theorem dX12_isPier_93 : decode cX12_isPier 93 = .ok (.iconst 0, 1) := by decide +kernel
theorem dX12_isPier_94 : decode cX12_isPier 94 = .ok (.bipush 9, 2) := by decide +kernel
theorem dX12_isPier_96 : decode cX12_isPier 96 = .ok (.bipush 59, 2) := by decide +kernel
theorem dX12_isPier_98 : decode cX12_isPier 98 = .ok (.invokevirtual 109, 3) := by decide +kernel
theorem dX12_isPier_101 : decode cX12_isPier 101 = .ok (.ifCond .ne 5, 3) := by decide +kernel
theorem dX12_isPier_104 : decode cX12_isPier 104 = .ok (.iconst 0, 1) := by decide +kernel
theorem dX12_isPier_105 : decode cX12_isPier 105 = .ok (.ireturn, 1) := by decide +kernel
theorem dX12_isPier_106 : decode cX12_isPier 106 = .ok (.aload_n 0, 1) := by decide +kernel
theorem dX12_isPier_107 : decode cX12_isPier 107 = .ok (.getfield 25, 3) := by decide +kernel
theorem dX12_isPier_110 : decode cX12_isPier 110 = .ok (.iconst 3, 1) := by decide +kernel
theorem dX12_isPier_111 : decode cX12_isPier 111 = .ok (.dup2, 1) := by decide +kernel
theorem dX12_isPier_112 : decode cX12_isPier 112 = .ok (.iaload, 1) := by decide +kernel
theorem dX12_isPier_113 : decode cX12_isPier 113 = .ok (.iconst 1, 1) := by decide +kernel
theorem dX12_isPier_114 : decode cX12_isPier 114 = .ok (.iadd, 1) := by decide +kernel
theorem dX12_isPier_115 : decode cX12_isPier 115 = .ok (.iastore, 1) := by decide +kernel
theorem dX12_isPier_116 : decode cX12_isPier 116 = .ok (.iconst 1, 1) := by decide +kernel
theorem dX12_isPier_117 : decode cX12_isPier 117 = .ok (.ireturn, 1) := by decide +kernel
theorem dX12_isRead_0 : decode cX12_isRead 0 = .ok (.iconst 0, 1) := by decide +kernel
theorem dX12_isRead_1 : decode cX12_isRead 1 = .ok (.istore_n 1, 1) := by decide +kernel
theorem dX12_isRead_2 : decode cX12_isRead 2 = .ok (.iload_n 1, 1) := by decide +kernel
theorem dX12_isRead_3 : decode cX12_isRead 3 = .ok (.bipush 29, 2) := by decide +kernel
theorem dX12_isRead_5 : decode cX12_isRead 5 = .ok (.if_icmp .ge 16, 3) := by decide +kernel
theorem dX12_isRead_8 : decode cX12_isRead 8 = .ok (.aload_n 0, 1) := by decide +kernel
theorem dX12_isRead_9 : decode cX12_isRead 9 = .ok (.getfield 25, 3) := by decide +kernel
theorem dX12_isRead_12 : decode cX12_isRead 12 = .ok (.iload_n 1, 1) := by decide +kernel
theorem dX12_isRead_13 : decode cX12_isRead 13 = .ok (.iconst 0, 1) := by decide +kernel
theorem dX12_isRead_14 : decode cX12_isRead 14 = .ok (.iastore, 1) := by decide +kernel
theorem dX12_isRead_15 : decode cX12_isRead 15 = .ok (.iinc 1 1, 3) := by decide +kernel
theorem dX12_isRead_18 : decode cX12_isRead 18 = .ok (.goto (-16), 3) := by decide +kernel
theorem dX12_isRead_21 : decode cX12_isRead 21 = .ok (.aload_n 0, 1) := by decide +kernel
theorem dX12_isRead_22 : decode cX12_isRead 22 = .ok (.iconst 0, 1) := by decide +kernel
theorem dX12_isRead_23 : decode cX12_isRead 23 = .ok (.putfield 81, 3) := by decide +kernel
theorem dX12_isRead_26 : decode cX12_isRead 26 = .ok (.aload_n 0, 1) := by decide +kernel
theorem dX12_isRead_27 : decode cX12_isRead 27 = .ok (.getfield 25, 3) := by decide +kernel
theorem dX12_isRead_30 : decode cX12_isRead 30 = .ok (.bipush 8, 2) := by decide +kernel
theorem dX12_isRead_32 : decode cX12_isRead 32 = .ok (.iconst 1, 1) := by decide +kernel
theorem dX12_isRead_33 : decode cX12_isRead 33 = .ok (.iastore, 1) := by decide +kernel
theorem dX12_isRead_34 : decode cX12_isRead 34 = .ok (.aload_n 0, 1) := by decide +kernel
theorem dX12_isRead_35 : decode cX12_isRead 35 = .ok (.invokevirtual 115, 3) := by decide +kernel
theorem dX12_isRead_38 : decode cX12_isRead 38 = .ok (.ifCond .ne 5, 3) := by decide +kernel
theorem dX12_isRead_41 : decode cX12_isRead 41 = .ok (.iconst 0, 1) := by decide +kernel
theorem dX12_isRead_42 : decode cX12_isRead 42 = .ok (.ireturn, 1) := by decide +kernel
theorem dX12_isRead_43 : decode cX12_isRead 43 = .ok (.aload_n 0, 1) := by decide +kernel
theorem dX12_isRead_44 : decode cX12_isRead 44 = .ok (.invokevirtual 96, 3) := by decide +kernel
theorem dX12_isRead_47 : decode cX12_isRead 47 = .ok (.aload_n 0, 1) := by decide +kernel
theorem dX12_isRead_48 : decode cX12_isRead 48 = .ok (.getfield 90, 3) := by decide +kernel
theorem dX12_isRead_51 : decode cX12_isRead 51 = .ok (.bipush (-2), 2) := by decide +kernel
theorem dX12_isRead_53 : decode cX12_isRead 53 = .ok (.if_icmp .eq 19, 3) := by decide +kernel
theorem dX12_isRead_56 : decode cX12_isRead 56 = .ok (.aload_n 0, 1) := by decide +kernel
theorem dX12_isRead_57 : decode cX12_isRead 57 = .ok (.invokevirtual 119, 3) := by decide +kernel
theorem dX12_isRead_60 : decode cX12_isRead 60 = .ok (.ifCond .ne 5, 3) := by decide +kernel
theorem dX12_isRead_63 : decode cX12_isRead 63 = .ok (.iconst 0, 1) := by decide +kernel
theorem dX12_isRead_64 : decode cX12_isRead 64 = .ok (.ireturn, 1) := by decide +kernel
theorem dX12_isRead_65 : decode cX12_isRead 65 = .ok (.aload_n 0, 1) := by decide +kernel
theorem dX12_isRead_66 : decode cX12_isRead 66 = .ok (.invokevirtual 96, 3) := by decide +kernel
theorem dX12_isRead_69 : decode cX12_isRead 69 = .ok (.goto (-22), 3) := by decide +kernel
theorem dX12_isRead_72 : decode cX12_isRead 72 = .ok (.iconst 1, 1) := by decide +kernel
theorem dX12_isRead_73 : decode cX12_isRead 73 = .ok (.ireturn, 1) := by decide +kernel
theorem dX12_coast_0 : decode cX12_coast 0 = .ok (.aload_n 0, 1) := by decide +kernel
theorem dX12_coast_1 : decode cX12_coast 1 = .ok (.invokevirtual 122, 3) := by decide +kernel
theorem dX12_coast_4 : decode cX12_coast 4 = .ok (.istore_n 1, 1) := by decide +kernel
theorem dX12_coast_5 : decode cX12_coast 5 = .ok (.aload_n 0, 1) := by decide +kernel
theorem dX12_coast_6 : decode cX12_coast 6 = .ok (.iconst 0, 1) := by decide +kernel
theorem dX12_coast_7 : decode cX12_coast 7 = .ok (.putfield 77, 3) := by decide +kernel
theorem dX12_coast_10 : decode cX12_coast 10 = .ok (.iload_n 1, 1) := by decide +kernel
theorem dX12_coast_11 : decode cX12_coast 11 = .ok (.ifCond .ne 19, 3) := by decide +kernel
theorem dX12_coast_14 : decode cX12_coast 14 = .ok (.aload_n 0, 1) := by decide +kernel
theorem dX12_coast_15 : decode cX12_coast 15 = .ok (.aload_n 0, 1) := by decide +kernel
theorem dX12_coast_16 : decode cX12_coast 16 = .ok (.getfield 93, 3) := by decide +kernel
theorem dX12_coast_19 : decode cX12_coast 19 = .ok (.putfield 125, 3) := by decide +kernel
theorem dX12_coast_22 : decode cX12_coast 22 = .ok (.ldc 128, 2) := by decide +kernel
theorem dX12_coast_24 : decode cX12_coast 24 = .ok (.aload_n 0, 1) := by decide +kernel
theorem dX12_coast_25 : decode cX12_coast 25 = .ok (.getfield 84, 3) := by decide +kernel
theorem dX12_coast_28 : decode cX12_coast 28 = .ok (.isub, 1) := by decide +kernel
theorem dX12_coast_29 : decode cX12_coast 29 = .ok (.ireturn, 1) := by decide +kernel
theorem dX12_coast_30 : decode cX12_coast 30 = .ok (.aload_n 0, 1) := by decide +kernel
theorem dX12_coast_31 : decode cX12_coast 31 = .ok (.getfield 25, 3) := by decide +kernel
theorem dX12_coast_34 : decode cX12_coast 34 = .ok (.iconst 0, 1) := by decide +kernel
theorem dX12_coast_35 : decode cX12_coast 35 = .ok (.aload_n 0, 1) := by decide +kernel
theorem dX12_coast_36 : decode cX12_coast 36 = .ok (.getfield 22, 3) := by decide +kernel
theorem dX12_coast_39 : decode cX12_coast 39 = .ok (.iconst 0, 1) := by decide +kernel
theorem dX12_coast_40 : decode cX12_coast 40 = .ok (.invokestatic 129, 3) := by decide +kernel
theorem dX12_coast_43 : decode cX12_coast 43 = .ok (.aload_n 0, 1) := by decide +kernel
theorem dX12_coast_44 : decode cX12_coast 44 = .ok (.iconst 0, 1) := by decide +kernel
theorem dX12_coast_45 : decode cX12_coast 45 = .ok (.putfield 133, 3) := by decide +kernel
theorem dX12_coast_48 : decode cX12_coast 48 = .ok (.aload_n 0, 1) := by decide +kernel
theorem dX12_coast_49 : decode cX12_coast 49 = .ok (.getfield 22, 3) := by decide +kernel
theorem dX12_coast_52 : decode cX12_coast 52 = .ok (.iconst 3, 1) := by decide +kernel
theorem dX12_coast_53 : decode cX12_coast 53 = .ok (.iaload, 1) := by decide +kernel
theorem dX12_coast_54 : decode cX12_coast 54 = .ok (.ireturn, 1) := by decide +kernel
theorem dX12_fault_0 : decode cX12_fault 0 = .ok (.aload_n 0, 1) := by decide +kernel
theorem dX12_fault_1 : decode cX12_fault 1 = .ok (.getfield 125, 3) := by decide +kernel
theorem dX12_fault_4 : decode cX12_fault 4 = .ok (.ireturn, 1) := by decide +kernel
theorem dX12_note_0 : decode cX12_note 0 = .ok (.aload_n 0, 1) := by decide +kernel
theorem dX12_note_1 : decode cX12_note 1 = .ok (.getfield 133, 3) := by decide +kernel
theorem dX12_note_4 : decode cX12_note 4 = .ok (.bipush 24, 2) := by decide +kernel
theorem dX12_note_6 : decode cX12_note 6 = .ok (.if_icmp .ne 43, 3) := by decide +kernel
theorem dX12_note_9 : decode cX12_note 9 = .ok (.iconst 0, 1) := by decide +kernel
theorem dX12_note_10 : decode cX12_note 10 = .ok (.istore_n 1, 1) := by decide +kernel
theorem dX12_note_11 : decode cX12_note 11 = .ok (.iload_n 1, 1) := by decide +kernel
theorem dX12_note_12 : decode cX12_note 12 = .ok (.sipush 667, 3) := by decide +kernel
theorem dX12_note_15 : decode cX12_note 15 = .ok (.if_icmp .ge 24, 3) := by decide +kernel
theorem dX12_note_18 : decode cX12_note 18 = .ok (.aload_n 0, 1) := by decide +kernel
theorem dX12_note_19 : decode cX12_note 19 = .ok (.getfield 38, 3) := by decide +kernel
theorem dX12_note_22 : decode cX12_note 22 = .ok (.iload_n 1, 1) := by decide +kernel
theorem dX12_note_23 : decode cX12_note 23 = .ok (.aload_n 0, 1) := by decide +kernel
theorem dX12_note_24 : decode cX12_note 24 = .ok (.getfield 38, 3) := by decide +kernel
theorem dX12_note_27 : decode cX12_note 27 = .ok (.iload_n 1, 1) := by decide +kernel
theorem dX12_note_28 : decode cX12_note 28 = .ok (.bipush 29, 2) := by decide +kernel
theorem dX12_note_30 : decode cX12_note 30 = .ok (.iadd, 1) := by decide +kernel
theorem dX12_note_31 : decode cX12_note 31 = .ok (.iaload, 1) := by decide +kernel
theorem dX12_note_32 : decode cX12_note 32 = .ok (.iastore, 1) := by decide +kernel
theorem dX12_note_33 : decode cX12_note 33 = .ok (.iinc 1 1, 3) := by decide +kernel
theorem dX12_note_36 : decode cX12_note 36 = .ok (.goto (-25), 3) := by decide +kernel
theorem dX12_note_39 : decode cX12_note 39 = .ok (.aload_n 0, 1) := by decide +kernel
theorem dX12_note_40 : decode cX12_note 40 = .ok (.dup, 1) := by decide +kernel
theorem dX12_note_41 : decode cX12_note 41 = .ok (.getfield 133, 3) := by decide +kernel
theorem dX12_note_44 : decode cX12_note 44 = .ok (.iconst 1, 1) := by decide +kernel
theorem dX12_note_45 : decode cX12_note 45 = .ok (.isub, 1) := by decide +kernel
theorem dX12_note_46 : decode cX12_note 46 = .ok (.putfield 133, 3) := by decide +kernel
theorem dX12_note_49 : decode cX12_note 49 = .ok (.aload_n 0, 1) := by decide +kernel
theorem dX12_note_50 : decode cX12_note 50 = .ok (.getfield 22, 3) := by decide +kernel
theorem dX12_note_53 : decode cX12_note 53 = .ok (.iconst 0, 1) := by decide +kernel
theorem dX12_note_54 : decode cX12_note 54 = .ok (.aload_n 0, 1) := by decide +kernel
theorem dX12_note_55 : decode cX12_note 55 = .ok (.getfield 38, 3) := by decide +kernel
theorem dX12_note_58 : decode cX12_note 58 = .ok (.bipush 29, 2) := by decide +kernel
theorem dX12_note_60 : decode cX12_note 60 = .ok (.aload_n 0, 1) := by decide +kernel
theorem dX12_note_61 : decode cX12_note 61 = .ok (.getfield 133, 3) := by decide +kernel
theorem dX12_note_64 : decode cX12_note 64 = .ok (.imul, 1) := by decide +kernel
theorem dX12_note_65 : decode cX12_note 65 = .ok (.invokestatic 129, 3) := by decide +kernel
theorem dX12_note_68 : decode cX12_note 68 = .ok (.aload_n 0, 1) := by decide +kernel
theorem dX12_note_69 : decode cX12_note 69 = .ok (.dup, 1) := by decide +kernel
theorem dX12_note_70 : decode cX12_note 70 = .ok (.getfield 133, 3) := by decide +kernel
theorem dX12_note_73 : decode cX12_note 73 = .ok (.iconst 1, 1) := by decide +kernel
theorem dX12_note_74 : decode cX12_note 74 = .ok (.iadd, 1) := by decide +kernel
theorem dX12_note_75 : decode cX12_note 75 = .ok (.putfield 133, 3) := by decide +kernel
theorem dX12_note_78 : decode cX12_note 78 = .ok (.return_, 1) := by decide +kernel
theorem dX12_placeBy_0 : decode cX12_placeBy 0 = .ok (.aload_n 0, 1) := by decide +kernel
theorem dX12_placeBy_1 : decode cX12_placeBy 1 = .ok (.bipush 19, 2) := by decide +kernel
theorem dX12_placeBy_3 : decode cX12_placeBy 3 = .ok (.iload_n 1, 1) := by decide +kernel
theorem dX12_placeBy_4 : decode cX12_placeBy 4 = .ok (.iadd, 1) := by decide +kernel
theorem dX12_placeBy_5 : decode cX12_placeBy 5 = .ok (.iaload, 1) := by decide +kernel
theorem dX12_placeBy_6 : decode cX12_placeBy 6 = .ok (.ifCond .ne 13, 3) := by decide +kernel
theorem dX12_placeBy_9 : decode cX12_placeBy 9 = .ok (.bipush 10, 2) := by decide +kernel
theorem dX12_placeBy_11 : decode cX12_placeBy 11 = .ok (.iload_n 2, 1) := by decide +kernel
theorem dX12_placeBy_12 : decode cX12_placeBy 12 = .ok (.bipush 10, 2) := by decide +kernel
theorem dX12_placeBy_14 : decode cX12_placeBy 14 = .ok (.irem, 1) := by decide +kernel
theorem dX12_placeBy_15 : decode cX12_placeBy 15 = .ok (.isub, 1) := by decide +kernel
theorem dX12_placeBy_16 : decode cX12_placeBy 16 = .ok (.goto 21, 3) := by decide +kernel
theorem dX12_placeBy_19 : decode cX12_placeBy 19 = .ok (.aload_n 0, 1) := by decide +kernel
theorem dX12_placeBy_20 : decode cX12_placeBy 20 = .ok (.bipush 19, 2) := by decide +kernel
theorem dX12_placeBy_22 : decode cX12_placeBy 22 = .ok (.iload_n 1, 1) := by decide +kernel
theorem dX12_placeBy_23 : decode cX12_placeBy 23 = .ok (.iadd, 1) := by decide +kernel
theorem dX12_placeBy_24 : decode cX12_placeBy 24 = .ok (.iaload, 1) := by decide +kernel
theorem dX12_placeBy_25 : decode cX12_placeBy 25 = .ok (.iconst 1, 1) := by decide +kernel
theorem dX12_placeBy_26 : decode cX12_placeBy 26 = .ok (.if_icmp .ne 7, 3) := by decide +kernel
theorem dX12_placeBy_29 : decode cX12_placeBy 29 = .ok (.iconst 0, 1) := by decide +kernel
theorem dX12_placeBy_30 : decode cX12_placeBy 30 = .ok (.goto 7, 3) := by decide +kernel
theorem dX12_placeBy_33 : decode cX12_placeBy 33 = .ok (.iload_n 2, 1) := by decide +kernel
theorem dX12_placeBy_34 : decode cX12_placeBy 34 = .ok (.bipush 10, 2) := by decide +kernel
theorem dX12_placeBy_36 : decode cX12_placeBy 36 = .ok (.irem, 1) := by decide +kernel
theorem dX12_placeBy_37 : decode cX12_placeBy 37 = .ok (.istore_n 3, 1) := by decide +kernel
theorem dX12_placeBy_38 : decode cX12_placeBy 38 = .ok (.aload_n 0, 1) := by decide +kernel
theorem dX12_placeBy_39 : decode cX12_placeBy 39 = .ok (.bipush 14, 2) := by decide +kernel
theorem dX12_placeBy_41 : decode cX12_placeBy 41 = .ok (.iload_n 1, 1) := by decide +kernel
theorem dX12_placeBy_42 : decode cX12_placeBy 42 = .ok (.iadd, 1) := by decide +kernel
theorem dX12_placeBy_43 : decode cX12_placeBy 43 = .ok (.iaload, 1) := by decide +kernel
theorem dX12_placeBy_44 : decode cX12_placeBy 44 = .ok (.iload_n 3, 1) := by decide +kernel
theorem dX12_placeBy_45 : decode cX12_placeBy 45 = .ok (.iadd, 1) := by decide +kernel
theorem dX12_placeBy_46 : decode cX12_placeBy 46 = .ok (.bipush 10, 2) := by decide +kernel
theorem dX12_placeBy_48 : decode cX12_placeBy 48 = .ok (.irem, 1) := by decide +kernel
theorem dX12_placeBy_49 : decode cX12_placeBy 49 = .ok (.ireturn, 1) := by decide +kernel
theorem dX12_takeBy_0 : decode cX12_takeBy 0 = .ok (.iload_n 2, 1) := by decide +kernel
theorem dX12_takeBy_1 : decode cX12_takeBy 1 = .ok (.ifCond .ne 7, 3) := by decide +kernel
theorem dX12_takeBy_4 : decode cX12_takeBy 4 = .ok (.iconst 0, 1) := by decide +kernel
theorem dX12_takeBy_5 : decode cX12_takeBy 5 = .ok (.goto 19, 3) := by decide +kernel
theorem dX12_takeBy_8 : decode cX12_takeBy 8 = .ok (.iload_n 1, 1) := by decide +kernel
theorem dX12_takeBy_9 : decode cX12_takeBy 9 = .ok (.aload_n 0, 1) := by decide +kernel
theorem dX12_takeBy_10 : decode cX12_takeBy 10 = .ok (.iconst 4, 1) := by decide +kernel
theorem dX12_takeBy_11 : decode cX12_takeBy 11 = .ok (.iaload, 1) := by decide +kernel
theorem dX12_takeBy_12 : decode cX12_takeBy 12 = .ok (.imul, 1) := by decide +kernel
theorem dX12_takeBy_13 : decode cX12_takeBy 13 = .ok (.iload_n 2, 1) := by decide +kernel
theorem dX12_takeBy_14 : decode cX12_takeBy 14 = .ok (.aload_n 0, 1) := by decide +kernel
theorem dX12_takeBy_15 : decode cX12_takeBy 15 = .ok (.iconst 5, 1) := by decide +kernel
theorem dX12_takeBy_16 : decode cX12_takeBy 16 = .ok (.iaload, 1) := by decide +kernel
theorem dX12_takeBy_17 : decode cX12_takeBy 17 = .ok (.imul, 1) := by decide +kernel
theorem dX12_takeBy_18 : decode cX12_takeBy 18 = .ok (.iadd, 1) := by decide +kernel
theorem dX12_takeBy_19 : decode cX12_takeBy 19 = .ok (.aload_n 0, 1) := by decide +kernel
theorem dX12_takeBy_20 : decode cX12_takeBy 20 = .ok (.bipush 6, 2) := by decide +kernel
theorem dX12_takeBy_22 : decode cX12_takeBy 22 = .ok (.iaload, 1) := by decide +kernel
theorem dX12_takeBy_23 : decode cX12_takeBy 23 = .ok (.irem, 1) := by decide +kernel
theorem dX12_takeBy_24 : decode cX12_takeBy 24 = .ok (.ireturn, 1) := by decide +kernel
theorem dX12_takeOf_0 : decode cX12_takeOf 0 = .ok (.aload_n 0, 1) := by decide +kernel
theorem dX12_takeOf_1 : decode cX12_takeOf 1 = .ok (.aload_n 0, 1) := by decide +kernel
theorem dX12_takeOf_2 : decode cX12_takeOf 2 = .ok (.iload_n 1, 1) := by decide +kernel
theorem dX12_takeOf_3 : decode cX12_takeOf 3 = .ok (.aload_n 0, 1) := by decide +kernel
theorem dX12_takeOf_4 : decode cX12_takeOf 4 = .ok (.bipush 24, 2) := by decide +kernel
theorem dX12_takeOf_6 : decode cX12_takeOf 6 = .ok (.iload_n 1, 1) := by decide +kernel
theorem dX12_takeOf_7 : decode cX12_takeOf 7 = .ok (.iadd, 1) := by decide +kernel
theorem dX12_takeOf_8 : decode cX12_takeOf 8 = .ok (.iaload, 1) := by decide +kernel
theorem dX12_takeOf_9 : decode cX12_takeOf 9 = .ok (.invokestatic 136, 3) := by decide +kernel
theorem dX12_takeOf_12 : decode cX12_takeOf 12 = .ok (.aload_n 0, 1) := by decide +kernel
theorem dX12_takeOf_13 : decode cX12_takeOf 13 = .ok (.bipush 24, 2) := by decide +kernel
theorem dX12_takeOf_15 : decode cX12_takeOf 15 = .ok (.iload_n 1, 1) := by decide +kernel
theorem dX12_takeOf_16 : decode cX12_takeOf 16 = .ok (.iadd, 1) := by decide +kernel
theorem dX12_takeOf_17 : decode cX12_takeOf 17 = .ok (.iaload, 1) := by decide +kernel
theorem dX12_takeOf_18 : decode cX12_takeOf 18 = .ok (.invokestatic 140, 3) := by decide +kernel
theorem dX12_takeOf_21 : decode cX12_takeOf 21 = .ok (.ireturn, 1) := by decide +kernel
theorem dX12_takenIn_0 : decode cX12_takenIn 0 = .ok (.iconst 0, 1) := by decide +kernel
theorem dX12_takenIn_1 : decode cX12_takenIn 1 = .ok (.istore_n 1, 1) := by decide +kernel
theorem dX12_takenIn_2 : decode cX12_takenIn 2 = .ok (.iconst 0, 1) := by decide +kernel
theorem dX12_takenIn_3 : decode cX12_takenIn 3 = .ok (.istore_n 2, 1) := by decide +kernel
theorem dX12_takenIn_4 : decode cX12_takenIn 4 = .ok (.iload_n 2, 1) := by decide +kernel
theorem dX12_takenIn_5 : decode cX12_takenIn 5 = .ok (.aload_n 0, 1) := by decide +kernel
theorem dX12_takenIn_6 : decode cX12_takenIn 6 = .ok (.iconst 3, 1) := by decide +kernel
theorem dX12_takenIn_7 : decode cX12_takenIn 7 = .ok (.iaload, 1) := by decide +kernel
theorem dX12_takenIn_8 : decode cX12_takenIn 8 = .ok (.if_icmp .ge 17, 3) := by decide +kernel
theorem dX12_takenIn_11 : decode cX12_takenIn 11 = .ok (.iload_n 1, 1) := by decide +kernel
theorem dX12_takenIn_12 : decode cX12_takenIn 12 = .ok (.aload_n 0, 1) := by decide +kernel
theorem dX12_takenIn_13 : decode cX12_takenIn 13 = .ok (.iload_n 2, 1) := by decide +kernel
theorem dX12_takenIn_14 : decode cX12_takenIn 14 = .ok (.invokestatic 143, 3) := by decide +kernel
theorem dX12_takenIn_17 : decode cX12_takenIn 17 = .ok (.iadd, 1) := by decide +kernel
theorem dX12_takenIn_18 : decode cX12_takenIn 18 = .ok (.istore_n 1, 1) := by decide +kernel
theorem dX12_takenIn_19 : decode cX12_takenIn 19 = .ok (.iinc 2 1, 3) := by decide +kernel
theorem dX12_takenIn_22 : decode cX12_takenIn 22 = .ok (.goto (-18), 3) := by decide +kernel
theorem dX12_takenIn_25 : decode cX12_takenIn 25 = .ok (.iload_n 1, 1) := by decide +kernel
theorem dX12_takenIn_26 : decode cX12_takenIn 26 = .ok (.ireturn, 1) := by decide +kernel
theorem dX12_stormIn_0 : decode cX12_stormIn 0 = .ok (.aload_n 0, 1) := by decide +kernel
theorem dX12_stormIn_1 : decode cX12_stormIn 1 = .ok (.iconst 0, 1) := by decide +kernel
theorem dX12_stormIn_2 : decode cX12_stormIn 2 = .ok (.iaload, 1) := by decide +kernel
theorem dX12_stormIn_3 : decode cX12_stormIn 3 = .ok (.iconst 1, 1) := by decide +kernel
theorem dX12_stormIn_4 : decode cX12_stormIn 4 = .ok (.iadd, 1) := by decide +kernel
theorem dX12_stormIn_5 : decode cX12_stormIn 5 = .ok (.aload_n 0, 1) := by decide +kernel
theorem dX12_stormIn_6 : decode cX12_stormIn 6 = .ok (.bipush 7, 2) := by decide +kernel
theorem dX12_stormIn_8 : decode cX12_stormIn 8 = .ok (.iaload, 1) := by decide +kernel
theorem dX12_stormIn_9 : decode cX12_stormIn 9 = .ok (.imul, 1) := by decide +kernel
theorem dX12_stormIn_10 : decode cX12_stormIn 10 = .ok (.iconst 5, 1) := by decide +kernel
theorem dX12_stormIn_11 : decode cX12_stormIn 11 = .ok (.irem, 1) := by decide +kernel
theorem dX12_stormIn_12 : decode cX12_stormIn 12 = .ok (.ireturn, 1) := by decide +kernel
theorem dX12_lossOf_0 : decode cX12_lossOf 0 = .ok (.aload_n 0, 1) := by decide +kernel
theorem dX12_lossOf_1 : decode cX12_lossOf 1 = .ok (.bipush 9, 2) := by decide +kernel
theorem dX12_lossOf_3 : decode cX12_lossOf 3 = .ok (.iload_n 1, 1) := by decide +kernel
theorem dX12_lossOf_4 : decode cX12_lossOf 4 = .ok (.iadd, 1) := by decide +kernel
theorem dX12_lossOf_5 : decode cX12_lossOf 5 = .ok (.iaload, 1) := by decide +kernel
theorem dX12_lossOf_6 : decode cX12_lossOf 6 = .ok (.istore_n 3, 1) := by decide +kernel
theorem dX12_lossOf_7 : decode cX12_lossOf 7 = .ok (.iload_n 3, 1) := by decide +kernel
theorem dX12_lossOf_8 : decode cX12_lossOf 8 = .ok (.iconst 1, 1) := by decide +kernel
theorem dX12_lossOf_9 : decode cX12_lossOf 9 = .ok (.if_icmp .ne 7, 3) := by decide +kernel
theorem dX12_lossOf_12 : decode cX12_lossOf 12 = .ok (.iload_n 2, 1) := by decide +kernel
theorem dX12_lossOf_13 : decode cX12_lossOf 13 = .ok (.goto 58, 3) := by decide +kernel
theorem dX12_lossOf_16 : decode cX12_lossOf 16 = .ok (.iload_n 3, 1) := by decide +kernel
theorem dX12_lossOf_17 : decode cX12_lossOf 17 = .ok (.iconst 2, 1) := by decide +kernel
theorem dX12_lossOf_18 : decode cX12_lossOf 18 = .ok (.if_icmp .ne 9, 3) := by decide +kernel
theorem dX12_lossOf_21 : decode cX12_lossOf 21 = .ok (.iload_n 2, 1) := by decide +kernel
theorem dX12_lossOf_22 : decode cX12_lossOf 22 = .ok (.iconst 2, 1) := by decide +kernel
theorem dX12_lossOf_23 : decode cX12_lossOf 23 = .ok (.idiv, 1) := by decide +kernel
theorem dX12_lossOf_24 : decode cX12_lossOf 24 = .ok (.goto 47, 3) := by decide +kernel
theorem dX12_lossOf_27 : decode cX12_lossOf 27 = .ok (.iload_n 3, 1) := by decide +kernel
theorem dX12_lossOf_28 : decode cX12_lossOf 28 = .ok (.iconst 3, 1) := by decide +kernel
theorem dX12_lossOf_29 : decode cX12_lossOf 29 = .ok (.if_icmp .ne 15, 3) := by decide +kernel
theorem dX12_lossOf_32 : decode cX12_lossOf 32 = .ok (.iload_n 2, 1) := by decide +kernel
theorem dX12_lossOf_33 : decode cX12_lossOf 33 = .ok (.iconst 1, 1) := by decide +kernel
theorem dX12_lossOf_34 : decode cX12_lossOf 34 = .ok (.iadd, 1) := by decide +kernel
theorem dX12_lossOf_35 : decode cX12_lossOf 35 = .ok (.aload_n 0, 1) := by decide +kernel
theorem dX12_lossOf_36 : decode cX12_lossOf 36 = .ok (.iconst 0, 1) := by decide +kernel
theorem dX12_lossOf_37 : decode cX12_lossOf 37 = .ok (.iaload, 1) := by decide +kernel
theorem dX12_lossOf_38 : decode cX12_lossOf 38 = .ok (.iconst 2, 1) := by decide +kernel
theorem dX12_lossOf_39 : decode cX12_lossOf 39 = .ok (.irem, 1) := by decide +kernel
theorem dX12_lossOf_40 : decode cX12_lossOf 40 = .ok (.isub, 1) := by decide +kernel
theorem dX12_lossOf_41 : decode cX12_lossOf 41 = .ok (.goto 30, 3) := by decide +kernel
theorem dX12_lossOf_44 : decode cX12_lossOf 44 = .ok (.iload_n 3, 1) := by decide +kernel
theorem dX12_lossOf_45 : decode cX12_lossOf 45 = .ok (.iconst 4, 1) := by decide +kernel
theorem dX12_lossOf_46 : decode cX12_lossOf 46 = .ok (.if_icmp .ne 15, 3) := by decide +kernel
theorem dX12_lossOf_49 : decode cX12_lossOf 49 = .ok (.iload_n 2, 1) := by decide +kernel
theorem dX12_lossOf_50 : decode cX12_lossOf 50 = .ok (.ifCond .le 7, 3) := by decide +kernel
theorem dX12_lossOf_53 : decode cX12_lossOf 53 = .ok (.iconst 1, 1) := by decide +kernel

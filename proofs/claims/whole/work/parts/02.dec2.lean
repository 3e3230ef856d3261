theorem dX11_init_59 : decode cX11_init 59 = .ok (.aload_n 0, 1) := by decide +kernel
theorem dX11_init_60 : decode cX11_init 60 = .ok (.new 23, 3) := by decide +kernel
theorem dX11_init_63 : decode cX11_init 63 = .ok (.dup, 1) := by decide +kernel
theorem dX11_init_64 : decode cX11_init 64 = .ok (.invokespecial 25, 3) := by decide +kernel
theorem dX11_init_67 : decode cX11_init 67 = .ok (.putfield 36, 3) := by decide +kernel
theorem dX11_init_70 : decode cX11_init 70 = .ok (.aload_n 0, 1) := by decide +kernel
theorem dX11_init_71 : decode cX11_init 71 = .ok (.new 39, 3) := by decide +kernel
theorem dX11_init_74 : decode cX11_init 74 = .ok (.dup, 1) := by decide +kernel
theorem dX11_init_75 : decode cX11_init 75 = .ok (.invokespecial 41, 3) := by decide +kernel
theorem dX11_init_78 : decode cX11_init 78 = .ok (.putfield 42, 3) := by decide +kernel
theorem dX11_init_81 : decode cX11_init 81 = .ok (.aload_n 0, 1) := by decide +kernel
theorem dX11_init_82 : decode cX11_init 82 = .ok (.new 46, 3) := by decide +kernel
theorem dX11_init_85 : decode cX11_init 85 = .ok (.dup, 1) := by decide +kernel
theorem dX11_init_86 : decode cX11_init 86 = .ok (.invokespecial 48, 3) := by decide +kernel
theorem dX11_init_89 : decode cX11_init 89 = .ok (.putfield 49, 3) := by decide +kernel
theorem dX11_init_92 : decode cX11_init 92 = .ok (.aload_n 0, 1) := by decide +kernel
theorem dX11_init_93 : decode cX11_init 93 = .ok (.new 53, 3) := by decide +kernel
theorem dX11_init_96 : decode cX11_init 96 = .ok (.dup, 1) := by decide +kernel
theorem dX11_init_97 : decode cX11_init 97 = .ok (.invokespecial 55, 3) := by decide +kernel
theorem dX11_init_100 : decode cX11_init 100 = .ok (.putfield 56, 3) := by decide +kernel
theorem dX11_init_103 : decode cX11_init 103 = .ok (.aload_n 0, 1) := by decide +kernel
theorem dX11_init_104 : decode cX11_init 104 = .ok (.new 60, 3) := by decide +kernel
theorem dX11_init_107 : decode cX11_init 107 = .ok (.dup, 1) := by decide +kernel
theorem dX11_init_108 : decode cX11_init 108 = .ok (.invokespecial 62, 3) := by decide +kernel
theorem dX11_init_111 : decode cX11_init 111 = .ok (.putfield 63, 3) := by decide +kernel
theorem dX11_init_114 : decode cX11_init 114 = .ok (.aload_n 0, 1) := by decide +kernel
theorem dX11_init_115 : decode cX11_init 115 = .ok (.new 67, 3) := by decide +kernel
theorem dX11_init_118 : decode cX11_init 118 = .ok (.dup, 1) := by decide +kernel
theorem dX11_init_119 : decode cX11_init 119 = .ok (.invokespecial 69, 3) := by decide +kernel
theorem dX11_init_122 : decode cX11_init 122 = .ok (.putfield 70, 3) := by decide +kernel
theorem dX11_init_125 : decode cX11_init 125 = .ok (.aload_n 0, 1) := by decide +kernel
theorem dX11_init_126 : decode cX11_init 126 = .ok (.new 74, 3) := by decide +kernel
theorem dX11_init_129 : decode cX11_init 129 = .ok (.dup, 1) := by decide +kernel
theorem dX11_init_130 : decode cX11_init 130 = .ok (.invokespecial 76, 3) := by decide +kernel
theorem dX11_init_133 : decode cX11_init 133 = .ok (.putfield 77, 3) := by decide +kernel
theorem dX11_init_136 : decode cX11_init 136 = .ok (.aload_n 0, 1) := by decide +kernel
theorem dX11_init_137 : decode cX11_init 137 = .ok (.new 81, 3) := by decide +kernel
theorem dX11_init_140 : decode cX11_init 140 = .ok (.dup, 1) := by decide +kernel
theorem dX11_init_141 : decode cX11_init 141 = .ok (.invokespecial 83, 3) := by decide +kernel
theorem dX11_init_144 : decode cX11_init 144 = .ok (.putfield 84, 3) := by decide +kernel
theorem dX11_init_147 : decode cX11_init 147 = .ok (.aload_n 0, 1) := by decide +kernel
theorem dX11_init_148 : decode cX11_init 148 = .ok (.bipush 50, 2) := by decide +kernel
theorem dX11_init_150 : decode cX11_init 150 = .ok (.newarray .int, 2) := by decide +kernel
theorem dX11_init_152 : decode cX11_init 152 = .ok (.putfield 88, 3) := by decide +kernel
theorem dX11_init_155 : decode cX11_init 155 = .ok (.aload_n 0, 1) := by decide +kernel
theorem dX11_init_156 : decode cX11_init 156 = .ok (.bipush 60, 2) := by decide +kernel
theorem dX11_init_158 : decode cX11_init 158 = .ok (.newarray .int, 2) := by decide +kernel
theorem dX11_init_160 : decode cX11_init 160 = .ok (.putfield 92, 3) := by decide +kernel
theorem dX11_init_163 : decode cX11_init 163 = .ok (.aload_n 0, 1) := by decide +kernel
theorem dX11_init_164 : decode cX11_init 164 = .ok (.iconst 5, 1) := by decide +kernel
theorem dX11_init_165 : decode cX11_init 165 = .ok (.newarray .int, 2) := by decide +kernel
theorem dX11_init_167 : decode cX11_init 167 = .ok (.putfield 95, 3) := by decide +kernel
theorem dX11_init_170 : decode cX11_init 170 = .ok (.aload_n 0, 1) := by decide +kernel
theorem dX11_init_171 : decode cX11_init 171 = .ok (.iconst 0, 1) := by decide +kernel
theorem dX11_init_172 : decode cX11_init 172 = .ok (.putfield 98, 3) := by decide +kernel
theorem dX11_init_175 : decode cX11_init 175 = .ok (.aload_n 0, 1) := by decide +kernel
theorem dX11_init_176 : decode cX11_init 176 = .ok (.iconst 0, 1) := by decide +kernel
theorem dX11_init_177 : decode cX11_init 177 = .ok (.putfield 102, 3) := by decide +kernel
theorem dX11_init_180 : decode cX11_init 180 = .ok (.return_, 1) := by decide +kernel
theorem dX11_row_0 : decode cX11_row 0 = .ok (.iload_n 1, 1) := by decide +kernel
theorem dX11_row_1 : decode cX11_row 1 = .ok (.invokestatic 105, 3) := by decide +kernel
theorem dX11_row_4 : decode cX11_row 4 = .ok (.ifCond .eq 18, 3) := by decide +kernel
theorem dX11_row_7 : decode cX11_row 7 = .ok (.iload_n 2, 1) := by decide +kernel
theorem dX11_row_8 : decode cX11_row 8 = .ok (.iconst 0, 1) := by decide +kernel
theorem dX11_row_9 : decode cX11_row 9 = .ok (.iconst 2, 1) := by decide +kernel
theorem dX11_row_10 : decode cX11_row 10 = .ok (.invokestatic 109, 3) := by decide +kernel
theorem dX11_row_13 : decode cX11_row 13 = .ok (.ifCond .eq 9, 3) := by decide +kernel
theorem dX11_row_16 : decode cX11_row 16 = .ok (.iload_n 3, 1) := by decide +kernel
theorem dX11_row_17 : decode cX11_row 17 = .ok (.bipush 40, 2) := by decide +kernel
theorem dX11_row_19 : decode cX11_row 19 = .ok (.if_icmp .le 6, 3) := by decide +kernel
theorem dX11_row_22 : decode cX11_row 22 = .ok (.ldc 113, 2) := by decide +kernel
theorem dX11_row_24 : decode cX11_row 24 = .ok (.ireturn, 1) := by decide +kernel
theorem dX11_row_25 : decode cX11_row 25 = .ok (.iload_n 3, 1) := by decide +kernel
theorem dX11_row_26 : decode cX11_row 26 = .ok (.ifCond .ge 9, 3) := by decide +kernel
theorem dX11_row_29 : decode cX11_row 29 = .ok (.aload_n 0, 1) := by decide +kernel
theorem dX11_row_30 : decode cX11_row 30 = .ok (.iconst 4, 1) := by decide +kernel
theorem dX11_row_31 : decode cX11_row 31 = .ok (.invokevirtual 114, 3) := by decide +kernel
theorem dX11_row_34 : decode cX11_row 34 = .ok (.ireturn, 1) := by decide +kernel
theorem dX11_row_35 : decode cX11_row 35 = .ok (.aload_n 0, 1) := by decide +kernel
theorem dX11_row_36 : decode cX11_row 36 = .ok (.getfield 12, 3) := by decide +kernel
theorem dX11_row_39 : decode cX11_row 39 = .ok (.iload_n 1, 1) := by decide +kernel
theorem dX11_row_40 : decode cX11_row 40 = .ok (.iload_n 2, 1) := by decide +kernel
theorem dX11_row_41 : decode cX11_row 41 = .ok (.iload_n 3, 1) := by decide +kernel
theorem dX11_row_42 : decode cX11_row 42 = .ok (.invokevirtual 118, 3) := by decide +kernel
theorem dX11_row_45 : decode cX11_row 45 = .ok (.aload_n 0, 1) := by decide +kernel
theorem dX11_row_46 : decode cX11_row 46 = .ok (.iload_n 3, 1) := by decide +kernel
theorem dX11_row_47 : decode cX11_row 47 = .ok (.invokevirtual 122, 3) := by decide +kernel
theorem dX11_row_50 : decode cX11_row 50 = .ok (.ireturn, 1) := by decide +kernel
theorem dX11_set_0 : decode cX11_set 0 = .ok (.iload_n 1, 1) := by decide +kernel
theorem dX11_set_1 : decode cX11_set 1 = .ok (.invokestatic 105, 3) := by decide +kernel
theorem dX11_set_4 : decode cX11_set 4 = .ok (.ifCond .ne 6, 3) := by decide +kernel
theorem dX11_set_7 : decode cX11_set 7 = .ok (.ldc 113, 2) := by decide +kernel
theorem dX11_set_9 : decode cX11_set 9 = .ok (.ireturn, 1) := by decide +kernel
theorem dX11_set_10 : decode cX11_set 10 = .ok (.aload_n 0, 1) := by decide +kernel
theorem dX11_set_11 : decode cX11_set 11 = .ok (.getfield 12, 3) := by decide +kernel
theorem dX11_set_14 : decode cX11_set 14 = .ok (.iload_n 1, 1) := by decide +kernel
theorem dX11_set_15 : decode cX11_set 15 = .ok (.invokevirtual 125, 3) := by decide +kernel
theorem dX11_set_18 : decode cX11_set 18 = .ok (.ifCond .eq 9, 3) := by decide +kernel
theorem dX11_set_21 : decode cX11_set 21 = .ok (.aload_n 0, 1) := by decide +kernel
theorem dX11_set_22 : decode cX11_set 22 = .ok (.iconst 1, 1) := by decide +kernel
theorem dX11_set_23 : decode cX11_set 23 = .ok (.invokevirtual 114, 3) := by decide +kernel
theorem dX11_set_26 : decode cX11_set 26 = .ok (.ireturn, 1) := by decide +kernel
theorem dX11_set_27 : decode cX11_set 27 = .ok (.aload_n 0, 1) := by decide +kernel
theorem dX11_set_28 : decode cX11_set 28 = .ok (.getfield 12, 3) := by decide +kernel
theorem dX11_set_31 : decode cX11_set 31 = .ok (.iload_n 1, 1) := by decide +kernel
theorem dX11_set_32 : decode cX11_set 32 = .ok (.iload_n 2, 1) := by decide +kernel
theorem dX11_set_33 : decode cX11_set 33 = .ok (.iconst 1, 1) := by decide +kernel
theorem dX11_set_34 : decode cX11_set 34 = .ok (.invokevirtual 128, 3) := by decide +kernel
theorem dX11_set_37 : decode cX11_set 37 = .ok (.ifCond .ne 9, 3) := by decide +kernel
theorem dX11_set_40 : decode cX11_set 40 = .ok (.aload_n 0, 1) := by decide +kernel
theorem dX11_set_41 : decode cX11_set 41 = .ok (.iconst 2, 1) := by decide +kernel
theorem dX11_set_42 : decode cX11_set 42 = .ok (.invokevirtual 114, 3) := by decide +kernel
theorem dX11_set_45 : decode cX11_set 45 = .ok (.ireturn, 1) := by decide +kernel
theorem dX11_set_46 : decode cX11_set 46 = .ok (.aload_n 0, 1) := by decide +kernel
theorem dX11_set_47 : decode cX11_set 47 = .ok (.aload_n 0, 1) := by decide +kernel
theorem dX11_set_48 : decode cX11_set 48 = .ok (.getfield 12, 3) := by decide +kernel
theorem dX11_set_51 : decode cX11_set 51 = .ok (.iload_n 1, 1) := by decide +kernel
theorem dX11_set_52 : decode cX11_set 52 = .ok (.iload_n 2, 1) := by decide +kernel
theorem dX11_set_53 : decode cX11_set 53 = .ok (.iload_n 3, 1) := by decide +kernel
theorem dX11_set_54 : decode cX11_set 54 = .ok (.invokevirtual 131, 3) := by decide +kernel
theorem dX11_set_57 : decode cX11_set 57 = .ok (.invokevirtual 122, 3) := by decide +kernel
theorem dX11_set_60 : decode cX11_set 60 = .ok (.ireturn, 1) := by decide +kernel
theorem dX11_copy_0 : decode cX11_copy 0 = .ok (.iload_n 1, 1) := by decide +kernel
theorem dX11_copy_1 : decode cX11_copy 1 = .ok (.invokestatic 105, 3) := by decide +kernel
theorem dX11_copy_4 : decode cX11_copy 4 = .ok (.ifCond .eq 10, 3) := by decide +kernel
theorem dX11_copy_7 : decode cX11_copy 7 = .ok (.iload_n 3, 1) := by decide +kernel
theorem dX11_copy_8 : decode cX11_copy 8 = .ok (.invokestatic 105, 3) := by decide +kernel
theorem dX11_copy_11 : decode cX11_copy 11 = .ok (.ifCond .ne 6, 3) := by decide +kernel
theorem dX11_copy_14 : decode cX11_copy 14 = .ok (.ldc 113, 2) := by decide +kernel
theorem dX11_copy_16 : decode cX11_copy 16 = .ok (.ireturn, 1) := by decide +kernel
theorem dX11_copy_17 : decode cX11_copy 17 = .ok (.aload_n 0, 1) := by decide +kernel
theorem dX11_copy_18 : decode cX11_copy 18 = .ok (.getfield 12, 3) := by decide +kernel
theorem dX11_copy_21 : decode cX11_copy 21 = .ok (.iload_n 1, 1) := by decide +kernel
theorem dX11_copy_22 : decode cX11_copy 22 = .ok (.invokevirtual 125, 3) := by decide +kernel
theorem dX11_copy_25 : decode cX11_copy 25 = .ok (.ifCond .ne 14, 3) := by decide +kernel
theorem dX11_copy_28 : decode cX11_copy 28 = .ok (.aload_n 0, 1) := by decide +kernel
theorem dX11_copy_29 : decode cX11_copy 29 = .ok (.getfield 12, 3) := by decide +kernel
theorem dX11_copy_32 : decode cX11_copy 32 = .ok (.iload_n 3, 1) := by decide +kernel
theorem dX11_copy_33 : decode cX11_copy 33 = .ok (.invokevirtual 125, 3) := by decide +kernel
theorem dX11_copy_36 : decode cX11_copy 36 = .ok (.ifCond .eq 9, 3) := by decide +kernel
theorem dX11_copy_39 : decode cX11_copy 39 = .ok (.aload_n 0, 1) := by decide +kernel
theorem dX11_copy_40 : decode cX11_copy 40 = .ok (.iconst 1, 1) := by decide +kernel
theorem dX11_copy_41 : decode cX11_copy 41 = .ok (.invokevirtual 114, 3) := by decide +kernel
theorem dX11_copy_44 : decode cX11_copy 44 = .ok (.ireturn, 1) := by decide +kernel
theorem dX11_copy_45 : decode cX11_copy 45 = .ok (.aload_n 0, 1) := by decide +kernel
theorem dX11_copy_46 : decode cX11_copy 46 = .ok (.getfield 12, 3) := by decide +kernel
theorem dX11_copy_49 : decode cX11_copy 49 = .ok (.iload_n 1, 1) := by decide +kernel
theorem dX11_copy_50 : decode cX11_copy 50 = .ok (.iload_n 3, 1) := by decide +kernel
theorem dX11_copy_51 : decode cX11_copy 51 = .ok (.invokevirtual 135, 3) := by decide +kernel
theorem dX11_copy_54 : decode cX11_copy 54 = .ok (.ifCond .ne 9, 3) := by decide +kernel
theorem dX11_copy_57 : decode cX11_copy 57 = .ok (.aload_n 0, 1) := by decide +kernel
theorem dX11_copy_58 : decode cX11_copy 58 = .ok (.iconst 5, 1) := by decide +kernel
theorem dX11_copy_59 : decode cX11_copy 59 = .ok (.invokevirtual 114, 3) := by decide +kernel
theorem dX11_copy_62 : decode cX11_copy 62 = .ok (.ireturn, 1) := by decide +kernel
theorem dX11_copy_63 : decode cX11_copy 63 = .ok (.aload_n 0, 1) := by decide +kernel
theorem dX11_copy_64 : decode cX11_copy 64 = .ok (.getfield 12, 3) := by decide +kernel
theorem dX11_copy_67 : decode cX11_copy 67 = .ok (.iload_n 1, 1) := by decide +kernel
theorem dX11_copy_68 : decode cX11_copy 68 = .ok (.iload_n 2, 1) := by decide +kernel
theorem dX11_copy_69 : decode cX11_copy 69 = .ok (.iload 5, 2) := by decide +kernel
theorem dX11_copy_71 : decode cX11_copy 71 = .ok (.invokevirtual 128, 3) := by decide +kernel
theorem dX11_copy_74 : decode cX11_copy 74 = .ok (.ifCond .eq 18, 3) := by decide +kernel
theorem dX11_copy_77 : decode cX11_copy 77 = .ok (.aload_n 0, 1) := by decide +kernel
theorem dX11_copy_78 : decode cX11_copy 78 = .ok (.getfield 12, 3) := by decide +kernel
theorem dX11_copy_81 : decode cX11_copy 81 = .ok (.iload_n 3, 1) := by decide +kernel
theorem dX11_copy_82 : decode cX11_copy 82 = .ok (.iload 4, 2) := by decide +kernel
theorem dX11_copy_84 : decode cX11_copy 84 = .ok (.iload 5, 2) := by decide +kernel
theorem dX11_copy_86 : decode cX11_copy 86 = .ok (.invokevirtual 128, 3) := by decide +kernel
theorem dX11_copy_89 : decode cX11_copy 89 = .ok (.ifCond .ne 9, 3) := by decide +kernel
theorem dX11_copy_92 : decode cX11_copy 92 = .ok (.aload_n 0, 1) := by decide +kernel
theorem dX11_copy_93 : decode cX11_copy 93 = .ok (.iconst 2, 1) := by decide +kernel
theorem dX11_copy_94 : decode cX11_copy 94 = .ok (.invokevirtual 114, 3) := by decide +kernel
theorem dX11_copy_97 : decode cX11_copy 97 = .ok (.ireturn, 1) := by decide +kernel
theorem dX11_copy_98 : decode cX11_copy 98 = .ok (.aload_n 0, 1) := by decide +kernel
theorem dX11_copy_99 : decode cX11_copy 99 = .ok (.getfield 12, 3) := by decide +kernel
theorem dX11_copy_102 : decode cX11_copy 102 = .ok (.iload_n 1, 1) := by decide +kernel
theorem dX11_copy_103 : decode cX11_copy 103 = .ok (.iload_n 2, 1) := by decide +kernel
theorem dX11_copy_104 : decode cX11_copy 104 = .ok (.iload_n 3, 1) := by decide +kernel
theorem dX11_copy_105 : decode cX11_copy 105 = .ok (.iload 4, 2) := by decide +kernel
theorem dX11_copy_107 : decode cX11_copy 107 = .ok (.iload 5, 2) := by decide +kernel
theorem dX11_copy_109 : decode cX11_copy 109 = .ok (.invokevirtual 139, 3) := by decide +kernel
theorem dX11_copy_112 : decode cX11_copy 112 = .ok (.aload_n 0, 1) := by decide +kernel
theorem dX11_copy_113 : decode cX11_copy 113 = .ok (.iload 5, 2) := by decide +kernel
theorem dX11_copy_115 : decode cX11_copy 115 = .ok (.invokevirtual 122, 3) := by decide +kernel
theorem dX11_copy_118 : decode cX11_copy 118 = .ok (.ireturn, 1) := by decide +kernel
theorem dX11_drop_0 : decode cX11_drop 0 = .ok (.iload_n 1, 1) := by decide +kernel
theorem dX11_drop_1 : decode cX11_drop 1 = .ok (.invokestatic 105, 3) := by decide +kernel
theorem dX11_drop_4 : decode cX11_drop 4 = .ok (.ifCond .ne 6, 3) := by decide +kernel
theorem dX11_drop_7 : decode cX11_drop 7 = .ok (.ldc 113, 2) := by decide +kernel
theorem dX11_drop_9 : decode cX11_drop 9 = .ok (.ireturn, 1) := by decide +kernel
theorem dX11_drop_10 : decode cX11_drop 10 = .ok (.aload_n 0, 1) := by decide +kernel
theorem dX11_drop_11 : decode cX11_drop 11 = .ok (.getfield 12, 3) := by decide +kernel
theorem dX11_drop_14 : decode cX11_drop 14 = .ok (.iload_n 1, 1) := by decide +kernel
theorem dX11_drop_15 : decode cX11_drop 15 = .ok (.invokevirtual 125, 3) := by decide +kernel
theorem dX11_drop_18 : decode cX11_drop 18 = .ok (.ifCond .eq 9, 3) := by decide +kernel
theorem dX11_drop_21 : decode cX11_drop 21 = .ok (.aload_n 0, 1) := by decide +kernel
theorem dX11_drop_22 : decode cX11_drop 22 = .ok (.iconst 1, 1) := by decide +kernel
theorem dX11_drop_23 : decode cX11_drop 23 = .ok (.invokevirtual 114, 3) := by decide +kernel
theorem dX11_drop_26 : decode cX11_drop 26 = .ok (.ireturn, 1) := by decide +kernel
theorem dX11_drop_27 : decode cX11_drop 27 = .ok (.aload_n 0, 1) := by decide +kernel
theorem dX11_drop_28 : decode cX11_drop 28 = .ok (.aload_n 0, 1) := by decide +kernel
theorem dX11_drop_29 : decode cX11_drop 29 = .ok (.getfield 12, 3) := by decide +kernel
theorem dX11_drop_32 : decode cX11_drop 32 = .ok (.iload_n 1, 1) := by decide +kernel
theorem dX11_drop_33 : decode cX11_drop 33 = .ok (.invokevirtual 143, 3) := by decide +kernel
theorem dX11_drop_36 : decode cX11_drop 36 = .ok (.invokevirtual 122, 3) := by decide +kernel
theorem dX11_drop_39 : decode cX11_drop 39 = .ok (.ireturn, 1) := by decide +kernel
theorem dX11_feed_0 : decode cX11_feed 0 = .ok (.iload_n 1, 1) := by decide +kernel
theorem dX11_feed_1 : decode cX11_feed 1 = .ok (.iconst 0, 1) := by decide +kernel
theorem dX11_feed_2 : decode cX11_feed 2 = .ok (.sipush 255, 3) := by decide +kernel
theorem dX11_feed_5 : decode cX11_feed 5 = .ok (.invokestatic 109, 3) := by decide +kernel
theorem dX11_feed_8 : decode cX11_feed 8 = .ok (.ifCond .ne 6, 3) := by decide +kernel
theorem dX11_feed_11 : decode cX11_feed 11 = .ok (.ldc 113, 2) := by decide +kernel
theorem dX11_feed_13 : decode cX11_feed 13 = .ok (.ireturn, 1) := by decide +kernel
theorem dX11_feed_14 : decode cX11_feed 14 = .ok (.aload_n 0, 1) := by decide +kernel
theorem dX11_feed_15 : decode cX11_feed 15 = .ok (.getfield 19, 3) := by decide +kernel
theorem dX11_feed_18 : decode cX11_feed 18 = .ok (.invokevirtual 146, 3) := by decide +kernel
theorem dX11_feed_21 : decode cX11_feed 21 = .ok (.ifCond .eq 6, 3) := by decide +kernel
theorem dX11_feed_24 : decode cX11_feed 24 = .ok (.ldc 150, 2) := by decide +kernel
theorem dX11_feed_26 : decode cX11_feed 26 = .ok (.ireturn, 1) := by decide +kernel
theorem dX11_feed_27 : decode cX11_feed 27 = .ok (.aload_n 0, 1) := by decide +kernel
theorem dX11_feed_28 : decode cX11_feed 28 = .ok (.getfield 19, 3) := by decide +kernel
theorem dX11_feed_31 : decode cX11_feed 31 = .ok (.iload_n 1, 1) := by decide +kernel
theorem dX11_feed_32 : decode cX11_feed 32 = .ok (.invokevirtual 151, 3) := by decide +kernel
theorem dX11_feed_35 : decode cX11_feed 35 = .ok (.ireturn, 1) := by decide +kernel
theorem dX11_coast_0 : decode cX11_coast 0 = .ok (.aload_n 0, 1) := by decide +kernel
theorem dX11_coast_1 : decode cX11_coast 1 = .ok (.getfield 19, 3) := by decide +kernel
theorem dX11_coast_4 : decode cX11_coast 4 = .ok (.aload_n 0, 1) := by decide +kernel
theorem dX11_coast_5 : decode cX11_coast 5 = .ok (.getfield 30, 3) := by decide +kernel
theorem dX11_coast_8 : decode cX11_coast 8 = .ok (.invokevirtual 154, 3) := by decide +kernel
theorem dX11_coast_11 : decode cX11_coast 11 = .ok (.istore_n 1, 1) := by decide +kernel
theorem dX11_coast_12 : decode cX11_coast 12 = .ok (.iload_n 1, 1) := by decide +kernel
theorem dX11_coast_13 : decode cX11_coast 13 = .ok (.ifCond .ne 25, 3) := by decide +kernel
theorem dX11_coast_16 : decode cX11_coast 16 = .ok (.aload_n 0, 1) := by decide +kernel
theorem dX11_coast_17 : decode cX11_coast 17 = .ok (.aload_n 0, 1) := by decide +kernel
theorem dX11_coast_18 : decode cX11_coast 18 = .ok (.getfield 19, 3) := by decide +kernel
theorem dX11_coast_21 : decode cX11_coast 21 = .ok (.invokevirtual 158, 3) := by decide +kernel
theorem dX11_coast_24 : decode cX11_coast 24 = .ok (.putfield 98, 3) := by decide +kernel
theorem dX11_coast_27 : decode cX11_coast 27 = .ok (.ldc 162, 2) := by decide +kernel
theorem dX11_coast_29 : decode cX11_coast 29 = .ok (.aload_n 0, 1) := by decide +kernel
theorem dX11_coast_30 : decode cX11_coast 30 = .ok (.getfield 19, 3) := by decide +kernel
theorem dX11_coast_33 : decode cX11_coast 33 = .ok (.invokevirtual 163, 3) := by decide +kernel
theorem dX11_coast_36 : decode cX11_coast 36 = .ok (.isub, 1) := by decide +kernel
theorem dX11_coast_37 : decode cX11_coast 37 = .ok (.ireturn, 1) := by decide +kernel
theorem dX11_coast_38 : decode cX11_coast 38 = .ok (.aload_n 0, 1) := by decide +kernel
theorem dX11_coast_39 : decode cX11_coast 39 = .ok (.getfield 26, 3) := by decide +kernel
theorem dX11_coast_42 : decode cX11_coast 42 = .ok (.aload_n 0, 1) := by decide +kernel
theorem dX11_coast_43 : decode cX11_coast 43 = .ok (.getfield 30, 3) := by decide +kernel
theorem dX11_coast_46 : decode cX11_coast 46 = .ok (.invokevirtual 166, 3) := by decide +kernel
theorem dX11_coast_49 : decode cX11_coast 49 = .ok (.aload_n 0, 1) := by decide +kernel
theorem dX11_coast_50 : decode cX11_coast 50 = .ok (.getfield 42, 3) := by decide +kernel
theorem dX11_coast_53 : decode cX11_coast 53 = .ok (.invokevirtual 170, 3) := by decide +kernel
theorem dX11_coast_56 : decode cX11_coast 56 = .ok (.aload_n 0, 1) := by decide +kernel
theorem dX11_coast_57 : decode cX11_coast 57 = .ok (.getfield 26, 3) := by decide +kernel
theorem dX11_coast_60 : decode cX11_coast 60 = .ok (.getfield 173, 3) := by decide +kernel
theorem dX11_coast_63 : decode cX11_coast 63 = .ok (.ireturn, 1) := by decide +kernel
theorem dX11_fault_0 : decode cX11_fault 0 = .ok (.aload_n 0, 1) := by decide +kernel
theorem dX11_fault_1 : decode cX11_fault 1 = .ok (.getfield 98, 3) := by decide +kernel
theorem dX11_fault_4 : decode cX11_fault 4 = .ok (.ireturn, 1) := by decide +kernel
theorem dX11_seasons_0 : decode cX11_seasons 0 = .ok (.aload_n 0, 1) := by decide +kernel
theorem dX11_seasons_1 : decode cX11_seasons 1 = .ok (.getfield 26, 3) := by decide +kernel
theorem dX11_seasons_4 : decode cX11_seasons 4 = .ok (.getfield 176, 3) := by decide +kernel
theorem dX11_seasons_7 : decode cX11_seasons 7 = .ok (.ifCond .ne 6, 3) := by decide +kernel
theorem dX11_seasons_10 : decode cX11_seasons 10 = .ok (.ldc 180, 2) := by decide +kernel
theorem dX11_seasons_12 : decode cX11_seasons 12 = .ok (.ireturn, 1) := by decide +kernel
theorem dX11_seasons_13 : decode cX11_seasons 13 = .ok (.iload_n 1, 1) := by decide +kernel
theorem dX11_seasons_14 : decode cX11_seasons 14 = .ok (.iconst 1, 1) := by decide +kernel
theorem dX11_seasons_15 : decode cX11_seasons 15 = .ok (.bipush 24, 2) := by decide +kernel
theorem dX11_seasons_17 : decode cX11_seasons 17 = .ok (.invokestatic 109, 3) := by decide +kernel
theorem dX11_seasons_20 : decode cX11_seasons 20 = .ok (.ifCond .ne 6, 3) := by decide +kernel
theorem dX11_seasons_23 : decode cX11_seasons 23 = .ok (.ldc 113, 2) := by decide +kernel
theorem dX11_seasons_25 : decode cX11_seasons 25 = .ok (.ireturn, 1) := by decide +kernel
theorem dX11_seasons_26 : decode cX11_seasons 26 = .ok (.aload_n 0, 1) := by decide +kernel
theorem dX11_seasons_27 : decode cX11_seasons 27 = .ok (.getfield 26, 3) := by decide +kernel
theorem dX11_seasons_30 : decode cX11_seasons 30 = .ok (.getfield 181, 3) := by decide +kernel
theorem dX11_seasons_33 : decode cX11_seasons 33 = .ok (.iload_n 1, 1) := by decide +kernel
theorem dX11_seasons_34 : decode cX11_seasons 34 = .ok (.iadd, 1) := by decide +kernel
theorem dX11_seasons_35 : decode cX11_seasons 35 = .ok (.sipush 999, 3) := by decide +kernel
theorem dX11_seasons_38 : decode cX11_seasons 38 = .ok (.if_icmp .le 6, 3) := by decide +kernel
theorem dX11_seasons_41 : decode cX11_seasons 41 = .ok (.ldc 150, 2) := by decide +kernel
theorem dX11_seasons_43 : decode cX11_seasons 43 = .ok (.ireturn, 1) := by decide +kernel
theorem dX11_seasons_44 : decode cX11_seasons 44 = .ok (.iconst 0, 1) := by decide +kernel
theorem dX11_seasons_45 : decode cX11_seasons 45 = .ok (.istore_n 2, 1) := by decide +kernel
theorem dX11_seasons_46 : decode cX11_seasons 46 = .ok (.iload_n 2, 1) := by decide +kernel
theorem dX11_seasons_47 : decode cX11_seasons 47 = .ok (.iload_n 1, 1) := by decide +kernel
theorem dX11_seasons_48 : decode cX11_seasons 48 = .ok (.if_icmp .ge 34, 3) := by decide +kernel
theorem dX11_seasons_51 : decode cX11_seasons 51 = .ok (.aload_n 0, 1) := by decide +kernel
theorem dX11_seasons_52 : decode cX11_seasons 52 = .ok (.getfield 42, 3) := by decide +kernel
theorem dX11_seasons_55 : decode cX11_seasons 55 = .ok (.aload_n 0, 1) := by decide +kernel
theorem dX11_seasons_56 : decode cX11_seasons 56 = .ok (.getfield 26, 3) := by decide +kernel
theorem dX11_seasons_59 : decode cX11_seasons 59 = .ok (.invokevirtual 184, 3) := by decide +kernel
theorem dX11_seasons_62 : decode cX11_seasons 62 = .ok (.aload_n 0, 1) := by decide +kernel
theorem dX11_seasons_63 : decode cX11_seasons 63 = .ok (.getfield 26, 3) := by decide +kernel
theorem dX11_seasons_66 : decode cX11_seasons 66 = .ok (.aload_n 0, 1) := by decide +kernel
theorem dX11_seasons_67 : decode cX11_seasons 67 = .ok (.getfield 26, 3) := by decide +kernel
theorem dX11_seasons_70 : decode cX11_seasons 70 = .ok (.invokevirtual 187, 3) := by decide +kernel
theorem dX11_seasons_73 : decode cX11_seasons 73 = .ok (.invokevirtual 190, 3) := by decide +kernel
theorem dX11_seasons_76 : decode cX11_seasons 76 = .ok (.iinc 2 1, 3) := by decide +kernel
theorem dX11_seasons_79 : decode cX11_seasons 79 = .ok (.goto (-33), 3) := by decide +kernel
theorem dX11_seasons_82 : decode cX11_seasons 82 = .ok (.aload_n 0, 1) := by decide +kernel
theorem dX11_seasons_83 : decode cX11_seasons 83 = .ok (.getfield 26, 3) := by decide +kernel
theorem dX11_seasons_86 : decode cX11_seasons 86 = .ok (.getfield 194, 3) := by decide +kernel
theorem dX11_seasons_89 : decode cX11_seasons 89 = .ok (.ireturn, 1) := by decide +kernel
theorem dX11_build_0 : decode cX11_build 0 = .ok (.aload_n 0, 1) := by decide +kernel
theorem dX11_build_1 : decode cX11_build 1 = .ok (.iload_n 1, 1) := by decide +kernel
theorem dX11_build_2 : decode cX11_build 2 = .ok (.invokevirtual 197, 3) := by decide +kernel
theorem dX11_build_5 : decode cX11_build 5 = .ok (.ifCond .ne 6, 3) := by decide +kernel
theorem dX11_build_8 : decode cX11_build 8 = .ok (.ldc 113, 2) := by decide +kernel
theorem dX11_build_10 : decode cX11_build 10 = .ok (.ireturn, 1) := by decide +kernel
theorem dX11_build_11 : decode cX11_build 11 = .ok (.aload_n 0, 1) := by decide +kernel
theorem dX11_build_12 : decode cX11_build 12 = .ok (.getfield 26, 3) := by decide +kernel
theorem dX11_build_15 : decode cX11_build 15 = .ok (.getfield 200, 3) := by decide +kernel
theorem dX11_build_18 : decode cX11_build 18 = .ok (.ifCond .ne 6, 3) := by decide +kernel
theorem dX11_build_21 : decode cX11_build 21 = .ok (.ldc 180, 2) := by decide +kernel
theorem dX11_build_23 : decode cX11_build 23 = .ok (.ireturn, 1) := by decide +kernel
theorem dX11_build_24 : decode cX11_build 24 = .ok (.aload_n 0, 1) := by decide +kernel
theorem dX11_build_25 : decode cX11_build 25 = .ok (.getfield 26, 3) := by decide +kernel
theorem dX11_build_28 : decode cX11_build 28 = .ok (.getfield 203, 3) := by decide +kernel
theorem dX11_build_31 : decode cX11_build 31 = .ok (.iload_n 1, 1) := by decide +kernel
theorem dX11_build_32 : decode cX11_build 32 = .ok (.iaload, 1) := by decide +kernel
theorem dX11_build_33 : decode cX11_build 33 = .ok (.bipush 99, 2) := by decide +kernel
theorem dX11_build_35 : decode cX11_build 35 = .ok (.if_icmp .lt 6, 3) := by decide +kernel
theorem dX11_build_38 : decode cX11_build 38 = .ok (.ldc 150, 2) := by decide +kernel
theorem dX11_build_40 : decode cX11_build 40 = .ok (.ireturn, 1) := by decide +kernel
theorem dX11_build_41 : decode cX11_build 41 = .ok (.aload_n 0, 1) := by decide +kernel
theorem dX11_build_42 : decode cX11_build 42 = .ok (.getfield 42, 3) := by decide +kernel
theorem dX11_build_45 : decode cX11_build 45 = .ok (.aload_n 0, 1) := by decide +kernel
theorem dX11_build_46 : decode cX11_build 46 = .ok (.getfield 26, 3) := by decide +kernel
theorem dX11_build_49 : decode cX11_build 49 = .ok (.invokevirtual 184, 3) := by decide +kernel
theorem dX11_build_52 : decode cX11_build 52 = .ok (.aload_n 0, 1) := by decide +kernel
theorem dX11_build_53 : decode cX11_build 53 = .ok (.getfield 26, 3) := by decide +kernel
theorem dX11_build_56 : decode cX11_build 56 = .ok (.iload_n 1, 1) := by decide +kernel
theorem dX11_build_57 : decode cX11_build 57 = .ok (.invokevirtual 206, 3) := by decide +kernel
theorem dX11_build_60 : decode cX11_build 60 = .ok (.aload_n 0, 1) := by decide +kernel
theorem dX11_build_61 : decode cX11_build 61 = .ok (.getfield 26, 3) := by decide +kernel
theorem dX11_build_64 : decode cX11_build 64 = .ok (.getfield 203, 3) := by decide +kernel
theorem dX11_build_67 : decode cX11_build 67 = .ok (.iload_n 1, 1) := by decide +kernel
theorem dX11_build_68 : decode cX11_build 68 = .ok (.iaload, 1) := by decide +kernel
theorem dX11_build_69 : decode cX11_build 69 = .ok (.ireturn, 1) := by decide +kernel
theorem dX11_turn_0 : decode cX11_turn 0 = .ok (.aload_n 0, 1) := by decide +kernel
theorem dX11_turn_1 : decode cX11_turn 1 = .ok (.iload_n 1, 1) := by decide +kernel
theorem dX11_turn_2 : decode cX11_turn 2 = .ok (.invokevirtual 197, 3) := by decide +kernel
theorem dX11_turn_5 : decode cX11_turn 5 = .ok (.ifCond .eq 12, 3) := by decide +kernel
theorem dX11_turn_8 : decode cX11_turn 8 = .ok (.iload_n 2, 1) := by decide +kernel
theorem dX11_turn_9 : decode cX11_turn 9 = .ok (.iconst 0, 1) := by decide +kernel
theorem dX11_turn_10 : decode cX11_turn 10 = .ok (.iconst 2, 1) := by decide +kernel
theorem dX11_turn_11 : decode cX11_turn 11 = .ok (.invokestatic 109, 3) := by decide +kernel
theorem dX11_turn_14 : decode cX11_turn 14 = .ok (.ifCond .ne 6, 3) := by decide +kernel
theorem dX11_turn_17 : decode cX11_turn 17 = .ok (.ldc 113, 2) := by decide +kernel
theorem dX11_turn_19 : decode cX11_turn 19 = .ok (.ireturn, 1) := by decide +kernel
theorem dX11_turn_20 : decode cX11_turn 20 = .ok (.aload_n 0, 1) := by decide +kernel
theorem dX11_turn_21 : decode cX11_turn 21 = .ok (.getfield 26, 3) := by decide +kernel
theorem dX11_turn_24 : decode cX11_turn 24 = .ok (.getfield 209, 3) := by decide +kernel
theorem dX11_turn_27 : decode cX11_turn 27 = .ok (.iload_n 1, 1) := by decide +kernel
theorem dX11_turn_28 : decode cX11_turn 28 = .ok (.iaload, 1) := by decide +kernel
theorem dX11_turn_29 : decode cX11_turn 29 = .ok (.istore_n 3, 1) := by decide +kernel
theorem dX11_turn_30 : decode cX11_turn 30 = .ok (.iload_n 3, 1) := by decide +kernel
theorem dX11_turn_31 : decode cX11_turn 31 = .ok (.iload_n 2, 1) := by decide +kernel
theorem dX11_turn_32 : decode cX11_turn 32 = .ok (.if_icmp .ne 6, 3) := by decide +kernel
theorem dX11_turn_35 : decode cX11_turn 35 = .ok (.ldc 180, 2) := by decide +kernel
theorem dX11_turn_37 : decode cX11_turn 37 = .ok (.ireturn, 1) := by decide +kernel
theorem dX11_turn_38 : decode cX11_turn 38 = .ok (.aload_n 0, 1) := by decide +kernel
theorem dX11_turn_39 : decode cX11_turn 39 = .ok (.getfield 42, 3) := by decide +kernel
theorem dX11_turn_42 : decode cX11_turn 42 = .ok (.aload_n 0, 1) := by decide +kernel
theorem dX11_turn_43 : decode cX11_turn 43 = .ok (.getfield 26, 3) := by decide +kernel
theorem dX11_turn_46 : decode cX11_turn 46 = .ok (.invokevirtual 184, 3) := by decide +kernel
theorem dX11_turn_49 : decode cX11_turn 49 = .ok (.aload_n 0, 1) := by decide +kernel
theorem dX11_turn_50 : decode cX11_turn 50 = .ok (.getfield 26, 3) := by decide +kernel
theorem dX11_turn_53 : decode cX11_turn 53 = .ok (.getfield 209, 3) := by decide +kernel
theorem dX11_turn_56 : decode cX11_turn 56 = .ok (.iload_n 1, 1) := by decide +kernel
theorem dX11_turn_57 : decode cX11_turn 57 = .ok (.iload_n 2, 1) := by decide +kernel
theorem dX11_turn_58 : decode cX11_turn 58 = .ok (.iastore, 1) := by decide +kernel
theorem dX11_turn_59 : decode cX11_turn 59 = .ok (.iload_n 3, 1) := by decide +kernel
theorem dX11_turn_60 : decode cX11_turn 60 = .ok (.ireturn, 1) := by decide +kernel
theorem dX11_buy_0 : decode cX11_buy 0 = .ok (.aload_n 0, 1) := by decide +kernel
theorem dX11_buy_1 : decode cX11_buy 1 = .ok (.getfield 26, 3) := by decide +kernel
theorem dX11_buy_4 : decode cX11_buy 4 = .ok (.getfield 176, 3) := by decide +kernel
theorem dX11_buy_7 : decode cX11_buy 7 = .ok (.ifCond .ne 6, 3) := by decide +kernel
theorem dX11_buy_10 : decode cX11_buy 10 = .ok (.ldc 180, 2) := by decide +kernel
theorem dX11_buy_12 : decode cX11_buy 12 = .ok (.ireturn, 1) := by decide +kernel
theorem dX11_buy_13 : decode cX11_buy 13 = .ok (.iload_n 1, 1) := by decide +kernel
theorem dX11_buy_14 : decode cX11_buy 14 = .ok (.iconst 1, 1) := by decide +kernel
theorem dX11_buy_15 : decode cX11_buy 15 = .ok (.bipush 20, 2) := by decide +kernel
theorem dX11_buy_17 : decode cX11_buy 17 = .ok (.invokestatic 109, 3) := by decide +kernel
theorem dX11_buy_20 : decode cX11_buy 20 = .ok (.ifCond .ne 6, 3) := by decide +kernel
theorem dX11_buy_23 : decode cX11_buy 23 = .ok (.ldc 113, 2) := by decide +kernel
theorem dX11_buy_25 : decode cX11_buy 25 = .ok (.ireturn, 1) := by decide +kernel
theorem dX11_buy_26 : decode cX11_buy 26 = .ok (.aload_n 0, 1) := by decide +kernel
theorem dX11_buy_27 : decode cX11_buy 27 = .ok (.getfield 26, 3) := by decide +kernel
theorem dX11_buy_30 : decode cX11_buy 30 = .ok (.getfield 194, 3) := by decide +kernel
theorem dX11_buy_33 : decode cX11_buy 33 = .ok (.iload_n 1, 1) := by decide +kernel
theorem dX11_buy_34 : decode cX11_buy 34 = .ok (.iconst 5, 1) := by decide +kernel
theorem dX11_buy_35 : decode cX11_buy 35 = .ok (.imul, 1) := by decide +kernel
theorem dX11_buy_36 : decode cX11_buy 36 = .ok (.if_icmp .ge 6, 3) := by decide +kernel
theorem dX11_buy_39 : decode cX11_buy 39 = .ok (.ldc 180, 2) := by decide +kernel
theorem dX11_buy_41 : decode cX11_buy 41 = .ok (.ireturn, 1) := by decide +kernel
theorem dX11_buy_42 : decode cX11_buy 42 = .ok (.aload_n 0, 1) := by decide +kernel
theorem dX11_buy_43 : decode cX11_buy 43 = .ok (.getfield 26, 3) := by decide +kernel
theorem dX11_buy_46 : decode cX11_buy 46 = .ok (.getfield 200, 3) := by decide +kernel
theorem dX11_buy_49 : decode cX11_buy 49 = .ok (.iload_n 1, 1) := by decide +kernel
theorem dX11_buy_50 : decode cX11_buy 50 = .ok (.iadd, 1) := by decide +kernel
theorem dX11_buy_51 : decode cX11_buy 51 = .ok (.bipush 99, 2) := by decide +kernel
theorem dX11_buy_53 : decode cX11_buy 53 = .ok (.if_icmp .le 6, 3) := by decide +kernel
theorem dX11_buy_56 : decode cX11_buy 56 = .ok (.ldc 150, 2) := by decide +kernel
theorem dX11_buy_58 : decode cX11_buy 58 = .ok (.ireturn, 1) := by decide +kernel
theorem dX11_buy_59 : decode cX11_buy 59 = .ok (.aload_n 0, 1) := by decide +kernel
theorem dX11_buy_60 : decode cX11_buy 60 = .ok (.getfield 42, 3) := by decide +kernel
theorem dX11_buy_63 : decode cX11_buy 63 = .ok (.aload_n 0, 1) := by decide +kernel
theorem dX11_buy_64 : decode cX11_buy 64 = .ok (.getfield 26, 3) := by decide +kernel
theorem dX11_buy_67 : decode cX11_buy 67 = .ok (.invokevirtual 184, 3) := by decide +kernel
theorem dX11_buy_70 : decode cX11_buy 70 = .ok (.aload_n 0, 1) := by decide +kernel
theorem dX11_buy_71 : decode cX11_buy 71 = .ok (.getfield 26, 3) := by decide +kernel
theorem dX11_buy_74 : decode cX11_buy 74 = .ok (.dup, 1) := by decide +kernel
theorem dX11_buy_75 : decode cX11_buy 75 = .ok (.getfield 194, 3) := by decide +kernel
theorem dX11_buy_78 : decode cX11_buy 78 = .ok (.iload_n 1, 1) := by decide +kernel
theorem dX11_buy_79 : decode cX11_buy 79 = .ok (.iconst 5, 1) := by decide +kernel
theorem dX11_buy_80 : decode cX11_buy 80 = .ok (.imul, 1) := by decide +kernel
theorem dX11_buy_81 : decode cX11_buy 81 = .ok (.isub, 1) := by decide +kernel
theorem dX11_buy_82 : decode cX11_buy 82 = .ok (.putfield 194, 3) := by decide +kernel
theorem dX11_buy_85 : decode cX11_buy 85 = .ok (.aload_n 0, 1) := by decide +kernel
theorem dX11_buy_86 : decode cX11_buy 86 = .ok (.getfield 26, 3) := by decide +kernel
theorem dX11_buy_89 : decode cX11_buy 89 = .ok (.dup, 1) := by decide +kernel
theorem dX11_buy_90 : decode cX11_buy 90 = .ok (.getfield 200, 3) := by decide +kernel
theorem dX11_buy_93 : decode cX11_buy 93 = .ok (.iload_n 1, 1) := by decide +kernel
theorem dX11_buy_94 : decode cX11_buy 94 = .ok (.iadd, 1) := by decide +kernel
theorem dX11_buy_95 : decode cX11_buy 95 = .ok (.putfield 200, 3) := by decide +kernel
theorem dX11_buy_98 : decode cX11_buy 98 = .ok (.aload_n 0, 1) := by decide +kernel
theorem dX11_buy_99 : decode cX11_buy 99 = .ok (.getfield 26, 3) := by decide +kernel
theorem dX11_buy_102 : decode cX11_buy 102 = .ok (.getfield 200, 3) := by decide +kernel
theorem dX11_buy_105 : decode cX11_buy 105 = .ok (.ireturn, 1) := by decide +kernel
theorem dX11_undo_0 : decode cX11_undo 0 = .ok (.aload_n 0, 1) := by decide +kernel
theorem dX11_undo_1 : decode cX11_undo 1 = .ok (.getfield 42, 3) := by decide +kernel
theorem dX11_undo_4 : decode cX11_undo 4 = .ok (.invokevirtual 212, 3) := by decide +kernel
theorem dX11_undo_7 : decode cX11_undo 7 = .ok (.ifCond .ne 6, 3) := by decide +kernel
theorem dX11_undo_10 : decode cX11_undo 10 = .ok (.ldc 180, 2) := by decide +kernel
theorem dX11_undo_12 : decode cX11_undo 12 = .ok (.ireturn, 1) := by decide +kernel
theorem dX11_undo_13 : decode cX11_undo 13 = .ok (.aload_n 0, 1) := by decide +kernel
theorem dX11_undo_14 : decode cX11_undo 14 = .ok (.getfield 42, 3) := by decide +kernel
theorem dX11_undo_17 : decode cX11_undo 17 = .ok (.aload_n 0, 1) := by decide +kernel
theorem dX11_undo_18 : decode cX11_undo 18 = .ok (.getfield 26, 3) := by decide +kernel
theorem dX11_undo_21 : decode cX11_undo 21 = .ok (.invokevirtual 215, 3) := by decide +kernel
theorem dX11_undo_24 : decode cX11_undo 24 = .ok (.aload_n 0, 1) := by decide +kernel
theorem dX11_undo_25 : decode cX11_undo 25 = .ok (.getfield 42, 3) := by decide +kernel
theorem dX11_undo_28 : decode cX11_undo 28 = .ok (.invokevirtual 212, 3) := by decide +kernel
theorem dX11_undo_31 : decode cX11_undo 31 = .ok (.ireturn, 1) := by decide +kernel
theorem dX11_pier_0 : decode cX11_pier 0 = .ok (.aload_n 0, 1) := by decide +kernel
theorem dX11_pier_1 : decode cX11_pier 1 = .ok (.iload_n 1, 1) := by decide +kernel
theorem dX11_pier_2 : decode cX11_pier 2 = .ok (.invokevirtual 197, 3) := by decide +kernel
theorem dX11_pier_5 : decode cX11_pier 5 = .ok (.ifCond .ne 6, 3) := by decide +kernel
theorem dX11_pier_8 : decode cX11_pier 8 = .ok (.ldc 113, 2) := by decide +kernel
theorem dX11_pier_10 : decode cX11_pier 10 = .ok (.ireturn, 1) := by decide +kernel
theorem dX11_pier_11 : decode cX11_pier 11 = .ok (.iload_n 2, 1) := by decide +kernel
theorem dX11_pier_12 : decode cX11_pier 12 = .ok (.tableswitch 104 0 5 #[40, 50, 60, 70, 79, 88], 40) := by decide +kernel
theorem dX11_pier_52 : decode cX11_pier 52 = .ok (.aload_n 0, 1) := by decide +kernel
theorem dX11_pier_53 : decode cX11_pier 53 = .ok (.getfield 26, 3) := by decide +kernel
theorem dX11_pier_56 : decode cX11_pier 56 = .ok (.getfield 218, 3) := by decide +kernel
theorem dX11_pier_59 : decode cX11_pier 59 = .ok (.iload_n 1, 1) := by decide +kernel
theorem dX11_pier_60 : decode cX11_pier 60 = .ok (.iaload, 1) := by decide +kernel
theorem dX11_pier_61 : decode cX11_pier 61 = .ok (.ireturn, 1) := by decide +kernel
theorem dX11_pier_62 : decode cX11_pier 62 = .ok (.aload_n 0, 1) := by decide +kernel
theorem dX11_pier_63 : decode cX11_pier 63 = .ok (.getfield 26, 3) := by decide +kernel
theorem dX11_pier_66 : decode cX11_pier 66 = .ok (.getfield 209, 3) := by decide +kernel
theorem dX11_pier_69 : decode cX11_pier 69 = .ok (.iload_n 1, 1) := by decide +kernel
theorem dX11_pier_70 : decode cX11_pier 70 = .ok (.iaload, 1) := by decide +kernel
theorem dX11_pier_71 : decode cX11_pier 71 = .ok (.ireturn, 1) := by decide +kernel
theorem dX11_pier_72 : decode cX11_pier 72 = .ok (.aload_n 0, 1) := by decide +kernel
theorem dX11_pier_73 : decode cX11_pier 73 = .ok (.getfield 26, 3) := by decide +kernel
theorem dX11_pier_76 : decode cX11_pier 76 = .ok (.getfield 203, 3) := by decide +kernel
theorem dX11_pier_79 : decode cX11_pier 79 = .ok (.iload_n 1, 1) := by decide +kernel
theorem dX11_pier_80 : decode cX11_pier 80 = .ok (.iaload, 1) := by decide +kernel
theorem dX11_pier_81 : decode cX11_pier 81 = .ok (.ireturn, 1) := by decide +kernel
theorem dX11_pier_82 : decode cX11_pier 82 = .ok (.aload_n 0, 1) := by decide +kernel
theorem dX11_pier_83 : decode cX11_pier 83 = .ok (.getfield 26, 3) := by decide +kernel
theorem dX11_pier_86 : decode cX11_pier 86 = .ok (.iload_n 1, 1) := by decide +kernel
theorem dX11_pier_87 : decode cX11_pier 87 = .ok (.invokevirtual 221, 3) := by decide +kernel
theorem dX11_pier_90 : decode cX11_pier 90 = .ok (.ireturn, 1) := by decide +kernel
theorem dX11_pier_91 : decode cX11_pier 91 = .ok (.aload_n 0, 1) := by decide +kernel
theorem dX11_pier_92 : decode cX11_pier 92 = .ok (.getfield 26, 3) := by decide +kernel
theorem dX11_pier_95 : decode cX11_pier 95 = .ok (.iload_n 1, 1) := by decide +kernel
theorem dX11_pier_96 : decode cX11_pier 96 = .ok (.invokevirtual 224, 3) := by decide +kernel
theorem dX11_pier_99 : decode cX11_pier 99 = .ok (.ireturn, 1) := by decide +kernel
theorem dX11_pier_100 : decode cX11_pier 100 = .ok (.aload_n 0, 1) := by decide +kernel
theorem dX11_pier_101 : decode cX11_pier 101 = .ok (.getfield 26, 3) := by decide +kernel
theorem dX11_pier_104 : decode cX11_pier 104 = .ok (.iload_n 1, 1) := by decide +kernel
theorem dX11_pier_105 : decode cX11_pier 105 = .ok (.aload_n 0, 1) := by decide +kernel
theorem dX11_pier_106 : decode cX11_pier 106 = .ok (.getfield 26, 3) := by decide +kernel
theorem dX11_pier_109 : decode cX11_pier 109 = .ok (.invokevirtual 187, 3) := by decide +kernel
theorem dX11_pier_112 : decode cX11_pier 112 = .ok (.invokevirtual 227, 3) := by decide +kernel
theorem dX11_pier_115 : decode cX11_pier 115 = .ok (.ireturn, 1) := by decide +kernel
theorem dX11_pier_116 : decode cX11_pier 116 = .ok (.ldc 113, 2) := by decide +kernel
theorem dX11_pier_118 : decode cX11_pier 118 = .ok (.ireturn, 1) := by decide +kernel
theorem dX11_ahead_0 : decode cX11_ahead 0 = .ok (.aload_n 0, 1) := by decide +kernel
theorem dX11_ahead_1 : decode cX11_ahead 1 = .ok (.iload_n 1, 1) := by decide +kernel
theorem dX11_ahead_2 : decode cX11_ahead 2 = .ok (.invokevirtual 197, 3) := by decide +kernel
theorem dX11_ahead_5 : decode cX11_ahead 5 = .ok (.ifCond .eq 19, 3) := by decide +kernel
theorem dX11_ahead_8 : decode cX11_ahead 8 = .ok (.iload_n 2, 1) := by decide +kernel
theorem dX11_ahead_9 : decode cX11_ahead 9 = .ok (.invokestatic 231, 3) := by decide +kernel
theorem dX11_ahead_12 : decode cX11_ahead 12 = .ok (.ifCond .eq 12, 3) := by decide +kernel
theorem dX11_ahead_15 : decode cX11_ahead 15 = .ok (.iload_n 3, 1) := by decide +kernel
theorem dX11_ahead_16 : decode cX11_ahead 16 = .ok (.iconst 0, 1) := by decide +kernel
theorem dX11_ahead_17 : decode cX11_ahead 17 = .ok (.iconst 1, 1) := by decide +kernel
theorem dX11_ahead_18 : decode cX11_ahead 18 = .ok (.invokestatic 109, 3) := by decide +kernel
theorem dX11_ahead_21 : decode cX11_ahead 21 = .ok (.ifCond .ne 6, 3) := by decide +kernel
theorem dX11_ahead_24 : decode cX11_ahead 24 = .ok (.ldc 113, 2) := by decide +kernel
theorem dX11_ahead_26 : decode cX11_ahead 26 = .ok (.ireturn, 1) := by decide +kernel
theorem dX11_ahead_27 : decode cX11_ahead 27 = .ok (.aload_n 0, 1) := by decide +kernel
theorem dX11_ahead_28 : decode cX11_ahead 28 = .ok (.iload_n 2, 1) := by decide +kernel
theorem dX11_ahead_29 : decode cX11_ahead 29 = .ok (.invokevirtual 234, 3) := by decide +kernel
theorem dX11_ahead_32 : decode cX11_ahead 32 = .ok (.iload_n 3, 1) := by decide +kernel
theorem dX11_ahead_33 : decode cX11_ahead 33 = .ok (.ifCond .ne 15, 3) := by decide +kernel
theorem dX11_ahead_36 : decode cX11_ahead 36 = .ok (.aload_n 0, 1) := by decide +kernel
theorem dX11_ahead_37 : decode cX11_ahead 37 = .ok (.getfield 30, 3) := by decide +kernel
theorem dX11_ahead_40 : decode cX11_ahead 40 = .ok (.getfield 203, 3) := by decide +kernel
theorem dX11_ahead_43 : decode cX11_ahead 43 = .ok (.iload_n 1, 1) := by decide +kernel
theorem dX11_ahead_44 : decode cX11_ahead 44 = .ok (.iaload, 1) := by decide +kernel
theorem dX11_ahead_45 : decode cX11_ahead 45 = .ok (.goto 11, 3) := by decide +kernel
theorem dX11_ahead_48 : decode cX11_ahead 48 = .ok (.aload_n 0, 1) := by decide +kernel
theorem dX11_ahead_49 : decode cX11_ahead 49 = .ok (.getfield 30, 3) := by decide +kernel
theorem dX11_ahead_52 : decode cX11_ahead 52 = .ok (.iload_n 1, 1) := by decide +kernel
theorem dX11_ahead_53 : decode cX11_ahead 53 = .ok (.invokevirtual 221, 3) := by decide +kernel
theorem dX11_ahead_56 : decode cX11_ahead 56 = .ok (.ireturn, 1) := by decide +kernel
theorem dX11_purse_0 : decode cX11_purse 0 = .ok (.aload_n 0, 1) := by decide +kernel
theorem dX11_purse_1 : decode cX11_purse 1 = .ok (.getfield 26, 3) := by decide +kernel
theorem dX11_purse_4 : decode cX11_purse 4 = .ok (.getfield 176, 3) := by decide +kernel
theorem dX11_purse_7 : decode cX11_purse 7 = .ok (.ifCond .ne 6, 3) := by decide +kernel
theorem dX11_purse_10 : decode cX11_purse 10 = .ok (.ldc 180, 2) := by decide +kernel
theorem dX11_purse_12 : decode cX11_purse 12 = .ok (.ireturn, 1) := by decide +kernel
theorem dX11_purse_13 : decode cX11_purse 13 = .ok (.iload_n 1, 1) := by decide +kernel
theorem dX11_purse_14 : decode cX11_purse 14 = .ok (.invokestatic 231, 3) := by decide +kernel
theorem dX11_purse_17 : decode cX11_purse 17 = .ok (.ifCond .ne 6, 3) := by decide +kernel
theorem dX11_purse_20 : decode cX11_purse 20 = .ok (.ldc 113, 2) := by decide +kernel
theorem dX11_purse_22 : decode cX11_purse 22 = .ok (.ireturn, 1) := by decide +kernel
theorem dX11_purse_23 : decode cX11_purse 23 = .ok (.aload_n 0, 1) := by decide +kernel
theorem dX11_purse_24 : decode cX11_purse 24 = .ok (.iload_n 1, 1) := by decide +kernel
theorem dX11_purse_25 : decode cX11_purse 25 = .ok (.invokevirtual 234, 3) := by decide +kernel
theorem dX11_purse_28 : decode cX11_purse 28 = .ok (.aload_n 0, 1) := by decide +kernel
theorem dX11_purse_29 : decode cX11_purse 29 = .ok (.getfield 30, 3) := by decide +kernel
theorem dX11_purse_32 : decode cX11_purse 32 = .ok (.getfield 194, 3) := by decide +kernel
theorem dX11_purse_35 : decode cX11_purse 35 = .ok (.ireturn, 1) := by decide +kernel
theorem dX11_gone_0 : decode cX11_gone 0 = .ok (.aload_n 0, 1) := by decide +kernel
theorem dX11_gone_1 : decode cX11_gone 1 = .ok (.iload_n 1, 1) := by decide +kernel
theorem dX11_gone_2 : decode cX11_gone 2 = .ok (.invokevirtual 197, 3) := by decide +kernel
theorem dX11_gone_5 : decode cX11_gone 5 = .ok (.ifCond .ne 6, 3) := by decide +kernel
theorem dX11_gone_8 : decode cX11_gone 8 = .ok (.ldc 113, 2) := by decide +kernel
theorem dX11_gone_10 : decode cX11_gone 10 = .ok (.ireturn, 1) := by decide +kernel
theorem dX11_gone_11 : decode cX11_gone 11 = .ok (.aload_n 0, 1) := by decide +kernel
theorem dX11_gone_12 : decode cX11_gone 12 = .ok (.getfield 30, 3) := by decide +kernel
theorem dX11_gone_15 : decode cX11_gone 15 = .ok (.aload_n 0, 1) := by decide +kernel
theorem dX11_gone_16 : decode cX11_gone 16 = .ok (.getfield 26, 3) := by decide +kernel
theorem dX11_gone_19 : decode cX11_gone 19 = .ok (.invokevirtual 166, 3) := by decide +kernel
theorem dX11_gone_22 : decode cX11_gone 22 = .ok (.iconst 0, 1) := by decide +kernel
theorem dX11_gone_23 : decode cX11_gone 23 = .ok (.istore_n 2, 1) := by decide +kernel
theorem dX11_gone_24 : decode cX11_gone 24 = .ok (.iload_n 2, 1) := by decide +kernel
theorem dX11_gone_25 : decode cX11_gone 25 = .ok (.bipush 60, 2) := by decide +kernel
theorem dX11_gone_27 : decode cX11_gone 27 = .ok (.if_icmp .gt 37, 3) := by decide +kernel
theorem dX11_gone_30 : decode cX11_gone 30 = .ok (.aload_n 0, 1) := by decide +kernel
theorem dX11_gone_31 : decode cX11_gone 31 = .ok (.getfield 30, 3) := by decide +kernel
theorem dX11_gone_34 : decode cX11_gone 34 = .ok (.getfield 203, 3) := by decide +kernel
theorem dX11_gone_37 : decode cX11_gone 37 = .ok (.iload_n 1, 1) := by decide +kernel
theorem dX11_gone_38 : decode cX11_gone 38 = .ok (.iaload, 1) := by decide +kernel
theorem dX11_gone_39 : decode cX11_gone 39 = .ok (.ifCond .ne 5, 3) := by decide +kernel
theorem dX11_gone_42 : decode cX11_gone 42 = .ok (.iload_n 2, 1) := by decide +kernel
theorem dX11_gone_43 : decode cX11_gone 43 = .ok (.ireturn, 1) := by decide +kernel
theorem dX11_gone_44 : decode cX11_gone 44 = .ok (.aload_n 0, 1) := by decide +kernel
theorem dX11_gone_45 : decode cX11_gone 45 = .ok (.getfield 30, 3) := by decide +kernel
theorem dX11_gone_48 : decode cX11_gone 48 = .ok (.aload_n 0, 1) := by decide +kernel
theorem dX11_gone_49 : decode cX11_gone 49 = .ok (.getfield 30, 3) := by decide +kernel
theorem dX11_gone_52 : decode cX11_gone 52 = .ok (.invokevirtual 187, 3) := by decide +kernel
theorem dX11_gone_55 : decode cX11_gone 55 = .ok (.invokevirtual 190, 3) := by decide +kernel
theorem dX11_gone_58 : decode cX11_gone 58 = .ok (.iinc 2 1, 3) := by decide +kernel
theorem dX11_gone_61 : decode cX11_gone 61 = .ok (.goto (-37), 3) := by decide +kernel
theorem dX11_gone_64 : decode cX11_gone 64 = .ok (.ldc 237, 2) := by decide +kernel
theorem dX11_gone_66 : decode cX11_gone 66 = .ok (.ireturn, 1) := by decide +kernel
theorem dX11_aim_0 : decode cX11_aim 0 = .ok (.aload_n 0, 1) := by decide +kernel
theorem dX11_aim_1 : decode cX11_aim 1 = .ok (.iload_n 1, 1) := by decide +kernel
theorem dX11_aim_2 : decode cX11_aim 2 = .ok (.invokevirtual 197, 3) := by decide +kernel
theorem dX11_aim_5 : decode cX11_aim 5 = .ok (.ifCond .eq 34, 3) := by decide +kernel
theorem dX11_aim_8 : decode cX11_aim 8 = .ok (.iload_n 2, 1) := by decide +kernel
theorem dX11_aim_9 : decode cX11_aim 9 = .ok (.invokestatic 238, 3) := by decide +kernel
theorem dX11_aim_12 : decode cX11_aim 12 = .ok (.ifCond .eq 27, 3) := by decide +kernel
theorem dX11_aim_15 : decode cX11_aim 15 = .ok (.iload_n 3, 1) := by decide +kernel
theorem dX11_aim_16 : decode cX11_aim 16 = .ok (.iconst 1, 1) := by decide +kernel
theorem dX11_aim_17 : decode cX11_aim 17 = .ok (.bipush 20, 2) := by decide +kernel
theorem dX11_aim_19 : decode cX11_aim 19 = .ok (.invokestatic 109, 3) := by decide +kernel
theorem dX11_aim_22 : decode cX11_aim 22 = .ok (.ifCond .eq 17, 3) := by decide +kernel
theorem dX11_aim_25 : decode cX11_aim 25 = .ok (.iload 4, 2) := by decide +kernel
theorem dX11_aim_27 : decode cX11_aim 27 = .ok (.iconst 0, 1) := by decide +kernel
theorem dX11_aim_28 : decode cX11_aim 28 = .ok (.iconst 1, 1) := by decide +kernel
theorem dX11_aim_29 : decode cX11_aim 29 = .ok (.invokestatic 109, 3) := by decide +kernel
theorem dX11_aim_32 : decode cX11_aim 32 = .ok (.ifCond .eq 7, 3) := by decide +kernel
theorem dX11_aim_35 : decode cX11_aim 35 = .ok (.iconst 1, 1) := by decide +kernel
theorem dX11_aim_36 : decode cX11_aim 36 = .ok (.goto 4, 3) := by decide +kernel
theorem dX11_aim_39 : decode cX11_aim 39 = .ok (.iconst 0, 1) := by decide +kernel
theorem dX11_aim_40 : decode cX11_aim 40 = .ok (.istore 5, 2) := by decide +kernel
theorem dX11_aim_42 : decode cX11_aim 42 = .ok (.iload 5, 2) := by decide +kernel
theorem dX11_aim_44 : decode cX11_aim 44 = .ok (.ifCond .ne 6, 3) := by decide +kernel
theorem dX11_aim_47 : decode cX11_aim 47 = .ok (.ldc 113, 2) := by decide +kernel
theorem dX11_aim_49 : decode cX11_aim 49 = .ok (.ireturn, 1) := by decide +kernel
theorem dX11_aim_50 : decode cX11_aim 50 = .ok (.iload_n 3, 1) := by decide +kernel
theorem dX11_aim_51 : decode cX11_aim 51 = .ok (.aload_n 0, 1) := by decide +kernel
theorem dX11_aim_52 : decode cX11_aim 52 = .ok (.getfield 26, 3) := by decide +kernel
theorem dX11_aim_55 : decode cX11_aim 55 = .ok (.getfield 203, 3) := by decide +kernel
theorem dX11_aim_58 : decode cX11_aim 58 = .ok (.iload_n 1, 1) := by decide +kernel
theorem dX11_aim_59 : decode cX11_aim 59 = .ok (.iaload, 1) := by decide +kernel
theorem dX11_aim_60 : decode cX11_aim 60 = .ok (.isub, 1) := by decide +kernel
theorem dX11_aim_61 : decode cX11_aim 61 = .ok (.istore 6, 2) := by decide +kernel
theorem dX11_aim_63 : decode cX11_aim 63 = .ok (.iload 6, 2) := by decide +kernel
theorem dX11_aim_65 : decode cX11_aim 65 = .ok (.ifCond .lt 15, 3) := by decide +kernel
theorem dX11_aim_68 : decode cX11_aim 68 = .ok (.iload 6, 2) := by decide +kernel
theorem dX11_aim_70 : decode cX11_aim 70 = .ok (.aload_n 0, 1) := by decide +kernel
theorem dX11_aim_71 : decode cX11_aim 71 = .ok (.getfield 26, 3) := by decide +kernel
theorem dX11_aim_74 : decode cX11_aim 74 = .ok (.getfield 200, 3) := by decide +kernel
theorem dX11_aim_77 : decode cX11_aim 77 = .ok (.if_icmp .le 6, 3) := by decide +kernel
theorem dX11_aim_80 : decode cX11_aim 80 = .ok (.ldc 237, 2) := by decide +kernel
theorem dX11_aim_82 : decode cX11_aim 82 = .ok (.ireturn, 1) := by decide +kernel
theorem dX11_aim_83 : decode cX11_aim 83 = .ok (.iconst 0, 1) := by decide +kernel
theorem dX11_aim_84 : decode cX11_aim 84 = .ok (.istore 7, 2) := by decide +kernel
theorem dX11_aim_86 : decode cX11_aim 86 = .ok (.iload 7, 2) := by decide +kernel
theorem dX11_aim_88 : decode cX11_aim 88 = .ok (.iconst 2, 1) := by decide +kernel
theorem dX11_aim_89 : decode cX11_aim 89 = .ok (.if_icmp .gt 41, 3) := by decide +kernel
theorem dX11_aim_92 : decode cX11_aim 92 = .ok (.aload_n 0, 1) := by decide +kernel
theorem dX11_aim_93 : decode cX11_aim 93 = .ok (.getfield 26, 3) := by decide +kernel
theorem dX11_aim_96 : decode cX11_aim 96 = .ok (.getfield 218, 3) := by decide +kernel
theorem dX11_aim_99 : decode cX11_aim 99 = .ok (.iload_n 1, 1) := by decide +kernel
theorem dX11_aim_100 : decode cX11_aim 100 = .ok (.iaload, 1) := by decide +kernel
theorem dX11_aim_101 : decode cX11_aim 101 = .ok (.iload 7, 2) := by decide +kernel
theorem dX11_aim_103 : decode cX11_aim 103 = .ok (.iload_n 3, 1) := by decide +kernel
theorem dX11_aim_104 : decode cX11_aim 104 = .ok (.invokestatic 241, 3) := by decide +kernel
theorem dX11_aim_107 : decode cX11_aim 107 = .ok (.iload_n 2, 1) := by decide +kernel
theorem dX11_aim_108 : decode cX11_aim 108 = .ok (.if_icmp .ne 16, 3) := by decide +kernel
theorem dX11_aim_111 : decode cX11_aim 111 = .ok (.iload 4, 2) := by decide +kernel
theorem dX11_aim_113 : decode cX11_aim 113 = .ok (.ifCond .ne 8, 3) := by decide +kernel
theorem dX11_aim_116 : decode cX11_aim 116 = .ok (.iload 7, 2) := by decide +kernel
theorem dX11_aim_118 : decode cX11_aim 118 = .ok (.goto 5, 3) := by decide +kernel
theorem dX11_aim_121 : decode cX11_aim 121 = .ok (.iload 6, 2) := by decide +kernel
theorem dX11_aim_123 : decode cX11_aim 123 = .ok (.ireturn, 1) := by decide +kernel
theorem dX11_aim_124 : decode cX11_aim 124 = .ok (.iinc 7 1, 3) := by decide +kernel
theorem dX11_aim_127 : decode cX11_aim 127 = .ok (.goto (-41), 3) := by decide +kernel
theorem dX11_aim_130 : decode cX11_aim 130 = .ok (.ldc 237, 2) := by decide +kernel
theorem dX11_aim_132 : decode cX11_aim 132 = .ok (.ireturn, 1) := by decide +kernel
theorem dX11_take_0 : decode cX11_take 0 = .ok (.aload_n 0, 1) := by decide +kernel
theorem dX11_take_1 : decode cX11_take 1 = .ok (.getfield 26, 3) := by decide +kernel
theorem dX11_take_4 : decode cX11_take 4 = .ok (.getfield 176, 3) := by decide +kernel
theorem dX11_take_7 : decode cX11_take 7 = .ok (.ifCond .ne 6, 3) := by decide +kernel
theorem dX11_take_10 : decode cX11_take 10 = .ok (.ldc 180, 2) := by decide +kernel
theorem dX11_take_12 : decode cX11_take 12 = .ok (.ireturn, 1) := by decide +kernel
theorem dX11_take_13 : decode cX11_take 13 = .ok (.iload_n 1, 1) := by decide +kernel
theorem dX11_take_14 : decode cX11_take 14 = .ok (.invokestatic 238, 3) := by decide +kernel
theorem dX11_take_17 : decode cX11_take 17 = .ok (.ifCond .eq 13, 3) := by decide +kernel
theorem dX11_take_20 : decode cX11_take 20 = .ok (.iload_n 2, 1) := by decide +kernel
theorem dX11_take_21 : decode cX11_take 21 = .ok (.iconst 0, 1) := by decide +kernel
theorem dX11_take_22 : decode cX11_take 22 = .ok (.bipush 99, 2) := by decide +kernel
theorem dX11_take_24 : decode cX11_take 24 = .ok (.invokestatic 109, 3) := by decide +kernel
theorem dX11_take_27 : decode cX11_take 27 = .ok (.ifCond .ne 6, 3) := by decide +kernel
theorem dX11_take_30 : decode cX11_take 30 = .ok (.ldc 113, 2) := by decide +kernel
theorem dX11_take_32 : decode cX11_take 32 = .ok (.ireturn, 1) := by decide +kernel
theorem dX11_take_33 : decode cX11_take 33 = .ok (.aload_n 0, 1) := by decide +kernel
theorem dX11_take_34 : decode cX11_take 34 = .ok (.getfield 26, 3) := by decide +kernel
theorem dX11_take_37 : decode cX11_take 37 = .ok (.iload_n 1, 1) := by decide +kernel
theorem dX11_take_38 : decode cX11_take 38 = .ok (.iload_n 2, 1) := by decide +kernel
theorem dX11_take_39 : decode cX11_take 39 = .ok (.invokevirtual 244, 3) := by decide +kernel
theorem dX11_take_42 : decode cX11_take 42 = .ok (.ireturn, 1) := by decide +kernel
theorem dX11_give_0 : decode cX11_give 0 = .ok (.aload_n 0, 1) := by decide +kernel
theorem dX11_give_1 : decode cX11_give 1 = .ok (.getfield 26, 3) := by decide +kernel
theorem dX11_give_4 : decode cX11_give 4 = .ok (.getfield 176, 3) := by decide +kernel
theorem dX11_give_7 : decode cX11_give 7 = .ok (.ifCond .ne 6, 3) := by decide +kernel
theorem dX11_give_10 : decode cX11_give 10 = .ok (.ldc 180, 2) := by decide +kernel
theorem dX11_give_12 : decode cX11_give 12 = .ok (.ireturn, 1) := by decide +kernel
theorem dX11_give_13 : decode cX11_give 13 = .ok (.iload_n 1, 1) := by decide +kernel
theorem dX11_give_14 : decode cX11_give 14 = .ok (.invokestatic 231, 3) := by decide +kernel
theorem dX11_give_17 : decode cX11_give 17 = .ok (.ifCond .eq 13, 3) := by decide +kernel
theorem dX11_give_20 : decode cX11_give 20 = .ok (.iload_n 2, 1) := by decide +kernel
theorem dX11_give_21 : decode cX11_give 21 = .ok (.bipush (-2), 2) := by decide +kernel
theorem dX11_give_23 : decode cX11_give 23 = .ok (.iconst 4, 1) := by decide +kernel
theorem dX11_give_24 : decode cX11_give 24 = .ok (.invokestatic 109, 3) := by decide +kernel
theorem dX11_give_27 : decode cX11_give 27 = .ok (.ifCond .ne 6, 3) := by decide +kernel
theorem dX11_give_30 : decode cX11_give 30 = .ok (.ldc 113, 2) := by decide +kernel
theorem dX11_give_32 : decode cX11_give 32 = .ok (.ireturn, 1) := by decide +kernel
theorem dX11_give_33 : decode cX11_give 33 = .ok (.iload_n 2, 1) := by decide +kernel
theorem dX11_give_34 : decode cX11_give 34 = .ok (.aload_n 0, 1) := by decide +kernel
theorem dX11_give_35 : decode cX11_give 35 = .ok (.getfield 26, 3) := by decide +kernel
theorem dX11_give_38 : decode cX11_give 38 = .ok (.getfield 173, 3) := by decide +kernel
theorem dX11_give_41 : decode cX11_give 41 = .ok (.if_icmp .lt 6, 3) := by decide +kernel
theorem dX11_give_44 : decode cX11_give 44 = .ok (.ldc 237, 2) := by decide +kernel
theorem dX11_give_46 : decode cX11_give 46 = .ok (.ireturn, 1) := by decide +kernel
theorem dX11_give_47 : decode cX11_give 47 = .ok (.aload_n 0, 1) := by decide +kernel
theorem dX11_give_48 : decode cX11_give 48 = .ok (.getfield 26, 3) := by decide +kernel
theorem dX11_give_51 : decode cX11_give 51 = .ok (.getfield 200, 3) := by decide +kernel
theorem dX11_give_54 : decode cX11_give 54 = .ok (.bipush 9, 2) := by decide +kernel
theorem dX11_give_56 : decode cX11_give 56 = .ok (.invokestatic 247, 3) := by decide +kernel
theorem dX11_give_59 : decode cX11_give 59 = .ok (.istore_n 3, 1) := by decide +kernel
theorem dX11_give_60 : decode cX11_give 60 = .ok (.aload_n 0, 1) := by decide +kernel
theorem dX11_give_61 : decode cX11_give 61 = .ok (.iload_n 1, 1) := by decide +kernel
theorem dX11_give_62 : decode cX11_give 62 = .ok (.iload_n 3, 1) := by decide +kernel
theorem dX11_give_63 : decode cX11_give 63 = .ok (.invokevirtual 252, 3) := by decide +kernel
theorem dX11_give_66 : decode cX11_give 66 = .ok (.aload_n 0, 1) := by decide +kernel
theorem dX11_give_67 : decode cX11_give 67 = .ok (.iload_n 3, 1) := by decide +kernel
theorem dX11_give_68 : decode cX11_give 68 = .ok (.invokevirtual 256, 3) := by decide +kernel
theorem dX11_give_71 : decode cX11_give 71 = .ok (.aload_n 0, 1) := by decide +kernel
theorem dX11_give_72 : decode cX11_give 72 = .ok (.iload_n 3, 1) := by decide +kernel
theorem dX11_give_73 : decode cX11_give 73 = .ok (.invokevirtual 259, 3) := by decide +kernel
theorem dX11_give_76 : decode cX11_give 76 = .ok (.istore 4, 2) := by decide +kernel
theorem dX11_give_78 : decode cX11_give 78 = .ok (.aload_n 0, 1) := by decide +kernel
theorem dX11_give_79 : decode cX11_give 79 = .ok (.aload_n 0, 1) := by decide +kernel
theorem dX11_give_80 : decode cX11_give 80 = .ok (.getfield 92, 3) := by decide +kernel
theorem dX11_give_83 : decode cX11_give 83 = .ok (.iload 4, 2) := by decide +kernel
theorem dX11_give_85 : decode cX11_give 85 = .ok (.iaload, 1) := by decide +kernel
theorem dX11_give_86 : decode cX11_give 86 = .ok (.invokevirtual 262, 3) := by decide +kernel
theorem dX11_give_89 : decode cX11_give 89 = .ok (.istore 5, 2) := by decide +kernel
theorem dX11_give_91 : decode cX11_give 91 = .ok (.iload_n 2, 1) := by decide +kernel
theorem dX11_give_92 : decode cX11_give 92 = .ok (.iconst (-1), 1) := by decide +kernel
theorem dX11_give_93 : decode cX11_give 93 = .ok (.if_icmp .ne 6, 3) := by decide +kernel
theorem dX11_give_96 : decode cX11_give 96 = .ok (.iload 5, 2) := by decide +kernel
theorem dX11_give_98 : decode cX11_give 98 = .ok (.ireturn, 1) := by decide +kernel
theorem dX11_give_99 : decode cX11_give 99 = .ok (.iload_n 2, 1) := by decide +kernel
theorem dX11_give_100 : decode cX11_give 100 = .ok (.bipush (-2), 2) := by decide +kernel
theorem dX11_give_102 : decode cX11_give 102 = .ok (.if_icmp .ne 6, 3) := by decide +kernel
theorem dX11_give_105 : decode cX11_give 105 = .ok (.iload 4, 2) := by decide +kernel
theorem dX11_give_107 : decode cX11_give 107 = .ok (.ireturn, 1) := by decide +kernel
theorem dX11_give_108 : decode cX11_give 108 = .ok (.aload_n 0, 1) := by decide +kernel
theorem dX11_give_109 : decode cX11_give 109 = .ok (.iload 4, 2) := by decide +kernel
theorem dX11_give_111 : decode cX11_give 111 = .ok (.iload 5, 2) := by decide +kernel
theorem dX11_give_113 : decode cX11_give 113 = .ok (.invokevirtual 265, 3) := by decide +kernel
theorem dX11_give_116 : decode cX11_give 116 = .ok (.aload_n 0, 1) := by decide +kernel
theorem dX11_give_117 : decode cX11_give 117 = .ok (.getfield 95, 3) := by decide +kernel
theorem dX11_give_120 : decode cX11_give 120 = .ok (.iload_n 2, 1) := by decide +kernel
theorem dX11_give_121 : decode cX11_give 121 = .ok (.iaload, 1) := by decide +kernel
theorem dX11_give_122 : decode cX11_give 122 = .ok (.ireturn, 1) := by decide +kernel
theorem dX11_turning_0 : decode cX11_turning 0 = .ok (.aload_n 0, 1) := by decide +kernel
theorem dX11_turning_1 : decode cX11_turning 1 = .ok (.getfield 26, 3) := by decide +kernel
theorem dX11_turning_4 : decode cX11_turning 4 = .ok (.getfield 176, 3) := by decide +kernel
theorem dX11_turning_7 : decode cX11_turning 7 = .ok (.ifCond .ne 6, 3) := by decide +kernel
theorem dX11_turning_10 : decode cX11_turning 10 = .ok (.ldc 180, 2) := by decide +kernel
theorem dX11_turning_12 : decode cX11_turning 12 = .ok (.ireturn, 1) := by decide +kernel
theorem dX11_turning_13 : decode cX11_turning 13 = .ok (.iload_n 1, 1) := by decide +kernel
theorem dX11_turning_14 : decode cX11_turning 14 = .ok (.invokestatic 231, 3) := by decide +kernel
theorem dX11_turning_17 : decode cX11_turning 17 = .ok (.ifCond .eq 12, 3) := by decide +kernel
theorem dX11_turning_20 : decode cX11_turning 20 = .ok (.iload_n 2, 1) := by decide +kernel
theorem dX11_turning_21 : decode cX11_turning 21 = .ok (.iconst 0, 1) := by decide +kernel
theorem dX11_turning_22 : decode cX11_turning 22 = .ok (.iconst 2, 1) := by decide +kernel
theorem dX11_turning_23 : decode cX11_turning 23 = .ok (.invokestatic 109, 3) := by decide +kernel
theorem dX11_turning_26 : decode cX11_turning 26 = .ok (.ifCond .ne 6, 3) := by decide +kernel
theorem dX11_turning_29 : decode cX11_turning 29 = .ok (.ldc 113, 2) := by decide +kernel
theorem dX11_turning_31 : decode cX11_turning 31 = .ok (.ireturn, 1) := by decide +kernel
theorem dX11_turning_32 : decode cX11_turning 32 = .ok (.ldc 237, 2) := by decide +kernel
theorem dX11_turning_34 : decode cX11_turning 34 = .ok (.istore_n 3, 1) := by decide +kernel
theorem dX11_turning_35 : decode cX11_turning 35 = .ok (.ldc 237, 2) := by decide +kernel
theorem dX11_turning_37 : decode cX11_turning 37 = .ok (.istore 4, 2) := by decide +kernel
theorem dX11_turning_39 : decode cX11_turning 39 = .ok (.ldc 237, 2) := by decide +kernel
theorem dX11_turning_41 : decode cX11_turning 41 = .ok (.istore 5, 2) := by decide +kernel
theorem dX11_turning_43 : decode cX11_turning 43 = .ok (.iconst 0, 1) := by decide +kernel
theorem dX11_turning_44 : decode cX11_turning 44 = .ok (.istore 6, 2) := by decide +kernel
theorem dX11_turning_46 : decode cX11_turning 46 = .ok (.iload 6, 2) := by decide +kernel
theorem dX11_turning_48 : decode cX11_turning 48 = .ok (.aload_n 0, 1) := by decide +kernel
theorem dX11_turning_49 : decode cX11_turning 49 = .ok (.getfield 26, 3) := by decide +kernel
theorem dX11_turning_52 : decode cX11_turning 52 = .ok (.getfield 173, 3) := by decide +kernel
theorem dX11_turning_55 : decode cX11_turning 55 = .ok (.if_icmp .ge 72, 3) := by decide +kernel
theorem dX11_turning_58 : decode cX11_turning 58 = .ok (.iconst 0, 1) := by decide +kernel
theorem dX11_turning_59 : decode cX11_turning 59 = .ok (.istore 7, 2) := by decide +kernel
theorem dX11_turning_61 : decode cX11_turning 61 = .ok (.iload 7, 2) := by decide +kernel
theorem dX11_turning_63 : decode cX11_turning 63 = .ok (.iconst 2, 1) := by decide +kernel
theorem dX11_turning_64 : decode cX11_turning 64 = .ok (.if_icmp .gt 57, 3) := by decide +kernel
theorem dX11_turning_67 : decode cX11_turning 67 = .ok (.iload 7, 2) := by decide +kernel
theorem dX11_turning_69 : decode cX11_turning 69 = .ok (.aload_n 0, 1) := by decide +kernel
theorem dX11_turning_70 : decode cX11_turning 70 = .ok (.getfield 26, 3) := by decide +kernel
theorem dX11_turning_73 : decode cX11_turning 73 = .ok (.getfield 209, 3) := by decide +kernel
theorem dX11_turning_76 : decode cX11_turning 76 = .ok (.iload 6, 2) := by decide +kernel
theorem dX11_turning_78 : decode cX11_turning 78 = .ok (.iaload, 1) := by decide +kernel
theorem dX11_turning_79 : decode cX11_turning 79 = .ok (.if_icmp .ne 8, 3) := by decide +kernel
theorem dX11_turning_82 : decode cX11_turning 82 = .ok (.ldc 237, 2) := by decide +kernel
theorem dX11_turning_84 : decode cX11_turning 84 = .ok (.goto 12, 3) := by decide +kernel
theorem dX11_turning_87 : decode cX11_turning 87 = .ok (.aload_n 0, 1) := by decide +kernel
theorem dX11_turning_88 : decode cX11_turning 88 = .ok (.iload 6, 2) := by decide +kernel
theorem dX11_turning_90 : decode cX11_turning 90 = .ok (.iload 7, 2) := by decide +kernel
theorem dX11_turning_92 : decode cX11_turning 92 = .ok (.iload_n 1, 1) := by decide +kernel
theorem dX11_turning_93 : decode cX11_turning 93 = .ok (.invokevirtual 268, 3) := by decide +kernel
theorem dX11_turning_96 : decode cX11_turning 96 = .ok (.istore 8, 2) := by decide +kernel
theorem dX11_turning_98 : decode cX11_turning 98 = .ok (.iload 8, 2) := by decide +kernel
theorem dX11_turning_100 : decode cX11_turning 100 = .ok (.iload_n 3, 1) := by decide +kernel
theorem dX11_turning_101 : decode cX11_turning 101 = .ok (.if_icmp .le 14, 3) := by decide +kernel
theorem dX11_turning_104 : decode cX11_turning 104 = .ok (.iload 8, 2) := by decide +kernel
theorem dX11_turning_106 : decode cX11_turning 106 = .ok (.istore_n 3, 1) := by decide +kernel
theorem dX11_turning_107 : decode cX11_turning 107 = .ok (.iload 6, 2) := by decide +kernel
theorem dX11_turning_109 : decode cX11_turning 109 = .ok (.istore 4, 2) := by decide +kernel
theorem dX11_turning_111 : decode cX11_turning 111 = .ok (.iload 7, 2) := by decide +kernel
theorem dX11_turning_113 : decode cX11_turning 113 = .ok (.istore 5, 2) := by decide +kernel
theorem dX11_turning_115 : decode cX11_turning 115 = .ok (.iinc 7 1, 3) := by decide +kernel
theorem dX11_turning_118 : decode cX11_turning 118 = .ok (.goto (-57), 3) := by decide +kernel
theorem dX11_turning_121 : decode cX11_turning 121 = .ok (.iinc 6 1, 3) := by decide +kernel
theorem dX11_turning_124 : decode cX11_turning 124 = .ok (.goto (-78), 3) := by decide +kernel
theorem dX11_turning_127 : decode cX11_turning 127 = .ok (.iload_n 2, 1) := by decide +kernel
theorem dX11_turning_128 : decode cX11_turning 128 = .ok (.ifCond .ne 6, 3) := by decide +kernel
theorem dX11_turning_131 : decode cX11_turning 131 = .ok (.iload 4, 2) := by decide +kernel
theorem dX11_turning_133 : decode cX11_turning 133 = .ok (.ireturn, 1) := by decide +kernel
theorem dX11_turning_134 : decode cX11_turning 134 = .ok (.iload_n 2, 1) := by decide +kernel
theorem dX11_turning_135 : decode cX11_turning 135 = .ok (.iconst 1, 1) := by decide +kernel
theorem dX11_turning_136 : decode cX11_turning 136 = .ok (.if_icmp .ne 8, 3) := by decide +kernel
theorem dX11_turning_139 : decode cX11_turning 139 = .ok (.iload 5, 2) := by decide +kernel
theorem dX11_turning_141 : decode cX11_turning 141 = .ok (.goto 4, 3) := by decide +kernel
theorem dX11_turning_144 : decode cX11_turning 144 = .ok (.iload_n 3, 1) := by decide +kernel
theorem dX11_turning_145 : decode cX11_turning 145 = .ok (.ireturn, 1) := by decide +kernel
theorem dX11_cross_0 : decode cX11_cross 0 = .ok (.aload_n 0, 1) := by decide +kernel
theorem dX11_cross_1 : decode cX11_cross 1 = .ok (.getfield 26, 3) := by decide +kernel
theorem dX11_cross_4 : decode cX11_cross 4 = .ok (.getfield 176, 3) := by decide +kernel
theorem dX11_cross_7 : decode cX11_cross 7 = .ok (.ifCond .ne 6, 3) := by decide +kernel
theorem dX11_cross_10 : decode cX11_cross 10 = .ok (.ldc 180, 2) := by decide +kernel
theorem dX11_cross_12 : decode cX11_cross 12 = .ok (.ireturn, 1) := by decide +kernel
theorem dX11_cross_13 : decode cX11_cross 13 = .ok (.iload_n 1, 1) := by decide +kernel
theorem dX11_cross_14 : decode cX11_cross 14 = .ok (.iconst 0, 1) := by decide +kernel
theorem dX11_cross_15 : decode cX11_cross 15 = .ok (.iconst 2, 1) := by decide +kernel
theorem dX11_cross_16 : decode cX11_cross 16 = .ok (.invokestatic 109, 3) := by decide +kernel
theorem dX11_cross_19 : decode cX11_cross 19 = .ok (.ifCond .ne 6, 3) := by decide +kernel
theorem dX11_cross_22 : decode cX11_cross 22 = .ok (.ldc 113, 2) := by decide +kernel
theorem dX11_cross_24 : decode cX11_cross 24 = .ok (.ireturn, 1) := by decide +kernel
theorem dX11_cross_25 : decode cX11_cross 25 = .ok (.iconst 0, 1) := by decide +kernel
theorem dX11_cross_26 : decode cX11_cross 26 = .ok (.istore_n 2, 1) := by decide +kernel
theorem dX11_cross_27 : decode cX11_cross 27 = .ok (.ldc 237, 2) := by decide +kernel
theorem dX11_cross_29 : decode cX11_cross 29 = .ok (.istore_n 3, 1) := by decide +kernel
theorem dX11_cross_30 : decode cX11_cross 30 = .ok (.ldc 237, 2) := by decide +kernel
theorem dX11_cross_32 : decode cX11_cross 32 = .ok (.istore 4, 2) := by decide +kernel
theorem dX11_cross_34 : decode cX11_cross 34 = .ok (.iconst 0, 1) := by decide +kernel
theorem dX11_cross_35 : decode cX11_cross 35 = .ok (.istore 5, 2) := by decide +kernel
theorem dX11_cross_37 : decode cX11_cross 37 = .ok (.iload 5, 2) := by decide +kernel
theorem dX11_cross_39 : decode cX11_cross 39 = .ok (.aload_n 0, 1) := by decide +kernel
theorem dX11_cross_40 : decode cX11_cross 40 = .ok (.getfield 26, 3) := by decide +kernel
theorem dX11_cross_43 : decode cX11_cross 43 = .ok (.getfield 173, 3) := by decide +kernel
theorem dX11_cross_46 : decode cX11_cross 46 = .ok (.if_icmp .ge 76, 3) := by decide +kernel
theorem dX11_cross_49 : decode cX11_cross 49 = .ok (.iload 5, 2) := by decide +kernel
theorem dX11_cross_51 : decode cX11_cross 51 = .ok (.iconst 1, 1) := by decide +kernel
theorem dX11_cross_52 : decode cX11_cross 52 = .ok (.iadd, 1) := by decide +kernel
theorem dX11_cross_53 : decode cX11_cross 53 = .ok (.istore 6, 2) := by decide +kernel
theorem dX11_cross_55 : decode cX11_cross 55 = .ok (.iload 6, 2) := by decide +kernel
theorem dX11_cross_57 : decode cX11_cross 57 = .ok (.aload_n 0, 1) := by decide +kernel
theorem dX11_cross_58 : decode cX11_cross 58 = .ok (.getfield 26, 3) := by decide +kernel
theorem dX11_cross_61 : decode cX11_cross 61 = .ok (.getfield 173, 3) := by decide +kernel
theorem dX11_cross_64 : decode cX11_cross 64 = .ok (.if_icmp .ge 52, 3) := by decide +kernel
theorem dX11_cross_67 : decode cX11_cross 67 = .ok (.aload_n 0, 1) := by decide +kernel
theorem dX11_cross_68 : decode cX11_cross 68 = .ok (.getfield 26, 3) := by decide +kernel
theorem dX11_cross_71 : decode cX11_cross 71 = .ok (.iload 5, 2) := by decide +kernel
theorem dX11_cross_73 : decode cX11_cross 73 = .ok (.iload 6, 2) := by decide +kernel
theorem dX11_cross_75 : decode cX11_cross 75 = .ok (.invokevirtual 271, 3) := by decide +kernel
theorem dX11_cross_78 : decode cX11_cross 78 = .ok (.istore 7, 2) := by decide +kernel
theorem dX11_cross_80 : decode cX11_cross 80 = .ok (.iload 7, 2) := by decide +kernel
theorem dX11_cross_82 : decode cX11_cross 82 = .ok (.ifCond .le 20, 3) := by decide +kernel
theorem dX11_cross_85 : decode cX11_cross 85 = .ok (.iload_n 2, 1) := by decide +kernel
theorem dX11_cross_86 : decode cX11_cross 86 = .ok (.ifCond .ne 16, 3) := by decide +kernel
theorem dX11_cross_89 : decode cX11_cross 89 = .ok (.bipush 10, 2) := by decide +kernel
theorem dX11_cross_91 : decode cX11_cross 91 = .ok (.iload 5, 2) := by decide +kernel
theorem dX11_cross_93 : decode cX11_cross 93 = .ok (.imul, 1) := by decide +kernel
theorem dX11_cross_94 : decode cX11_cross 94 = .ok (.iload 6, 2) := by decide +kernel
theorem dX11_cross_96 : decode cX11_cross 96 = .ok (.iadd, 1) := by decide +kernel
theorem dX11_cross_97 : decode cX11_cross 97 = .ok (.istore_n 3, 1) := by decide +kernel
theorem dX11_cross_98 : decode cX11_cross 98 = .ok (.iload 7, 2) := by decide +kernel
theorem dX11_cross_100 : decode cX11_cross 100 = .ok (.istore 4, 2) := by decide +kernel
theorem dX11_cross_102 : decode cX11_cross 102 = .ok (.iload 7, 2) := by decide +kernel
theorem dX11_cross_104 : decode cX11_cross 104 = .ok (.ifCond .le 6, 3) := by decide +kernel
theorem dX11_cross_107 : decode cX11_cross 107 = .ok (.iinc 2 1, 3) := by decide +kernel
theorem dX11_cross_110 : decode cX11_cross 110 = .ok (.iinc 6 1, 3) := by decide +kernel
theorem dX11_cross_113 : decode cX11_cross 113 = .ok (.goto (-58), 3) := by decide +kernel
theorem dX11_cross_116 : decode cX11_cross 116 = .ok (.iinc 5 1, 3) := by decide +kernel
theorem dX11_cross_119 : decode cX11_cross 119 = .ok (.goto (-82), 3) := by decide +kernel
theorem dX11_cross_122 : decode cX11_cross 122 = .ok (.iload_n 1, 1) := by decide +kernel
theorem dX11_cross_123 : decode cX11_cross 123 = .ok (.ifCond .ne 5, 3) := by decide +kernel
theorem dX11_cross_126 : decode cX11_cross 126 = .ok (.iload_n 2, 1) := by decide +kernel
theorem dX11_cross_127 : decode cX11_cross 127 = .ok (.ireturn, 1) := by decide +kernel
theorem dX11_cross_128 : decode cX11_cross 128 = .ok (.iload_n 1, 1) := by decide +kernel
theorem dX11_cross_129 : decode cX11_cross 129 = .ok (.iconst 1, 1) := by decide +kernel
theorem dX11_cross_130 : decode cX11_cross 130 = .ok (.if_icmp .ne 7, 3) := by decide +kernel
theorem dX11_cross_133 : decode cX11_cross 133 = .ok (.iload_n 3, 1) := by decide +kernel
theorem dX11_cross_134 : decode cX11_cross 134 = .ok (.goto 5, 3) := by decide +kernel
theorem dX11_cross_137 : decode cX11_cross 137 = .ok (.iload 4, 2) := by decide +kernel
theorem dX11_cross_139 : decode cX11_cross 139 = .ok (.ireturn, 1) := by decide +kernel
theorem dX11_fits_0 : decode cX11_fits 0 = .ok (.aload_n 0, 1) := by decide +kernel
theorem dX11_fits_1 : decode cX11_fits 1 = .ok (.iload_n 1, 1) := by decide +kernel
theorem dX11_fits_2 : decode cX11_fits 2 = .ok (.invokevirtual 197, 3) := by decide +kernel
theorem dX11_fits_5 : decode cX11_fits 5 = .ok (.ifCond .eq 31, 3) := by decide +kernel
theorem dX11_fits_8 : decode cX11_fits 8 = .ok (.iload_n 2, 1) := by decide +kernel
theorem dX11_fits_9 : decode cX11_fits 9 = .ok (.invokestatic 105, 3) := by decide +kernel
theorem dX11_fits_12 : decode cX11_fits 12 = .ok (.ifCond .eq 24, 3) := by decide +kernel
theorem dX11_fits_15 : decode cX11_fits 15 = .ok (.iload 4, 2) := by decide +kernel
theorem dX11_fits_17 : decode cX11_fits 17 = .ok (.iconst 1, 1) := by decide +kernel
theorem dX11_fits_18 : decode cX11_fits 18 = .ok (.bipush 16, 2) := by decide +kernel
theorem dX11_fits_20 : decode cX11_fits 20 = .ok (.invokestatic 109, 3) := by decide +kernel
theorem dX11_fits_23 : decode cX11_fits 23 = .ok (.ifCond .eq 13, 3) := by decide +kernel
theorem dX11_fits_26 : decode cX11_fits 26 = .ok (.iload 5, 2) := by decide +kernel
theorem dX11_fits_28 : decode cX11_fits 28 = .ok (.iconst 0, 1) := by decide +kernel
theorem dX11_fits_29 : decode cX11_fits 29 = .ok (.iconst 3, 1) := by decide +kernel
theorem dX11_fits_30 : decode cX11_fits 30 = .ok (.invokestatic 109, 3) := by decide +kernel
theorem dX11_fits_33 : decode cX11_fits 33 = .ok (.ifCond .ne 6, 3) := by decide +kernel
theorem dX11_fits_36 : decode cX11_fits 36 = .ok (.ldc 113, 2) := by decide +kernel
theorem dX11_fits_38 : decode cX11_fits 38 = .ok (.ireturn, 1) := by decide +kernel
theorem dX11_fits_39 : decode cX11_fits 39 = .ok (.aload_n 0, 1) := by decide +kernel
theorem dX11_fits_40 : decode cX11_fits 40 = .ok (.getfield 12, 3) := by decide +kernel
theorem dX11_fits_43 : decode cX11_fits 43 = .ok (.iload_n 2, 1) := by decide +kernel
theorem dX11_fits_44 : decode cX11_fits 44 = .ok (.invokevirtual 125, 3) := by decide +kernel
theorem dX11_fits_47 : decode cX11_fits 47 = .ok (.ifCond .eq 9, 3) := by decide +kernel
theorem dX11_fits_50 : decode cX11_fits 50 = .ok (.aload_n 0, 1) := by decide +kernel
theorem dX11_fits_51 : decode cX11_fits 51 = .ok (.iconst 1, 1) := by decide +kernel
theorem dX11_fits_52 : decode cX11_fits 52 = .ok (.invokevirtual 114, 3) := by decide +kernel
theorem dX11_fits_55 : decode cX11_fits 55 = .ok (.ireturn, 1) := by decide +kernel
theorem dX11_fits_56 : decode cX11_fits 56 = .ok (.aload_n 0, 1) := by decide +kernel
theorem dX11_fits_57 : decode cX11_fits 57 = .ok (.getfield 12, 3) := by decide +kernel
theorem dX11_fits_60 : decode cX11_fits 60 = .ok (.iload_n 2, 1) := by decide +kernel
theorem dX11_fits_61 : decode cX11_fits 61 = .ok (.iload_n 3, 1) := by decide +kernel
theorem dX11_fits_62 : decode cX11_fits 62 = .ok (.iload 4, 2) := by decide +kernel
theorem dX11_fits_64 : decode cX11_fits 64 = .ok (.invokevirtual 128, 3) := by decide +kernel
theorem dX11_fits_67 : decode cX11_fits 67 = .ok (.ifCond .ne 9, 3) := by decide +kernel
theorem dX11_fits_70 : decode cX11_fits 70 = .ok (.aload_n 0, 1) := by decide +kernel
theorem dX11_fits_71 : decode cX11_fits 71 = .ok (.iconst 2, 1) := by decide +kernel
theorem dX11_fits_72 : decode cX11_fits 72 = .ok (.invokevirtual 114, 3) := by decide +kernel
theorem dX11_fits_75 : decode cX11_fits 75 = .ok (.ireturn, 1) := by decide +kernel
theorem dX11_fits_76 : decode cX11_fits 76 = .ok (.iconst 0, 1) := by decide +kernel
theorem dX11_fits_77 : decode cX11_fits 77 = .ok (.istore 6, 2) := by decide +kernel
theorem dX11_fits_79 : decode cX11_fits 79 = .ok (.getstatic 274, 3) := by decide +kernel
theorem dX11_fits_82 : decode cX11_fits 82 = .ok (.iload 5, 2) := by decide +kernel
theorem dX11_fits_84 : decode cX11_fits 84 = .ok (.iaload, 1) := by decide +kernel
theorem dX11_fits_85 : decode cX11_fits 85 = .ok (.istore 7, 2) := by decide +kernel
theorem dX11_fits_87 : decode cX11_fits 87 = .ok (.iload 7, 2) := by decide +kernel
theorem dX11_fits_89 : decode cX11_fits 89 = .ok (.getstatic 277, 3) := by decide +kernel
theorem dX11_fits_92 : decode cX11_fits 92 = .ok (.iload 5, 2) := by decide +kernel
theorem dX11_fits_94 : decode cX11_fits 94 = .ok (.iaload, 1) := by decide +kernel
theorem dX11_fits_95 : decode cX11_fits 95 = .ok (.if_icmp .gt 52, 3) := by decide +kernel
theorem dX11_fits_98 : decode cX11_fits 98 = .ok (.aload_n 0, 1) := by decide +kernel
theorem dX11_fits_99 : decode cX11_fits 99 = .ok (.getfield 30, 3) := by decide +kernel
theorem dX11_fits_102 : decode cX11_fits 102 = .ok (.aload_n 0, 1) := by decide +kernel
theorem dX11_fits_103 : decode cX11_fits 103 = .ok (.getfield 26, 3) := by decide +kernel
theorem dX11_fits_106 : decode cX11_fits 106 = .ok (.invokevirtual 166, 3) := by decide +kernel
theorem dX11_fits_109 : decode cX11_fits 109 = .ok (.aload_n 0, 1) := by decide +kernel
theorem dX11_fits_110 : decode cX11_fits 110 = .ok (.getfield 30, 3) := by decide +kernel
theorem dX11_fits_113 : decode cX11_fits 113 = .ok (.iload_n 1, 1) := by decide +kernel
theorem dX11_fits_114 : decode cX11_fits 114 = .ok (.iload 5, 2) := by decide +kernel
theorem dX11_fits_116 : decode cX11_fits 116 = .ok (.iload 7, 2) := by decide +kernel
theorem dX11_fits_118 : decode cX11_fits 118 = .ok (.invokevirtual 280, 3) := by decide +kernel
theorem dX11_fits_121 : decode cX11_fits 121 = .ok (.aload_n 0, 1) := by decide +kernel
theorem dX11_fits_122 : decode cX11_fits 122 = .ok (.iload_n 2, 1) := by decide +kernel
theorem dX11_fits_123 : decode cX11_fits 123 = .ok (.iload_n 3, 1) := by decide +kernel
theorem dX11_fits_124 : decode cX11_fits 124 = .ok (.iload 4, 2) := by decide +kernel
theorem dX11_fits_126 : decode cX11_fits 126 = .ok (.invokevirtual 283, 3) := by decide +kernel
theorem dX11_fits_129 : decode cX11_fits 129 = .ok (.ifCond .eq 12, 3) := by decide +kernel
theorem dX11_fits_132 : decode cX11_fits 132 = .ok (.iload 6, 2) := by decide +kernel
theorem dX11_fits_134 : decode cX11_fits 134 = .ok (.iconst 1, 1) := by decide +kernel
theorem dX11_fits_135 : decode cX11_fits 135 = .ok (.iload 7, 2) := by decide +kernel
theorem dX11_fits_137 : decode cX11_fits 137 = .ok (.ishl, 1) := by decide +kernel
theorem dX11_fits_138 : decode cX11_fits 138 = .ok (.ior, 1) := by decide +kernel
theorem dX11_fits_139 : decode cX11_fits 139 = .ok (.istore 6, 2) := by decide +kernel
theorem dX11_fits_141 : decode cX11_fits 141 = .ok (.iinc 7 1, 3) := by decide +kernel
theorem dX11_fits_144 : decode cX11_fits 144 = .ok (.goto (-57), 3) := by decide +kernel
theorem dX11_fits_147 : decode cX11_fits 147 = .ok (.aload_n 0, 1) := by decide +kernel
theorem dX11_fits_148 : decode cX11_fits 148 = .ok (.iload 6, 2) := by decide +kernel
theorem dX11_fits_150 : decode cX11_fits 150 = .ok (.invokevirtual 122, 3) := by decide +kernel
theorem dX11_fits_153 : decode cX11_fits 153 = .ok (.ireturn, 1) := by decide +kernel
theorem dX11_fire_0 : decode cX11_fire 0 = .ok (.aload_n 0, 1) := by decide +kernel
theorem dX11_fire_1 : decode cX11_fire 1 = .ok (.getfield 26, 3) := by decide +kernel
theorem dX11_fire_4 : decode cX11_fire 4 = .ok (.getfield 176, 3) := by decide +kernel
theorem dX11_fire_7 : decode cX11_fire 7 = .ok (.ifCond .ne 6, 3) := by decide +kernel
theorem dX11_fire_10 : decode cX11_fire 10 = .ok (.ldc 180, 2) := by decide +kernel
theorem dX11_fire_12 : decode cX11_fire 12 = .ok (.ireturn, 1) := by decide +kernel
theorem dX11_fire_13 : decode cX11_fire 13 = .ok (.iload_n 1, 1) := by decide +kernel
theorem dX11_fire_14 : decode cX11_fire 14 = .ok (.iconst 0, 1) := by decide +kernel
theorem dX11_fire_15 : decode cX11_fire 15 = .ok (.sipush 200, 3) := by decide +kernel
theorem dX11_fire_18 : decode cX11_fire 18 = .ok (.invokestatic 109, 3) := by decide +kernel
theorem dX11_fire_21 : decode cX11_fire 21 = .ok (.ifCond .eq 22, 3) := by decide +kernel
theorem dX11_fire_24 : decode cX11_fire 24 = .ok (.iload_n 2, 1) := by decide +kernel
theorem dX11_fire_25 : decode cX11_fire 25 = .ok (.iconst 0, 1) := by decide +kernel
theorem dX11_fire_26 : decode cX11_fire 26 = .ok (.bipush 10, 2) := by decide +kernel
theorem dX11_fire_28 : decode cX11_fire 28 = .ok (.invokestatic 109, 3) := by decide +kernel
theorem dX11_fire_31 : decode cX11_fire 31 = .ok (.ifCond .eq 12, 3) := by decide +kernel
theorem dX11_fire_34 : decode cX11_fire 34 = .ok (.iload_n 3, 1) := by decide +kernel
theorem dX11_fire_35 : decode cX11_fire 35 = .ok (.iconst 0, 1) := by decide +kernel
theorem dX11_fire_36 : decode cX11_fire 36 = .ok (.iconst 1, 1) := by decide +kernel
theorem dX11_fire_37 : decode cX11_fire 37 = .ok (.invokestatic 109, 3) := by decide +kernel
theorem dX11_fire_40 : decode cX11_fire 40 = .ok (.ifCond .ne 6, 3) := by decide +kernel
theorem dX11_fire_43 : decode cX11_fire 43 = .ok (.ldc 113, 2) := by decide +kernel
theorem dX11_fire_45 : decode cX11_fire 45 = .ok (.ireturn, 1) := by decide +kernel
theorem dX11_fire_46 : decode cX11_fire 46 = .ok (.iconst 0, 1) := by decide +kernel
theorem dX11_fire_47 : decode cX11_fire 47 = .ok (.istore 4, 2) := by decide +kernel
theorem dX11_fire_49 : decode cX11_fire 49 = .ok (.iconst 1, 1) := by decide +kernel
theorem dX11_fire_50 : decode cX11_fire 50 = .ok (.istore 5, 2) := by decide +kernel
theorem dX11_fire_52 : decode cX11_fire 52 = .ok (.iconst 0, 1) := by decide +kernel
theorem dX11_fire_53 : decode cX11_fire 53 = .ok (.istore 6, 2) := by decide +kernel
theorem dX11_fire_55 : decode cX11_fire 55 = .ok (.iload 6, 2) := by decide +kernel
theorem dX11_fire_57 : decode cX11_fire 57 = .ok (.aload_n 0, 1) := by decide +kernel
theorem dX11_fire_58 : decode cX11_fire 58 = .ok (.getfield 26, 3) := by decide +kernel
theorem dX11_fire_61 : decode cX11_fire 61 = .ok (.getfield 173, 3) := by decide +kernel
theorem dX11_fire_64 : decode cX11_fire 64 = .ok (.if_icmp .ge 16, 3) := by decide +kernel
theorem dX11_fire_67 : decode cX11_fire 67 = .ok (.iload 5, 2) := by decide +kernel
theorem dX11_fire_69 : decode cX11_fire 69 = .ok (.bipush 10, 2) := by decide +kernel
theorem dX11_fire_71 : decode cX11_fire 71 = .ok (.imul, 1) := by decide +kernel
theorem dX11_fire_72 : decode cX11_fire 72 = .ok (.istore 5, 2) := by decide +kernel
theorem dX11_fire_74 : decode cX11_fire 74 = .ok (.iinc 6 1, 3) := by decide +kernel
theorem dX11_fire_77 : decode cX11_fire 77 = .ok (.goto (-22), 3) := by decide +kernel
theorem dX11_fire_80 : decode cX11_fire 80 = .ok (.iconst 0, 1) := by decide +kernel
theorem dX11_fire_81 : decode cX11_fire 81 = .ok (.istore 6, 2) := by decide +kernel
theorem dX11_fire_83 : decode cX11_fire 83 = .ok (.iload 6, 2) := by decide +kernel
theorem dX11_fire_85 : decode cX11_fire 85 = .ok (.iconst 1, 1) := by decide +kernel
theorem dX11_fire_86 : decode cX11_fire 86 = .ok (.aload_n 0, 1) := by decide +kernel
theorem dX11_fire_87 : decode cX11_fire 87 = .ok (.getfield 26, 3) := by decide +kernel
theorem dX11_fire_90 : decode cX11_fire 90 = .ok (.getfield 173, 3) := by decide +kernel
theorem dX11_fire_93 : decode cX11_fire 93 = .ok (.ishl, 1) := by decide +kernel
theorem dX11_fire_94 : decode cX11_fire 94 = .ok (.if_icmp .ge 31, 3) := by decide +kernel
theorem dX11_fire_97 : decode cX11_fire 97 = .ok (.aload_n 0, 1) := by decide +kernel
theorem dX11_fire_98 : decode cX11_fire 98 = .ok (.iload 6, 2) := by decide +kernel
theorem dX11_fire_100 : decode cX11_fire 100 = .ok (.invokevirtual 286, 3) := by decide +kernel
theorem dX11_fire_103 : decode cX11_fire 103 = .ok (.iload_n 1, 1) := by decide +kernel
theorem dX11_fire_104 : decode cX11_fire 104 = .ok (.if_icmp .lt 15, 3) := by decide +kernel
theorem dX11_fire_107 : decode cX11_fire 107 = .ok (.iload 4, 2) := by decide +kernel
theorem dX11_fire_109 : decode cX11_fire 109 = .ok (.aload_n 0, 1) := by decide +kernel
theorem dX11_fire_110 : decode cX11_fire 110 = .ok (.iload 6, 2) := by decide +kernel
theorem dX11_fire_112 : decode cX11_fire 112 = .ok (.iload_n 2, 1) := by decide +kernel
theorem dX11_fire_113 : decode cX11_fire 113 = .ok (.invokevirtual 289, 3) := by decide +kernel
theorem dX11_fire_116 : decode cX11_fire 116 = .ok (.iadd, 1) := by decide +kernel
theorem dX11_fire_117 : decode cX11_fire 117 = .ok (.istore 4, 2) := by decide +kernel
theorem dX11_fire_119 : decode cX11_fire 119 = .ok (.iinc 6 1, 3) := by decide +kernel
theorem dX11_fire_122 : decode cX11_fire 122 = .ok (.goto (-39), 3) := by decide +kernel
theorem dX11_fire_125 : decode cX11_fire 125 = .ok (.iload_n 3, 1) := by decide +kernel
theorem dX11_fire_126 : decode cX11_fire 126 = .ok (.ifCond .ne 8, 3) := by decide +kernel
theorem dX11_fire_129 : decode cX11_fire 129 = .ok (.iload 4, 2) := by decide +kernel
theorem dX11_fire_131 : decode cX11_fire 131 = .ok (.goto 5, 3) := by decide +kernel
theorem dX11_fire_134 : decode cX11_fire 134 = .ok (.iload 5, 2) := by decide +kernel
theorem dX11_fire_136 : decode cX11_fire 136 = .ok (.istore 6, 2) := by decide +kernel
theorem dX11_fire_138 : decode cX11_fire 138 = .ok (.iload 4, 2) := by decide +kernel
theorem dX11_fire_140 : decode cX11_fire 140 = .ok (.iload 5, 2) := by decide +kernel
theorem dX11_fire_142 : decode cX11_fire 142 = .ok (.invokestatic 292, 3) := by decide +kernel
theorem dX11_fire_145 : decode cX11_fire 145 = .ok (.istore 7, 2) := by decide +kernel
theorem dX11_fire_147 : decode cX11_fire 147 = .ok (.iload 7, 2) := by decide +kernel
theorem dX11_fire_149 : decode cX11_fire 149 = .ok (.ifCond .ne 8, 3) := by decide +kernel
theorem dX11_fire_152 : decode cX11_fire 152 = .ok (.iload 6, 2) := by decide +kernel
theorem dX11_fire_154 : decode cX11_fire 154 = .ok (.goto 8, 3) := by decide +kernel
theorem dX11_fire_157 : decode cX11_fire 157 = .ok (.iload 6, 2) := by decide +kernel
theorem dX11_fire_159 : decode cX11_fire 159 = .ok (.iload 7, 2) := by decide +kernel
theorem dX11_fire_161 : decode cX11_fire 161 = .ok (.idiv, 1) := by decide +kernel
theorem dX11_fire_162 : decode cX11_fire 162 = .ok (.ireturn, 1) := by decide +kernel
theorem dX11_drawn_0 : decode cX11_drawn 0 = .ok (.aload_n 0, 1) := by decide +kernel
theorem dX11_drawn_1 : decode cX11_drawn 1 = .ok (.getfield 26, 3) := by decide +kernel
theorem dX11_drawn_4 : decode cX11_drawn 4 = .ok (.getfield 176, 3) := by decide +kernel
theorem dX11_drawn_7 : decode cX11_drawn 7 = .ok (.ifCond .ne 6, 3) := by decide +kernel
theorem dX11_drawn_10 : decode cX11_drawn 10 = .ok (.ldc 180, 2) := by decide +kernel
theorem dX11_drawn_12 : decode cX11_drawn 12 = .ok (.ireturn, 1) := by decide +kernel
theorem dX11_drawn_13 : decode cX11_drawn 13 = .ok (.iload_n 1, 1) := by decide +kernel
theorem dX11_drawn_14 : decode cX11_drawn 14 = .ok (.iconst 0, 1) := by decide +kernel
theorem dX11_drawn_15 : decode cX11_drawn 15 = .ok (.bipush 60, 2) := by decide +kernel
theorem dX11_drawn_17 : decode cX11_drawn 17 = .ok (.invokestatic 109, 3) := by decide +kernel
theorem dX11_drawn_20 : decode cX11_drawn 20 = .ok (.ifCond .eq 23, 3) := by decide +kernel
theorem dX11_drawn_23 : decode cX11_drawn 23 = .ok (.iload_n 2, 1) := by decide +kernel
theorem dX11_drawn_24 : decode cX11_drawn 24 = .ok (.iconst 1, 1) := by decide +kernel
theorem dX11_drawn_25 : decode cX11_drawn 25 = .ok (.ldc_w 295, 3) := by decide +kernel
theorem dX11_drawn_28 : decode cX11_drawn 28 = .ok (.invokestatic 109, 3) := by decide +kernel
theorem dX11_drawn_31 : decode cX11_drawn 31 = .ok (.ifCond .eq 12, 3) := by decide +kernel
theorem dX11_drawn_34 : decode cX11_drawn 34 = .ok (.iload_n 3, 1) := by decide +kernel
theorem dX11_drawn_35 : decode cX11_drawn 35 = .ok (.iconst 0, 1) := by decide +kernel
theorem dX11_drawn_36 : decode cX11_drawn 36 = .ok (.iconst 1, 1) := by decide +kernel
theorem dX11_drawn_37 : decode cX11_drawn 37 = .ok (.invokestatic 109, 3) := by decide +kernel
theorem dX11_drawn_40 : decode cX11_drawn 40 = .ok (.ifCond .ne 6, 3) := by decide +kernel
theorem dX11_drawn_43 : decode cX11_drawn 43 = .ok (.ldc 113, 2) := by decide +kernel
theorem dX11_drawn_45 : decode cX11_drawn 45 = .ok (.ireturn, 1) := by decide +kernel
theorem dX11_drawn_46 : decode cX11_drawn 46 = .ok (.aload_n 0, 1) := by decide +kernel
theorem dX11_drawn_47 : decode cX11_drawn 47 = .ok (.getfield 30, 3) := by decide +kernel
theorem dX11_drawn_50 : decode cX11_drawn 50 = .ok (.aload_n 0, 1) := by decide +kernel
theorem dX11_drawn_51 : decode cX11_drawn 51 = .ok (.getfield 26, 3) := by decide +kernel
theorem dX11_drawn_54 : decode cX11_drawn 54 = .ok (.invokevirtual 166, 3) := by decide +kernel
theorem dX11_drawn_57 : decode cX11_drawn 57 = .ok (.iload_n 2, 1) := by decide +kernel
theorem dX11_drawn_58 : decode cX11_drawn 58 = .ok (.i2l, 1) := by decide +kernel
theorem dX11_drawn_59 : decode cX11_drawn 59 = .ok (.lstore 4, 2) := by decide +kernel
theorem dX11_drawn_61 : decode cX11_drawn 61 = .ok (.iconst 0, 1) := by decide +kernel
theorem dX11_drawn_62 : decode cX11_drawn 62 = .ok (.istore 6, 2) := by decide +kernel
theorem dX11_drawn_64 : decode cX11_drawn 64 = .ok (.iload 6, 2) := by decide +kernel
theorem dX11_drawn_66 : decode cX11_drawn 66 = .ok (.iload_n 1, 1) := by decide +kernel
theorem dX11_drawn_67 : decode cX11_drawn 67 = .ok (.if_icmp .ge 52, 3) := by decide +kernel
theorem dX11_drawn_70 : decode cX11_drawn 70 = .ok (.lload 4, 2) := by decide +kernel
theorem dX11_drawn_72 : decode cX11_drawn 72 = .ok (.ldc2_w 296, 3) := by decide +kernel
theorem dX11_drawn_75 : decode cX11_drawn 75 = .ok (.lmul, 1) := by decide +kernel
theorem dX11_drawn_76 : decode cX11_drawn 76 = .ok (.ldc2_w 298, 3) := by decide +kernel
theorem dX11_drawn_79 : decode cX11_drawn 79 = .ok (.lrem, 1) := by decide +kernel
theorem dX11_drawn_80 : decode cX11_drawn 80 = .ok (.lstore 4, 2) := by decide +kernel
theorem dX11_drawn_82 : decode cX11_drawn 82 = .ok (.lload 4, 2) := by decide +kernel
theorem dX11_drawn_84 : decode cX11_drawn 84 = .ok (.ldc2_w 300, 3) := by decide +kernel
theorem dX11_drawn_87 : decode cX11_drawn 87 = .ok (.lrem, 1) := by decide +kernel
theorem dX11_drawn_88 : decode cX11_drawn 88 = .ok (.lconst 0, 1) := by decide +kernel
theorem dX11_drawn_89 : decode cX11_drawn 89 = .ok (.lcmp, 1) := by decide +kernel
theorem dX11_drawn_90 : decode cX11_drawn 90 = .ok (.ifCond .ne 9, 3) := by decide +kernel
theorem dX11_drawn_93 : decode cX11_drawn 93 = .ok (.aload_n 0, 1) := by decide +kernel
theorem dX11_drawn_94 : decode cX11_drawn 94 = .ok (.lload 4, 2) := by decide +kernel
theorem dX11_drawn_96 : decode cX11_drawn 96 = .ok (.invokevirtual 302, 3) := by decide +kernel
theorem dX11_drawn_99 : decode cX11_drawn 99 = .ok (.aload_n 0, 1) := by decide +kernel
theorem dX11_drawn_100 : decode cX11_drawn 100 = .ok (.getfield 30, 3) := by decide +kernel
theorem dX11_drawn_103 : decode cX11_drawn 103 = .ok (.lload 4, 2) := by decide +kernel
theorem dX11_drawn_105 : decode cX11_drawn 105 = .ok (.ldc2_w 306, 3) := by decide +kernel
theorem dX11_drawn_108 : decode cX11_drawn 108 = .ok (.lrem, 1) := by decide +kernel
theorem dX11_drawn_109 : decode cX11_drawn 109 = .ok (.l2i, 1) := by decide +kernel
theorem dX11_drawn_110 : decode cX11_drawn 110 = .ok (.invokevirtual 190, 3) := by decide +kernel
theorem dX11_drawn_113 : decode cX11_drawn 113 = .ok (.iinc 6 1, 3) := by decide +kernel
theorem dX11_drawn_116 : decode cX11_drawn 116 = .ok (.goto (-52), 3) := by decide +kernel
theorem dX11_drawn_119 : decode cX11_drawn 119 = .ok (.iload_n 3, 1) := by decide +kernel
theorem dX11_drawn_120 : decode cX11_drawn 120 = .ok (.ifCond .ne 13, 3) := by decide +kernel
theorem dX11_drawn_123 : decode cX11_drawn 123 = .ok (.aload_n 0, 1) := by decide +kernel
theorem dX11_drawn_124 : decode cX11_drawn 124 = .ok (.getfield 30, 3) := by decide +kernel
theorem dX11_drawn_127 : decode cX11_drawn 127 = .ok (.getfield 194, 3) := by decide +kernel
theorem dX11_drawn_130 : decode cX11_drawn 130 = .ok (.goto 10, 3) := by decide +kernel
theorem dX11_drawn_133 : decode cX11_drawn 133 = .ok (.aload_n 0, 1) := by decide +kernel
theorem dX11_drawn_134 : decode cX11_drawn 134 = .ok (.getfield 30, 3) := by decide +kernel
theorem dX11_drawn_137 : decode cX11_drawn 137 = .ok (.invokevirtual 308, 3) := by decide +kernel
theorem dX11_drawn_140 : decode cX11_drawn 140 = .ok (.ireturn, 1) := by decide +kernel
theorem dX11_image_0 : decode cX11_image 0 = .ok (.iload_n 1, 1) := by decide +kernel
theorem dX11_image_1 : decode cX11_image 1 = .ok (.iconst 0, 1) := by decide +kernel
theorem dX11_image_2 : decode cX11_image 2 = .ok (.iconst 1, 1) := by decide +kernel
theorem dX11_image_3 : decode cX11_image 3 = .ok (.invokestatic 109, 3) := by decide +kernel
theorem dX11_image_6 : decode cX11_image 6 = .ok (.ifCond .ne 6, 3) := by decide +kernel
theorem dX11_image_9 : decode cX11_image 9 = .ok (.ldc 113, 2) := by decide +kernel
theorem dX11_image_11 : decode cX11_image 11 = .ok (.ireturn, 1) := by decide +kernel
theorem dX11_image_12 : decode cX11_image 12 = .ok (.aload_n 0, 1) := by decide +kernel
theorem dX11_image_13 : decode cX11_image 13 = .ok (.getfield 26, 3) := by decide +kernel
theorem dX11_image_16 : decode cX11_image 16 = .ok (.getfield 176, 3) := by decide +kernel
theorem dX11_image_19 : decode cX11_image 19 = .ok (.ifCond .ne 6, 3) := by decide +kernel
theorem dX11_image_22 : decode cX11_image 22 = .ok (.ldc 180, 2) := by decide +kernel
theorem dX11_image_24 : decode cX11_image 24 = .ok (.ireturn, 1) := by decide +kernel
theorem dX11_image_25 : decode cX11_image 25 = .ok (.aload_n 0, 1) := by decide +kernel
theorem dX11_image_26 : decode cX11_image 26 = .ok (.iload_n 1, 1) := by decide +kernel
theorem dX11_image_27 : decode cX11_image 27 = .ok (.invokevirtual 311, 3) := by decide +kernel
theorem dX11_image_30 : decode cX11_image 30 = .ok (.aload_n 0, 1) := by decide +kernel
theorem dX11_image_31 : decode cX11_image 31 = .ok (.getfield 26, 3) := by decide +kernel
theorem dX11_image_34 : decode cX11_image 34 = .ok (.invokevirtual 166, 3) := by decide +kernel
theorem dX11_image_37 : decode cX11_image 37 = .ok (.iconst 1, 1) := by decide +kernel
theorem dX11_image_38 : decode cX11_image 38 = .ok (.ireturn, 1) := by decide +kernel
theorem dX11_restore_0 : decode cX11_restore 0 = .ok (.iload_n 1, 1) := by decide +kernel
theorem dX11_restore_1 : decode cX11_restore 1 = .ok (.iconst 0, 1) := by decide +kernel
theorem dX11_restore_2 : decode cX11_restore 2 = .ok (.iconst 1, 1) := by decide +kernel
theorem dX11_restore_3 : decode cX11_restore 3 = .ok (.invokestatic 109, 3) := by decide +kernel
theorem dX11_restore_6 : decode cX11_restore 6 = .ok (.ifCond .ne 6, 3) := by decide +kernel
theorem dX11_restore_9 : decode cX11_restore 9 = .ok (.ldc 113, 2) := by decide +kernel
theorem dX11_restore_11 : decode cX11_restore 11 = .ok (.ireturn, 1) := by decide +kernel
theorem dX11_restore_12 : decode cX11_restore 12 = .ok (.aload_n 0, 1) := by decide +kernel
theorem dX11_restore_13 : decode cX11_restore 13 = .ok (.iload_n 1, 1) := by decide +kernel
theorem dX11_restore_14 : decode cX11_restore 14 = .ok (.invokevirtual 311, 3) := by decide +kernel
theorem dX11_restore_17 : decode cX11_restore 17 = .ok (.astore_n 2, 1) := by decide +kernel
theorem dX11_restore_18 : decode cX11_restore 18 = .ok (.aload_n 2, 1) := by decide +kernel
theorem dX11_restore_19 : decode cX11_restore 19 = .ok (.getfield 176, 3) := by decide +kernel
theorem dX11_restore_22 : decode cX11_restore 22 = .ok (.ifCond .ne 6, 3) := by decide +kernel
theorem dX11_restore_25 : decode cX11_restore 25 = .ok (.ldc 180, 2) := by decide +kernel
theorem dX11_restore_27 : decode cX11_restore 27 = .ok (.ireturn, 1) := by decide +kernel
theorem dX11_restore_28 : decode cX11_restore 28 = .ok (.aload_n 0, 1) := by decide +kernel
theorem dX11_restore_29 : decode cX11_restore 29 = .ok (.getfield 26, 3) := by decide +kernel
theorem dX11_restore_32 : decode cX11_restore 32 = .ok (.aload_n 2, 1) := by decide +kernel
theorem dX11_restore_33 : decode cX11_restore 33 = .ok (.invokevirtual 166, 3) := by decide +kernel
theorem dX11_restore_36 : decode cX11_restore 36 = .ok (.aload_n 0, 1) := by decide +kernel
theorem dX11_restore_37 : decode cX11_restore 37 = .ok (.getfield 42, 3) := by decide +kernel
theorem dX11_restore_40 : decode cX11_restore 40 = .ok (.invokevirtual 170, 3) := by decide +kernel
theorem dX11_restore_43 : decode cX11_restore 43 = .ok (.iconst 1, 1) := by decide +kernel
theorem dX11_restore_44 : decode cX11_restore 44 = .ok (.ireturn, 1) := by decide +kernel
theorem dX11_kind_0 : decode cX11_kind 0 = .ok (.aload_n 0, 1) := by decide +kernel
theorem dX11_kind_1 : decode cX11_kind 1 = .ok (.iload_n 1, 1) := by decide +kernel
theorem dX11_kind_2 : decode cX11_kind 2 = .ok (.invokevirtual 197, 3) := by decide +kernel
theorem dX11_kind_5 : decode cX11_kind 5 = .ok (.ifCond .eq 15, 3) := by decide +kernel
theorem dX11_kind_8 : decode cX11_kind 8 = .ok (.aload_n 0, 1) := by decide +kernel
theorem dX11_kind_9 : decode cX11_kind 9 = .ok (.getfield 26, 3) := by decide +kernel
theorem dX11_kind_12 : decode cX11_kind 12 = .ok (.getfield 315, 3) := by decide +kernel
theorem dX11_kind_15 : decode cX11_kind 15 = .ok (.iload_n 1, 1) := by decide +kernel
theorem dX11_kind_16 : decode cX11_kind 16 = .ok (.iaload, 1) := by decide +kernel
theorem dX11_kind_17 : decode cX11_kind 17 = .ok (.goto 5, 3) := by decide +kernel
theorem dX11_kind_20 : decode cX11_kind 20 = .ok (.ldc 113, 2) := by decide +kernel
theorem dX11_kind_22 : decode cX11_kind 22 = .ok (.ireturn, 1) := by decide +kernel
theorem dX11_as_0 : decode cX11_as 0 = .ok (.aload_n 0, 1) := by decide +kernel
theorem dX11_as_1 : decode cX11_as 1 = .ok (.iload_n 1, 1) := by decide +kernel
theorem dX11_as_2 : decode cX11_as 2 = .ok (.invokevirtual 197, 3) := by decide +kernel
theorem dX11_as_5 : decode cX11_as 5 = .ok (.ifCond .eq 12, 3) := by decide +kernel
theorem dX11_as_8 : decode cX11_as 8 = .ok (.iload_n 2, 1) := by decide +kernel
theorem dX11_as_9 : decode cX11_as 9 = .ok (.iconst 0, 1) := by decide +kernel
theorem dX11_as_10 : decode cX11_as 10 = .ok (.iconst 5, 1) := by decide +kernel
theorem dX11_as_11 : decode cX11_as 11 = .ok (.invokestatic 109, 3) := by decide +kernel
theorem dX11_as_14 : decode cX11_as 14 = .ok (.ifCond .ne 6, 3) := by decide +kernel
theorem dX11_as_17 : decode cX11_as 17 = .ok (.ldc 113, 2) := by decide +kernel
theorem dX11_as_19 : decode cX11_as 19 = .ok (.ireturn, 1) := by decide +kernel
theorem dX11_as_20 : decode cX11_as 20 = .ok (.aload_n 0, 1) := by decide +kernel
theorem dX11_as_21 : decode cX11_as 21 = .ok (.aload_n 0, 1) := by decide +kernel
theorem dX11_as_22 : decode cX11_as 22 = .ok (.getfield 26, 3) := by decide +kernel
theorem dX11_as_25 : decode cX11_as 25 = .ok (.getfield 315, 3) := by decide +kernel
theorem dX11_as_28 : decode cX11_as 28 = .ok (.iload_n 1, 1) := by decide +kernel
theorem dX11_as_29 : decode cX11_as 29 = .ok (.iaload, 1) := by decide +kernel
theorem dX11_as_30 : decode cX11_as 30 = .ok (.invokevirtual 318, 3) := by decide +kernel
theorem dX11_as_33 : decode cX11_as 33 = .ok (.iload_n 2, 1) := by decide +kernel
theorem dX11_as_34 : decode cX11_as 34 = .ok (.invokestatic 322, 3) := by decide +kernel
theorem dX11_as_37 : decode cX11_as 37 = .ok (.ifCond .ne 9, 3) := by decide +kernel
theorem dX11_as_40 : decode cX11_as 40 = .ok (.aload_n 0, 1) := by decide +kernel
theorem dX11_as_41 : decode cX11_as 41 = .ok (.iconst 3, 1) := by decide +kernel
theorem dX11_as_42 : decode cX11_as 42 = .ok (.invokevirtual 114, 3) := by decide +kernel
theorem dX11_as_45 : decode cX11_as 45 = .ok (.ireturn, 1) := by decide +kernel
theorem dX11_as_46 : decode cX11_as 46 = .ok (.aload_n 0, 1) := by decide +kernel
theorem dX11_as_47 : decode cX11_as 47 = .ok (.iload_n 1, 1) := by decide +kernel
theorem dX11_as_48 : decode cX11_as 48 = .ok (.invokevirtual 122, 3) := by decide +kernel
theorem dX11_as_51 : decode cX11_as 51 = .ok (.ireturn, 1) := by decide +kernel
theorem dX11_ask_0 : decode cX11_ask 0 = .ok (.aload_n 0, 1) := by decide +kernel
theorem dX11_ask_1 : decode cX11_ask 1 = .ok (.iload_n 1, 1) := by decide +kernel
theorem dX11_ask_2 : decode cX11_ask 2 = .ok (.invokevirtual 197, 3) := by decide +kernel
theorem dX11_ask_5 : decode cX11_ask 5 = .ok (.ifCond .eq 12, 3) := by decide +kernel
theorem dX11_ask_8 : decode cX11_ask 8 = .ok (.iload_n 2, 1) := by decide +kernel
theorem dX11_ask_9 : decode cX11_ask 9 = .ok (.iconst 0, 1) := by decide +kernel
theorem dX11_ask_10 : decode cX11_ask 10 = .ok (.iconst 1, 1) := by decide +kernel
theorem dX11_ask_11 : decode cX11_ask 11 = .ok (.invokestatic 109, 3) := by decide +kernel
theorem dX11_ask_14 : decode cX11_ask 14 = .ok (.ifCond .ne 6, 3) := by decide +kernel
theorem dX11_ask_17 : decode cX11_ask 17 = .ok (.ldc 113, 2) := by decide +kernel
theorem dX11_ask_19 : decode cX11_ask 19 = .ok (.ireturn, 1) := by decide +kernel
theorem dX11_ask_20 : decode cX11_ask 20 = .ok (.aload_n 0, 1) := by decide +kernel
theorem dX11_ask_21 : decode cX11_ask 21 = .ok (.getfield 49, 3) := by decide +kernel
theorem dX11_ask_24 : decode cX11_ask 24 = .ok (.iload_n 1, 1) := by decide +kernel
theorem dX11_ask_25 : decode cX11_ask 25 = .ok (.aload_n 0, 1) := by decide +kernel
theorem dX11_ask_26 : decode cX11_ask 26 = .ok (.getfield 26, 3) := by decide +kernel
theorem dX11_ask_29 : decode cX11_ask 29 = .ok (.getfield 218, 3) := by decide +kernel
theorem dX11_ask_32 : decode cX11_ask 32 = .ok (.iload_n 1, 1) := by decide +kernel
theorem dX11_ask_33 : decode cX11_ask 33 = .ok (.iaload, 1) := by decide +kernel
theorem dX11_ask_34 : decode cX11_ask 34 = .ok (.aload_n 0, 1) := by decide +kernel
theorem dX11_ask_35 : decode cX11_ask 35 = .ok (.getfield 26, 3) := by decide +kernel
theorem dX11_ask_38 : decode cX11_ask 38 = .ok (.getfield 203, 3) := by decide +kernel
theorem dX11_ask_41 : decode cX11_ask 41 = .ok (.iload_n 1, 1) := by decide +kernel
theorem dX11_ask_42 : decode cX11_ask 42 = .ok (.iaload, 1) := by decide +kernel
theorem dX11_ask_43 : decode cX11_ask 43 = .ok (.invokevirtual 326, 3) := by decide +kernel
theorem dX11_ask_46 : decode cX11_ask 46 = .ok (.aload_n 0, 1) := by decide +kernel
theorem dX11_ask_47 : decode cX11_ask 47 = .ok (.aload_n 0, 1) := by decide +kernel
theorem dX11_ask_48 : decode cX11_ask 48 = .ok (.getfield 26, 3) := by decide +kernel
theorem dX11_ask_51 : decode cX11_ask 51 = .ok (.getfield 315, 3) := by decide +kernel
theorem dX11_ask_54 : decode cX11_ask 54 = .ok (.iload_n 1, 1) := by decide +kernel
theorem dX11_ask_55 : decode cX11_ask 55 = .ok (.iaload, 1) := by decide +kernel
theorem dX11_ask_56 : decode cX11_ask 56 = .ok (.invokevirtual 318, 3) := by decide +kernel
theorem dX11_ask_59 : decode cX11_ask 59 = .ok (.astore_n 3, 1) := by decide +kernel
theorem dX11_ask_60 : decode cX11_ask 60 = .ok (.iload_n 2, 1) := by decide +kernel
theorem dX11_ask_61 : decode cX11_ask 61 = .ok (.ifCond .ne 14, 3) := by decide +kernel
theorem dX11_ask_64 : decode cX11_ask 64 = .ok (.aload_n 3, 1) := by decide +kernel
theorem dX11_ask_65 : decode cX11_ask 65 = .ok (.aload_n 0, 1) := by decide +kernel
theorem dX11_ask_66 : decode cX11_ask 66 = .ok (.getfield 49, 3) := by decide +kernel
theorem dX11_ask_69 : decode cX11_ask 69 = .ok (.invokevirtual 329, 3) := by decide +kernel
theorem dX11_ask_72 : decode cX11_ask 72 = .ok (.goto 11, 3) := by decide +kernel
theorem dX11_ask_75 : decode cX11_ask 75 = .ok (.aload_n 3, 1) := by decide +kernel
theorem dX11_ask_76 : decode cX11_ask 76 = .ok (.aload_n 0, 1) := by decide +kernel
theorem dX11_ask_77 : decode cX11_ask 77 = .ok (.getfield 49, 3) := by decide +kernel
theorem dX11_ask_80 : decode cX11_ask 80 = .ok (.invokevirtual 334, 3) := by decide +kernel
theorem dX11_ask_83 : decode cX11_ask 83 = .ok (.ireturn, 1) := by decide +kernel
theorem dX11_trace_0 : decode cX11_trace 0 = .ok (.aload_n 0, 1) := by decide +kernel
theorem dX11_trace_1 : decode cX11_trace 1 = .ok (.getfield 49, 3) := by decide +kernel
theorem dX11_trace_4 : decode cX11_trace 4 = .ok (.iload_n 1, 1) := by decide +kernel
theorem dX11_trace_5 : decode cX11_trace 5 = .ok (.invokevirtual 337, 3) := by decide +kernel
theorem dX11_trace_8 : decode cX11_trace 8 = .ok (.ireturn, 1) := by decide +kernel
theorem dX11_count_0 : decode cX11_count 0 = .ok (.iload_n 1, 1) := by decide +kernel
theorem dX11_count_1 : decode cX11_count 1 = .ok (.tableswitch 123 0 8 #[51, 59, 67, 75, 83, 91, 99, 107, 115], 51) := by decide +kernel
theorem dX11_count_52 : decode cX11_count 52 = .ok (.aload_n 0, 1) := by decide +kernel
theorem dX11_count_53 : decode cX11_count 53 = .ok (.getfield 12, 3) := by decide +kernel
theorem dX11_count_56 : decode cX11_count 56 = .ok (.invokevirtual 340, 3) := by decide +kernel
theorem dX11_count_59 : decode cX11_count 59 = .ok (.ireturn, 1) := by decide +kernel
theorem dX11_count_60 : decode cX11_count 60 = .ok (.aload_n 0, 1) := by decide +kernel
theorem dX11_count_61 : decode cX11_count 61 = .ok (.getfield 26, 3) := by decide +kernel
theorem dX11_count_64 : decode cX11_count 64 = .ok (.getfield 173, 3) := by decide +kernel
theorem dX11_count_67 : decode cX11_count 67 = .ok (.ireturn, 1) := by decide +kernel
theorem dX11_count_68 : decode cX11_count 68 = .ok (.aload_n 0, 1) := by decide +kernel
theorem dX11_count_69 : decode cX11_count 69 = .ok (.getfield 26, 3) := by decide +kernel
theorem dX11_count_72 : decode cX11_count 72 = .ok (.getfield 181, 3) := by decide +kernel
theorem dX11_count_75 : decode cX11_count 75 = .ok (.ireturn, 1) := by decide +kernel
theorem dX11_count_76 : decode cX11_count 76 = .ok (.aload_n 0, 1) := by decide +kernel
theorem dX11_count_77 : decode cX11_count 77 = .ok (.getfield 26, 3) := by decide +kernel
theorem dX11_count_80 : decode cX11_count 80 = .ok (.invokevirtual 187, 3) := by decide +kernel
theorem dX11_count_83 : decode cX11_count 83 = .ok (.ireturn, 1) := by decide +kernel
theorem dX11_count_84 : decode cX11_count 84 = .ok (.aload_n 0, 1) := by decide +kernel
theorem dX11_count_85 : decode cX11_count 85 = .ok (.getfield 26, 3) := by decide +kernel
theorem dX11_count_88 : decode cX11_count 88 = .ok (.getfield 194, 3) := by decide +kernel
theorem dX11_count_91 : decode cX11_count 91 = .ok (.ireturn, 1) := by decide +kernel
theorem dX11_count_92 : decode cX11_count 92 = .ok (.aload_n 0, 1) := by decide +kernel
theorem dX11_count_93 : decode cX11_count 93 = .ok (.getfield 26, 3) := by decide +kernel
theorem dX11_count_96 : decode cX11_count 96 = .ok (.getfield 200, 3) := by decide +kernel
theorem dX11_count_99 : decode cX11_count 99 = .ok (.ireturn, 1) := by decide +kernel
theorem dX11_count_100 : decode cX11_count 100 = .ok (.aload_n 0, 1) := by decide +kernel
theorem dX11_count_101 : decode cX11_count 101 = .ok (.getfield 42, 3) := by decide +kernel
theorem dX11_count_104 : decode cX11_count 104 = .ok (.invokevirtual 212, 3) := by decide +kernel
theorem dX11_count_107 : decode cX11_count 107 = .ok (.ireturn, 1) := by decide +kernel
theorem dX11_count_108 : decode cX11_count 108 = .ok (.aload_n 0, 1) := by decide +kernel
theorem dX11_count_109 : decode cX11_count 109 = .ok (.getfield 19, 3) := by decide +kernel
theorem dX11_count_112 : decode cX11_count 112 = .ok (.invokevirtual 343, 3) := by decide +kernel
theorem dX11_count_115 : decode cX11_count 115 = .ok (.ireturn, 1) := by decide +kernel
theorem dX11_count_116 : decode cX11_count 116 = .ok (.aload_n 0, 1) := by decide +kernel
theorem dX11_count_117 : decode cX11_count 117 = .ok (.getfield 26, 3) := by decide +kernel
theorem dX11_count_120 : decode cX11_count 120 = .ok (.invokevirtual 308, 3) := by decide +kernel
theorem dX11_count_123 : decode cX11_count 123 = .ok (.ireturn, 1) := by decide +kernel
theorem dX11_count_124 : decode cX11_count 124 = .ok (.ldc 113, 2) := by decide +kernel
theorem dX11_count_126 : decode cX11_count 126 = .ok (.ireturn, 1) := by decide +kernel
theorem dX11_status_0 : decode cX11_status 0 = .ok (.aload_n 0, 1) := by decide +kernel
theorem dX11_status_1 : decode cX11_status 1 = .ok (.getfield 102, 3) := by decide +kernel
theorem dX11_status_4 : decode cX11_status 4 = .ok (.ireturn, 1) := by decide +kernel
theorem dX11_isWithin_0 : decode cX11_isWithin 0 = .ok (.iload_n 0, 1) := by decide +kernel
theorem dX11_isWithin_1 : decode cX11_isWithin 1 = .ok (.iload_n 1, 1) := by decide +kernel
theorem dX11_isWithin_2 : decode cX11_isWithin 2 = .ok (.if_icmp .lt 12, 3) := by decide +kernel
theorem dX11_isWithin_5 : decode cX11_isWithin 5 = .ok (.iload_n 0, 1) := by decide +kernel
theorem dX11_isWithin_6 : decode cX11_isWithin 6 = .ok (.iload_n 2, 1) := by decide +kernel
theorem dX11_isWithin_7 : decode cX11_isWithin 7 = .ok (.if_icmp .gt 7, 3) := by decide +kernel
theorem dX11_isWithin_10 : decode cX11_isWithin 10 = .ok (.iconst 1, 1) := by decide +kernel
theorem dX11_isWithin_11 : decode cX11_isWithin 11 = .ok (.goto 4, 3) := by decide +kernel
theorem dX11_isWithin_14 : decode cX11_isWithin 14 = .ok (.iconst 0, 1) := by decide +kernel
theorem dX11_isWithin_15 : decode cX11_isWithin 15 = .ok (.ireturn, 1) := by decide +kernel
theorem dX11_isRow_0 : decode cX11_isRow 0 = .ok (.iload_n 0, 1) := by decide +kernel
theorem dX11_isRow_1 : decode cX11_isRow 1 = .ok (.iconst 0, 1) := by decide +kernel
theorem dX11_isRow_2 : decode cX11_isRow 2 = .ok (.bipush 7, 2) := by decide +kernel
theorem dX11_isRow_4 : decode cX11_isRow 4 = .ok (.invokestatic 109, 3) := by decide +kernel
theorem dX11_isRow_7 : decode cX11_isRow 7 = .ok (.ireturn, 1) := by decide +kernel
theorem dX11_isPlace_0 : decode cX11_isPlace 0 = .ok (.iload_n 0, 1) := by decide +kernel
theorem dX11_isPlace_1 : decode cX11_isPlace 1 = .ok (.iconst 0, 1) := by decide +kernel
theorem dX11_isPlace_2 : decode cX11_isPlace 2 = .ok (.bipush 9, 2) := by decide +kernel
theorem dX11_isPlace_4 : decode cX11_isPlace 4 = .ok (.invokestatic 109, 3) := by decide +kernel
theorem dX11_isPlace_7 : decode cX11_isPlace 7 = .ok (.ireturn, 1) := by decide +kernel
theorem dX11_isAhead_0 : decode cX11_isAhead 0 = .ok (.iload_n 0, 1) := by decide +kernel
theorem dX11_isAhead_1 : decode cX11_isAhead 1 = .ok (.iconst 0, 1) := by decide +kernel
theorem dX11_isAhead_2 : decode cX11_isAhead 2 = .ok (.bipush 60, 2) := by decide +kernel
theorem dX11_isAhead_4 : decode cX11_isAhead 4 = .ok (.invokestatic 109, 3) := by decide +kernel
theorem dX11_isAhead_7 : decode cX11_isAhead 7 = .ok (.ireturn, 1) := by decide +kernel
theorem dX11_isPier_0 : decode cX11_isPier 0 = .ok (.iload_n 1, 1) := by decide +kernel
theorem dX11_isPier_1 : decode cX11_isPier 1 = .ok (.iconst 0, 1) := by decide +kernel
theorem dX11_isPier_2 : decode cX11_isPier 2 = .ok (.aload_n 0, 1) := by decide +kernel
theorem dX11_isPier_3 : decode cX11_isPier 3 = .ok (.getfield 26, 3) := by decide +kernel
theorem dX11_isPier_6 : decode cX11_isPier 6 = .ok (.getfield 173, 3) := by decide +kernel
theorem dX11_isPier_9 : decode cX11_isPier 9 = .ok (.iconst 1, 1) := by decide +kernel
theorem dX11_isPier_10 : decode cX11_isPier 10 = .ok (.isub, 1) := by decide +kernel
theorem dX11_isPier_11 : decode cX11_isPier 11 = .ok (.invokestatic 109, 3) := by decide +kernel
theorem dX11_isPier_14 : decode cX11_isPier 14 = .ok (.ireturn, 1) := by decide +kernel
theorem dX11_found_0 : decode cX11_found 0 = .ok (.aload_n 0, 1) := by decide +kernel
theorem dX11_found_1 : decode cX11_found 1 = .ok (.iload_n 1, 1) := by decide +kernel
theorem dX11_found_2 : decode cX11_found 2 = .ok (.putfield 102, 3) := by decide +kernel
theorem dX11_found_5 : decode cX11_found 5 = .ok (.ldc_w 346, 3) := by decide +kernel
theorem dX11_found_8 : decode cX11_found 8 = .ok (.iload_n 1, 1) := by decide +kernel
theorem dX11_found_9 : decode cX11_found 9 = .ok (.isub, 1) := by decide +kernel
theorem dX11_found_10 : decode cX11_found 10 = .ok (.ireturn, 1) := by decide +kernel
theorem dX11_fine_0 : decode cX11_fine 0 = .ok (.aload_n 0, 1) := by decide +kernel
theorem dX11_fine_1 : decode cX11_fine 1 = .ok (.iconst 0, 1) := by decide +kernel
theorem dX11_fine_2 : decode cX11_fine 2 = .ok (.putfield 102, 3) := by decide +kernel
theorem dX11_fine_5 : decode cX11_fine 5 = .ok (.iload_n 1, 1) := by decide +kernel
theorem dX11_fine_6 : decode cX11_fine 6 = .ok (.ireturn, 1) := by decide +kernel
theorem dX11_imageOf_0 : decode cX11_imageOf 0 = .ok (.iload_n 1, 1) := by decide +kernel
theorem dX11_imageOf_1 : decode cX11_imageOf 1 = .ok (.ifCond .ne 10, 3) := by decide +kernel
theorem dX11_imageOf_4 : decode cX11_imageOf 4 = .ok (.aload_n 0, 1) := by decide +kernel
theorem dX11_imageOf_5 : decode cX11_imageOf 5 = .ok (.getfield 33, 3) := by decide +kernel
theorem dX11_imageOf_8 : decode cX11_imageOf 8 = .ok (.goto 7, 3) := by decide +kernel
theorem dX11_imageOf_11 : decode cX11_imageOf 11 = .ok (.aload_n 0, 1) := by decide +kernel
theorem dX11_imageOf_12 : decode cX11_imageOf 12 = .ok (.getfield 36, 3) := by decide +kernel
theorem dX11_imageOf_15 : decode cX11_imageOf 15 = .ok (.areturn, 1) := by decide +kernel
theorem dX11_foretell_0 : decode cX11_foretell 0 = .ok (.aload_n 0, 1) := by decide +kernel
theorem dX11_foretell_1 : decode cX11_foretell 1 = .ok (.getfield 30, 3) := by decide +kernel
theorem dX11_foretell_4 : decode cX11_foretell 4 = .ok (.aload_n 0, 1) := by decide +kernel
theorem dX11_foretell_5 : decode cX11_foretell 5 = .ok (.getfield 26, 3) := by decide +kernel
theorem dX11_foretell_8 : decode cX11_foretell 8 = .ok (.invokevirtual 166, 3) := by decide +kernel
theorem dX11_foretell_11 : decode cX11_foretell 11 = .ok (.aload_n 0, 1) := by decide +kernel
theorem dX11_foretell_12 : decode cX11_foretell 12 = .ok (.getfield 30, 3) := by decide +kernel
theorem dX11_foretell_15 : decode cX11_foretell 15 = .ok (.iload_n 1, 1) := by decide +kernel
theorem dX11_foretell_16 : decode cX11_foretell 16 = .ok (.invokevirtual 347, 3) := by decide +kernel
theorem dX11_foretell_19 : decode cX11_foretell 19 = .ok (.return_, 1) := by decide +kernel
theorem dX11_purseTurned_0 : decode cX11_purseTurned 0 = .ok (.aload_n 0, 1) := by decide +kernel
theorem dX11_purseTurned_1 : decode cX11_purseTurned 1 = .ok (.getfield 30, 3) := by decide +kernel
theorem dX11_purseTurned_4 : decode cX11_purseTurned 4 = .ok (.aload_n 0, 1) := by decide +kernel
theorem dX11_purseTurned_5 : decode cX11_purseTurned 5 = .ok (.getfield 26, 3) := by decide +kernel
theorem dX11_purseTurned_8 : decode cX11_purseTurned 8 = .ok (.invokevirtual 166, 3) := by decide +kernel
theorem dX11_purseTurned_11 : decode cX11_purseTurned 11 = .ok (.aload_n 0, 1) := by decide +kernel
theorem dX11_purseTurned_12 : decode cX11_purseTurned 12 = .ok (.getfield 30, 3) := by decide +kernel
theorem dX11_purseTurned_15 : decode cX11_purseTurned 15 = .ok (.getfield 209, 3) := by decide +kernel
theorem dX11_purseTurned_18 : decode cX11_purseTurned 18 = .ok (.iload_n 1, 1) := by decide +kernel
theorem dX11_purseTurned_19 : decode cX11_purseTurned 19 = .ok (.iload_n 2, 1) := by decide +kernel
theorem dX11_purseTurned_20 : decode cX11_purseTurned 20 = .ok (.iastore, 1) := by decide +kernel
theorem dX11_purseTurned_21 : decode cX11_purseTurned 21 = .ok (.aload_n 0, 1) := by decide +kernel
theorem dX11_purseTurned_22 : decode cX11_purseTurned 22 = .ok (.getfield 30, 3) := by decide +kernel
theorem dX11_purseTurned_25 : decode cX11_purseTurned 25 = .ok (.iload_n 3, 1) := by decide +kernel
theorem dX11_purseTurned_26 : decode cX11_purseTurned 26 = .ok (.invokevirtual 347, 3) := by decide +kernel
theorem dX11_purseTurned_29 : decode cX11_purseTurned 29 = .ok (.aload_n 0, 1) := by decide +kernel
theorem dX11_purseTurned_30 : decode cX11_purseTurned 30 = .ok (.getfield 30, 3) := by decide +kernel
theorem dX11_purseTurned_33 : decode cX11_purseTurned 33 = .ok (.getfield 194, 3) := by decide +kernel
theorem dX11_purseTurned_36 : decode cX11_purseTurned 36 = .ok (.ireturn, 1) := by decide +kernel
theorem dX11_isTaken_0 : decode cX11_isTaken 0 = .ok (.iconst 0, 1) := by decide +kernel
theorem dX11_isTaken_1 : decode cX11_isTaken 1 = .ok (.istore 4, 2) := by decide +kernel
theorem dX11_isTaken_3 : decode cX11_isTaken 3 = .ok (.iload 4, 2) := by decide +kernel
theorem dX11_isTaken_5 : decode cX11_isTaken 5 = .ok (.iload_n 3, 1) := by decide +kernel
theorem dX11_isTaken_6 : decode cX11_isTaken 6 = .ok (.if_icmp .ge 47, 3) := by decide +kernel
theorem dX11_isTaken_9 : decode cX11_isTaken 9 = .ok (.aload_n 0, 1) := by decide +kernel
theorem dX11_isTaken_10 : decode cX11_isTaken 10 = .ok (.getfield 30, 3) := by decide +kernel
theorem dX11_isTaken_13 : decode cX11_isTaken 13 = .ok (.invokevirtual 350, 3) := by decide +kernel
theorem dX11_isTaken_16 : decode cX11_isTaken 16 = .ok (.aload_n 0, 1) := by decide +kernel
theorem dX11_isTaken_17 : decode cX11_isTaken 17 = .ok (.getfield 12, 3) := by decide +kernel
theorem dX11_isTaken_20 : decode cX11_isTaken 20 = .ok (.iload_n 1, 1) := by decide +kernel
theorem dX11_isTaken_21 : decode cX11_isTaken 21 = .ok (.iload_n 2, 1) := by decide +kernel
theorem dX11_isTaken_22 : decode cX11_isTaken 22 = .ok (.iload 4, 2) := by decide +kernel
theorem dX11_isTaken_24 : decode cX11_isTaken 24 = .ok (.iadd, 1) := by decide +kernel
theorem dX11_isTaken_25 : decode cX11_isTaken 25 = .ok (.invokevirtual 353, 3) := by decide +kernel
theorem dX11_isTaken_28 : decode cX11_isTaken 28 = .ok (.if_icmp .eq 5, 3) := by decide +kernel
theorem dX11_isTaken_31 : decode cX11_isTaken 31 = .ok (.iconst 0, 1) := by decide +kernel
theorem dX11_isTaken_32 : decode cX11_isTaken 32 = .ok (.ireturn, 1) := by decide +kernel
theorem dX11_isTaken_33 : decode cX11_isTaken 33 = .ok (.aload_n 0, 1) := by decide +kernel
theorem dX11_isTaken_34 : decode cX11_isTaken 34 = .ok (.getfield 30, 3) := by decide +kernel
theorem dX11_isTaken_37 : decode cX11_isTaken 37 = .ok (.aload_n 0, 1) := by decide +kernel
theorem dX11_isTaken_38 : decode cX11_isTaken 38 = .ok (.getfield 30, 3) := by decide +kernel
theorem dX11_isTaken_41 : decode cX11_isTaken 41 = .ok (.invokevirtual 187, 3) := by decide +kernel
theorem dX11_isTaken_44 : decode cX11_isTaken 44 = .ok (.invokevirtual 190, 3) := by decide +kernel
theorem dX11_isTaken_47 : decode cX11_isTaken 47 = .ok (.iinc 4 1, 3) := by decide +kernel
theorem dX11_isTaken_50 : decode cX11_isTaken 50 = .ok (.goto (-47), 3) := by decide +kernel
theorem dX11_isTaken_53 : decode cX11_isTaken 53 = .ok (.iconst 1, 1) := by decide +kernel
theorem dX11_isTaken_54 : decode cX11_isTaken 54 = .ok (.ireturn, 1) := by decide +kernel
theorem dX11_purseWith_0 : decode cX11_purseWith 0 = .ok (.sipush 9999, 3) := by decide +kernel
theorem dX11_purseWith_3 : decode cX11_purseWith 3 = .ok (.aload_n 0, 1) := by decide +kernel
theorem dX11_purseWith_4 : decode cX11_purseWith 4 = .ok (.getfield 26, 3) := by decide +kernel
theorem dX11_purseWith_7 : decode cX11_purseWith 7 = .ok (.getfield 194, 3) := by decide +kernel
theorem dX11_purseWith_10 : decode cX11_purseWith 10 = .ok (.iload_n 1, 1) := by decide +kernel
theorem dX11_purseWith_11 : decode cX11_purseWith 11 = .ok (.iadd, 1) := by decide +kernel
theorem dX11_purseWith_12 : decode cX11_purseWith 12 = .ok (.invokestatic 247, 3) := by decide +kernel
theorem dX11_purseWith_15 : decode cX11_purseWith 15 = .ok (.ireturn, 1) := by decide +kernel
theorem dX11_weighGains_0 : decode cX11_weighGains 0 = .ok (.iconst 0, 1) := by decide +kernel

theorem dX0_init_0 : decode cX0_init 0 = .ok (.aload_n 0, 1) := by decide +kernel
theorem dX0_init_1 : decode cX0_init 1 = .ok (.invokespecial 3, 3) := by decide +kernel
theorem dX0_init_4 : decode cX0_init 4 = .ok (.aload_n 0, 1) := by decide +kernel
theorem dX0_init_5 : decode cX0_init 5 = .ok (.bipush 16, 2) := by decide +kernel
theorem dX0_init_7 : decode cX0_init 7 = .ok (.newarray .int, 2) := by decide +kernel
theorem dX0_init_9 : decode cX0_init 9 = .ok (.putfield 11, 3) := by decide +kernel
theorem dX0_init_12 : decode cX0_init 12 = .ok (.aload_n 0, 1) := by decide +kernel
theorem dX0_init_13 : decode cX0_init 13 = .ok (.iconst 0, 1) := by decide +kernel
theorem dX0_init_14 : decode cX0_init 14 = .ok (.putfield 15, 3) := by decide +kernel
theorem dX0_init_17 : decode cX0_init 17 = .ok (.aload_n 0, 1) := by decide +kernel
theorem dX0_init_18 : decode cX0_init 18 = .ok (.iconst 0, 1) := by decide +kernel
theorem dX0_init_19 : decode cX0_init 19 = .ok (.putfield 19, 3) := by decide +kernel
theorem dX0_init_22 : decode cX0_init 22 = .ok (.aload_n 0, 1) := by decide +kernel
theorem dX0_init_23 : decode cX0_init 23 = .ok (.iconst 0, 1) := by decide +kernel
theorem dX0_init_24 : decode cX0_init 24 = .ok (.putfield 22, 3) := by decide +kernel
theorem dX0_init_27 : decode cX0_init 27 = .ok (.aload_n 0, 1) := by decide +kernel
theorem dX0_init_28 : decode cX0_init 28 = .ok (.iconst 0, 1) := by decide +kernel
theorem dX0_init_29 : decode cX0_init 29 = .ok (.putfield 25, 3) := by decide +kernel
theorem dX0_init_32 : decode cX0_init 32 = .ok (.return_, 1) := by decide +kernel
theorem dX0_begin_0 : decode cX0_begin 0 = .ok (.aload_n 0, 1) := by decide +kernel
theorem dX0_begin_1 : decode cX0_begin 1 = .ok (.iconst 0, 1) := by decide +kernel
theorem dX0_begin_2 : decode cX0_begin 2 = .ok (.putfield 15, 3) := by decide +kernel
theorem dX0_begin_5 : decode cX0_begin 5 = .ok (.aload_n 0, 1) := by decide +kernel
theorem dX0_begin_6 : decode cX0_begin 6 = .ok (.iload_n 1, 1) := by decide +kernel
theorem dX0_begin_7 : decode cX0_begin 7 = .ok (.putfield 19, 3) := by decide +kernel
theorem dX0_begin_10 : decode cX0_begin 10 = .ok (.aload_n 0, 1) := by decide +kernel
theorem dX0_begin_11 : decode cX0_begin 11 = .ok (.iload_n 2, 1) := by decide +kernel
theorem dX0_begin_12 : decode cX0_begin 12 = .ok (.putfield 22, 3) := by decide +kernel
theorem dX0_begin_15 : decode cX0_begin 15 = .ok (.aload_n 0, 1) := by decide +kernel
theorem dX0_begin_16 : decode cX0_begin 16 = .ok (.iload_n 3, 1) := by decide +kernel
theorem dX0_begin_17 : decode cX0_begin 17 = .ok (.putfield 25, 3) := by decide +kernel
theorem dX0_begin_20 : decode cX0_begin 20 = .ok (.return_, 1) := by decide +kernel
theorem dX0_leave_0 : decode cX0_leave 0 = .ok (.aload_n 0, 1) := by decide +kernel
theorem dX0_leave_1 : decode cX0_leave 1 = .ok (.getfield 15, 3) := by decide +kernel
theorem dX0_leave_4 : decode cX0_leave 4 = .ok (.bipush 16, 2) := by decide +kernel
theorem dX0_leave_6 : decode cX0_leave 6 = .ok (.if_icmp .ge 23, 3) := by decide +kernel
theorem dX0_leave_9 : decode cX0_leave 9 = .ok (.aload_n 0, 1) := by decide +kernel
theorem dX0_leave_10 : decode cX0_leave 10 = .ok (.getfield 11, 3) := by decide +kernel
theorem dX0_leave_13 : decode cX0_leave 13 = .ok (.aload_n 0, 1) := by decide +kernel
theorem dX0_leave_14 : decode cX0_leave 14 = .ok (.getfield 15, 3) := by decide +kernel
theorem dX0_leave_17 : decode cX0_leave 17 = .ok (.iload_n 1, 1) := by decide +kernel
theorem dX0_leave_18 : decode cX0_leave 18 = .ok (.iastore, 1) := by decide +kernel
theorem dX0_leave_19 : decode cX0_leave 19 = .ok (.aload_n 0, 1) := by decide +kernel
theorem dX0_leave_20 : decode cX0_leave 20 = .ok (.dup, 1) := by decide +kernel
theorem dX0_leave_21 : decode cX0_leave 21 = .ok (.getfield 15, 3) := by decide +kernel
theorem dX0_leave_24 : decode cX0_leave 24 = .ok (.iconst 1, 1) := by decide +kernel
theorem dX0_leave_25 : decode cX0_leave 25 = .ok (.iadd, 1) := by decide +kernel
theorem dX0_leave_26 : decode cX0_leave 26 = .ok (.putfield 15, 3) := by decide +kernel
theorem dX0_leave_29 : decode cX0_leave 29 = .ok (.return_, 1) := by decide +kernel
theorem dX0_left_0 : decode cX0_left 0 = .ok (.iload_n 1, 1) := by decide +kernel
theorem dX0_left_1 : decode cX0_left 1 = .ok (.ifCond .lt 20, 3) := by decide +kernel
theorem dX0_left_4 : decode cX0_left 4 = .ok (.iload_n 1, 1) := by decide +kernel
theorem dX0_left_5 : decode cX0_left 5 = .ok (.aload_n 0, 1) := by decide +kernel
theorem dX0_left_6 : decode cX0_left 6 = .ok (.getfield 15, 3) := by decide +kernel
theorem dX0_left_9 : decode cX0_left 9 = .ok (.if_icmp .ge 12, 3) := by decide +kernel
theorem dX0_left_12 : decode cX0_left 12 = .ok (.aload_n 0, 1) := by decide +kernel
theorem dX0_left_13 : decode cX0_left 13 = .ok (.getfield 11, 3) := by decide +kernel
theorem dX0_left_16 : decode cX0_left 16 = .ok (.iload_n 1, 1) := by decide +kernel
theorem dX0_left_17 : decode cX0_left 17 = .ok (.iaload, 1) := by decide +kernel
theorem dX0_left_18 : decode cX0_left 18 = .ok (.goto 5, 3) := by decide +kernel
theorem dX0_left_21 : decode cX0_left 21 = .ok (.ldc 28, 2) := by decide +kernel
theorem dX0_left_23 : decode cX0_left 23 = .ok (.ireturn, 1) := by decide +kernel
theorem dX1_init_0 : decode cX1_init 0 = .ok (.aload_n 0, 1) := by decide +kernel
theorem dX1_init_1 : decode cX1_init 1 = .ok (.invokespecial 1, 3) := by decide +kernel
theorem dX1_init_4 : decode cX1_init 4 = .ok (.return_, 1) := by decide +kernel
theorem dX1_size_0 : decode cX1_size 0 = .ok (.aload_n 1, 1) := by decide +kernel
theorem dX1_size_1 : decode cX1_size 1 = .ok (.bipush 12, 2) := by decide +kernel
theorem dX1_size_3 : decode cX1_size 3 = .ok (.invokevirtual 7, 3) := by decide +kernel
theorem dX1_size_6 : decode cX1_size 6 = .ok (.aload_n 0, 1) := by decide +kernel
theorem dX1_size_7 : decode cX1_size 7 = .ok (.aload_n 1, 1) := by decide +kernel
theorem dX1_size_8 : decode cX1_size 8 = .ok (.invokespecial 13, 3) := by decide +kernel
theorem dX1_size_11 : decode cX1_size 11 = .ok (.ineg, 1) := by decide +kernel
theorem dX1_size_12 : decode cX1_size 12 = .ok (.ireturn, 1) := by decide +kernel
theorem dX1_mark_0 : decode cX1_mark 0 = .ok (.aload_n 1, 1) := by decide +kernel
theorem dX1_mark_1 : decode cX1_mark 1 = .ok (.bipush 24, 2) := by decide +kernel
theorem dX1_mark_3 : decode cX1_mark 3 = .ok (.invokevirtual 7, 3) := by decide +kernel
theorem dX1_mark_6 : decode cX1_mark 6 = .ok (.aload_n 0, 1) := by decide +kernel
theorem dX1_mark_7 : decode cX1_mark 7 = .ok (.aload_n 1, 1) := by decide +kernel
theorem dX1_mark_8 : decode cX1_mark 8 = .ok (.invokespecial 17, 3) := by decide +kernel
theorem dX1_mark_11 : decode cX1_mark 11 = .ok (.iconst 2, 1) := by decide +kernel
theorem dX1_mark_12 : decode cX1_mark 12 = .ok (.imul, 1) := by decide +kernel
theorem dX1_mark_13 : decode cX1_mark 13 = .ok (.ireturn, 1) := by decide +kernel
theorem dX2_init_0 : decode cX2_init 0 = .ok (.aload_n 0, 1) := by decide +kernel
theorem dX2_init_1 : decode cX2_init 1 = .ok (.invokespecial 1, 3) := by decide +kernel
theorem dX2_init_4 : decode cX2_init 4 = .ok (.aload_n 0, 1) := by decide +kernel
theorem dX2_init_5 : decode cX2_init 5 = .ok (.iconst 5, 1) := by decide +kernel
theorem dX2_init_6 : decode cX2_init 6 = .ok (.newarray .int, 2) := by decide +kernel
theorem dX2_init_8 : decode cX2_init 8 = .ok (.putfield 9, 3) := by decide +kernel
theorem dX2_init_11 : decode cX2_init 11 = .ok (.aload_n 0, 1) := by decide +kernel
theorem dX2_init_12 : decode cX2_init 12 = .ok (.iconst 5, 1) := by decide +kernel
theorem dX2_init_13 : decode cX2_init 13 = .ok (.newarray .int, 2) := by decide +kernel
theorem dX2_init_15 : decode cX2_init 15 = .ok (.putfield 13, 3) := by decide +kernel
theorem dX2_init_18 : decode cX2_init 18 = .ok (.aload_n 0, 1) := by decide +kernel
theorem dX2_init_19 : decode cX2_init 19 = .ok (.iconst 5, 1) := by decide +kernel
theorem dX2_init_20 : decode cX2_init 20 = .ok (.newarray .int, 2) := by decide +kernel
theorem dX2_init_22 : decode cX2_init 22 = .ok (.putfield 16, 3) := by decide +kernel
theorem dX2_init_25 : decode cX2_init 25 = .ok (.aload_n 0, 1) := by decide +kernel
theorem dX2_init_26 : decode cX2_init 26 = .ok (.iconst 5, 1) := by decide +kernel
theorem dX2_init_27 : decode cX2_init 27 = .ok (.newarray .int, 2) := by decide +kernel
theorem dX2_init_29 : decode cX2_init 29 = .ok (.putfield 19, 3) := by decide +kernel
theorem dX2_init_32 : decode cX2_init 32 = .ok (.aload_n 0, 1) := by decide +kernel
theorem dX2_init_33 : decode cX2_init 33 = .ok (.iconst 0, 1) := by decide +kernel
theorem dX2_init_34 : decode cX2_init 34 = .ok (.putfield 22, 3) := by decide +kernel
theorem dX2_init_37 : decode cX2_init 37 = .ok (.aload_n 0, 1) := by decide +kernel
theorem dX2_init_38 : decode cX2_init 38 = .ok (.iconst 0, 1) := by decide +kernel
theorem dX2_init_39 : decode cX2_init 39 = .ok (.putfield 26, 3) := by decide +kernel
theorem dX2_init_42 : decode cX2_init 42 = .ok (.aload_n 0, 1) := by decide +kernel
theorem dX2_init_43 : decode cX2_init 43 = .ok (.iconst 0, 1) := by decide +kernel
theorem dX2_init_44 : decode cX2_init 44 = .ok (.putfield 30, 3) := by decide +kernel
theorem dX2_init_47 : decode cX2_init 47 = .ok (.aload_n 0, 1) := by decide +kernel
theorem dX2_init_48 : decode cX2_init 48 = .ok (.iconst 0, 1) := by decide +kernel
theorem dX2_init_49 : decode cX2_init 49 = .ok (.putfield 33, 3) := by decide +kernel
theorem dX2_init_52 : decode cX2_init 52 = .ok (.aload_n 0, 1) := by decide +kernel
theorem dX2_init_53 : decode cX2_init 53 = .ok (.iconst 0, 1) := by decide +kernel
theorem dX2_init_54 : decode cX2_init 54 = .ok (.putfield 36, 3) := by decide +kernel
theorem dX2_init_57 : decode cX2_init 57 = .ok (.aload_n 0, 1) := by decide +kernel
theorem dX2_init_58 : decode cX2_init 58 = .ok (.iconst 0, 1) := by decide +kernel
theorem dX2_init_59 : decode cX2_init 59 = .ok (.putfield 39, 3) := by decide +kernel
theorem dX2_init_62 : decode cX2_init 62 = .ok (.aload_n 0, 1) := by decide +kernel
theorem dX2_init_63 : decode cX2_init 63 = .ok (.iconst 0, 1) := by decide +kernel
theorem dX2_init_64 : decode cX2_init 64 = .ok (.putfield 42, 3) := by decide +kernel
theorem dX2_init_67 : decode cX2_init 67 = .ok (.aload_n 0, 1) := by decide +kernel
theorem dX2_init_68 : decode cX2_init 68 = .ok (.iconst 1, 1) := by decide +kernel
theorem dX2_init_69 : decode cX2_init 69 = .ok (.putfield 45, 3) := by decide +kernel
theorem dX2_init_72 : decode cX2_init 72 = .ok (.aload_n 0, 1) := by decide +kernel
theorem dX2_init_73 : decode cX2_init 73 = .ok (.iconst 0, 1) := by decide +kernel
theorem dX2_init_74 : decode cX2_init 74 = .ok (.putfield 48, 3) := by decide +kernel
theorem dX2_init_77 : decode cX2_init 77 = .ok (.return_, 1) := by decide +kernel
theorem dX2_begin_0 : decode cX2_begin 0 = .ok (.aload_n 0, 1) := by decide +kernel
theorem dX2_begin_1 : decode cX2_begin 1 = .ok (.iconst 1, 1) := by decide +kernel
theorem dX2_begin_2 : decode cX2_begin 2 = .ok (.putfield 22, 3) := by decide +kernel
theorem dX2_begin_5 : decode cX2_begin 5 = .ok (.aload_n 0, 1) := by decide +kernel
theorem dX2_begin_6 : decode cX2_begin 6 = .ok (.iconst 0, 1) := by decide +kernel
theorem dX2_begin_7 : decode cX2_begin 7 = .ok (.putfield 26, 3) := by decide +kernel
theorem dX2_begin_10 : decode cX2_begin 10 = .ok (.aload_n 0, 1) := by decide +kernel
theorem dX2_begin_11 : decode cX2_begin 11 = .ok (.iconst 0, 1) := by decide +kernel
theorem dX2_begin_12 : decode cX2_begin 12 = .ok (.putfield 30, 3) := by decide +kernel
theorem dX2_begin_15 : decode cX2_begin 15 = .ok (.aload_n 0, 1) := by decide +kernel
theorem dX2_begin_16 : decode cX2_begin 16 = .ok (.iconst 0, 1) := by decide +kernel
theorem dX2_begin_17 : decode cX2_begin 17 = .ok (.putfield 33, 3) := by decide +kernel
theorem dX2_begin_20 : decode cX2_begin 20 = .ok (.aload_n 0, 1) := by decide +kernel
theorem dX2_begin_21 : decode cX2_begin 21 = .ok (.iload 5, 2) := by decide +kernel
theorem dX2_begin_23 : decode cX2_begin 23 = .ok (.putfield 36, 3) := by decide +kernel
theorem dX2_begin_26 : decode cX2_begin 26 = .ok (.aload_n 0, 1) := by decide +kernel
theorem dX2_begin_27 : decode cX2_begin 27 = .ok (.iload_n 1, 1) := by decide +kernel
theorem dX2_begin_28 : decode cX2_begin 28 = .ok (.putfield 39, 3) := by decide +kernel
theorem dX2_begin_31 : decode cX2_begin 31 = .ok (.aload_n 0, 1) := by decide +kernel
theorem dX2_begin_32 : decode cX2_begin 32 = .ok (.iload_n 2, 1) := by decide +kernel
theorem dX2_begin_33 : decode cX2_begin 33 = .ok (.putfield 42, 3) := by decide +kernel
theorem dX2_begin_36 : decode cX2_begin 36 = .ok (.aload_n 0, 1) := by decide +kernel
theorem dX2_begin_37 : decode cX2_begin 37 = .ok (.iload_n 3, 1) := by decide +kernel
theorem dX2_begin_38 : decode cX2_begin 38 = .ok (.putfield 45, 3) := by decide +kernel
theorem dX2_begin_41 : decode cX2_begin 41 = .ok (.aload_n 0, 1) := by decide +kernel
theorem dX2_begin_42 : decode cX2_begin 42 = .ok (.iload 4, 2) := by decide +kernel
theorem dX2_begin_44 : decode cX2_begin 44 = .ok (.putfield 48, 3) := by decide +kernel
theorem dX2_begin_47 : decode cX2_begin 47 = .ok (.return_, 1) := by decide +kernel
theorem dX2_addPier_0 : decode cX2_addPier 0 = .ok (.aload_n 0, 1) := by decide +kernel
theorem dX2_addPier_1 : decode cX2_addPier 1 = .ok (.getfield 26, 3) := by decide +kernel
theorem dX2_addPier_4 : decode cX2_addPier 4 = .ok (.iconst 5, 1) := by decide +kernel
theorem dX2_addPier_5 : decode cX2_addPier 5 = .ok (.if_icmp .lt 4, 3) := by decide +kernel
theorem dX2_addPier_8 : decode cX2_addPier 8 = .ok (.return_, 1) := by decide +kernel
theorem dX2_addPier_9 : decode cX2_addPier 9 = .ok (.aload_n 0, 1) := by decide +kernel
theorem dX2_addPier_10 : decode cX2_addPier 10 = .ok (.getfield 9, 3) := by decide +kernel
theorem dX2_addPier_13 : decode cX2_addPier 13 = .ok (.aload_n 0, 1) := by decide +kernel
theorem dX2_addPier_14 : decode cX2_addPier 14 = .ok (.getfield 26, 3) := by decide +kernel
theorem dX2_addPier_17 : decode cX2_addPier 17 = .ok (.iload_n 1, 1) := by decide +kernel
theorem dX2_addPier_18 : decode cX2_addPier 18 = .ok (.iastore, 1) := by decide +kernel
theorem dX2_addPier_19 : decode cX2_addPier 19 = .ok (.aload_n 0, 1) := by decide +kernel
theorem dX2_addPier_20 : decode cX2_addPier 20 = .ok (.getfield 13, 3) := by decide +kernel
theorem dX2_addPier_23 : decode cX2_addPier 23 = .ok (.aload_n 0, 1) := by decide +kernel
theorem dX2_addPier_24 : decode cX2_addPier 24 = .ok (.getfield 26, 3) := by decide +kernel
theorem dX2_addPier_27 : decode cX2_addPier 27 = .ok (.iload_n 2, 1) := by decide +kernel
theorem dX2_addPier_28 : decode cX2_addPier 28 = .ok (.iastore, 1) := by decide +kernel
theorem dX2_addPier_29 : decode cX2_addPier 29 = .ok (.aload_n 0, 1) := by decide +kernel
theorem dX2_addPier_30 : decode cX2_addPier 30 = .ok (.getfield 16, 3) := by decide +kernel
theorem dX2_addPier_33 : decode cX2_addPier 33 = .ok (.aload_n 0, 1) := by decide +kernel
theorem dX2_addPier_34 : decode cX2_addPier 34 = .ok (.getfield 26, 3) := by decide +kernel
theorem dX2_addPier_37 : decode cX2_addPier 37 = .ok (.iload_n 3, 1) := by decide +kernel
theorem dX2_addPier_38 : decode cX2_addPier 38 = .ok (.iastore, 1) := by decide +kernel
theorem dX2_addPier_39 : decode cX2_addPier 39 = .ok (.aload_n 0, 1) := by decide +kernel
theorem dX2_addPier_40 : decode cX2_addPier 40 = .ok (.getfield 19, 3) := by decide +kernel
theorem dX2_addPier_43 : decode cX2_addPier 43 = .ok (.aload_n 0, 1) := by decide +kernel
theorem dX2_addPier_44 : decode cX2_addPier 44 = .ok (.getfield 26, 3) := by decide +kernel
theorem dX2_addPier_47 : decode cX2_addPier 47 = .ok (.iload 4, 2) := by decide +kernel
theorem dX2_addPier_49 : decode cX2_addPier 49 = .ok (.iastore, 1) := by decide +kernel
theorem dX2_addPier_50 : decode cX2_addPier 50 = .ok (.aload_n 0, 1) := by decide +kernel
theorem dX2_addPier_51 : decode cX2_addPier 51 = .ok (.dup, 1) := by decide +kernel
theorem dX2_addPier_52 : decode cX2_addPier 52 = .ok (.getfield 26, 3) := by decide +kernel
theorem dX2_addPier_55 : decode cX2_addPier 55 = .ok (.iconst 1, 1) := by decide +kernel
theorem dX2_addPier_56 : decode cX2_addPier 56 = .ok (.iadd, 1) := by decide +kernel
theorem dX2_addPier_57 : decode cX2_addPier 57 = .ok (.putfield 26, 3) := by decide +kernel
theorem dX2_addPier_60 : decode cX2_addPier 60 = .ok (.return_, 1) := by decide +kernel
theorem dX2_become_0 : decode cX2_become 0 = .ok (.aload_n 0, 1) := by decide +kernel
theorem dX2_become_1 : decode cX2_become 1 = .ok (.aload_n 1, 1) := by decide +kernel
theorem dX2_become_2 : decode cX2_become 2 = .ok (.getfield 22, 3) := by decide +kernel
theorem dX2_become_5 : decode cX2_become 5 = .ok (.putfield 22, 3) := by decide +kernel
theorem dX2_become_8 : decode cX2_become 8 = .ok (.aload_n 0, 1) := by decide +kernel
theorem dX2_become_9 : decode cX2_become 9 = .ok (.aload_n 1, 1) := by decide +kernel
theorem dX2_become_10 : decode cX2_become 10 = .ok (.getfield 26, 3) := by decide +kernel
theorem dX2_become_13 : decode cX2_become 13 = .ok (.putfield 26, 3) := by decide +kernel
theorem dX2_become_16 : decode cX2_become 16 = .ok (.aload_n 0, 1) := by decide +kernel
theorem dX2_become_17 : decode cX2_become 17 = .ok (.aload_n 1, 1) := by decide +kernel
theorem dX2_become_18 : decode cX2_become 18 = .ok (.getfield 30, 3) := by decide +kernel
theorem dX2_become_21 : decode cX2_become 21 = .ok (.putfield 30, 3) := by decide +kernel
theorem dX2_become_24 : decode cX2_become 24 = .ok (.aload_n 0, 1) := by decide +kernel
theorem dX2_become_25 : decode cX2_become 25 = .ok (.aload_n 1, 1) := by decide +kernel
theorem dX2_become_26 : decode cX2_become 26 = .ok (.getfield 33, 3) := by decide +kernel
theorem dX2_become_29 : decode cX2_become 29 = .ok (.putfield 33, 3) := by decide +kernel
theorem dX2_become_32 : decode cX2_become 32 = .ok (.aload_n 0, 1) := by decide +kernel
theorem dX2_become_33 : decode cX2_become 33 = .ok (.aload_n 1, 1) := by decide +kernel
theorem dX2_become_34 : decode cX2_become 34 = .ok (.getfield 36, 3) := by decide +kernel
theorem dX2_become_37 : decode cX2_become 37 = .ok (.putfield 36, 3) := by decide +kernel
theorem dX2_become_40 : decode cX2_become 40 = .ok (.aload_n 0, 1) := by decide +kernel
theorem dX2_become_41 : decode cX2_become 41 = .ok (.aload_n 1, 1) := by decide +kernel
theorem dX2_become_42 : decode cX2_become 42 = .ok (.getfield 39, 3) := by decide +kernel
theorem dX2_become_45 : decode cX2_become 45 = .ok (.putfield 39, 3) := by decide +kernel
theorem dX2_become_48 : decode cX2_become 48 = .ok (.aload_n 0, 1) := by decide +kernel
theorem dX2_become_49 : decode cX2_become 49 = .ok (.aload_n 1, 1) := by decide +kernel
theorem dX2_become_50 : decode cX2_become 50 = .ok (.getfield 42, 3) := by decide +kernel
theorem dX2_become_53 : decode cX2_become 53 = .ok (.putfield 42, 3) := by decide +kernel
theorem dX2_become_56 : decode cX2_become 56 = .ok (.aload_n 0, 1) := by decide +kernel
theorem dX2_become_57 : decode cX2_become 57 = .ok (.aload_n 1, 1) := by decide +kernel
theorem dX2_become_58 : decode cX2_become 58 = .ok (.getfield 45, 3) := by decide +kernel
theorem dX2_become_61 : decode cX2_become 61 = .ok (.putfield 45, 3) := by decide +kernel
theorem dX2_become_64 : decode cX2_become 64 = .ok (.aload_n 0, 1) := by decide +kernel
theorem dX2_become_65 : decode cX2_become 65 = .ok (.aload_n 1, 1) := by decide +kernel
theorem dX2_become_66 : decode cX2_become 66 = .ok (.getfield 48, 3) := by decide +kernel
theorem dX2_become_69 : decode cX2_become 69 = .ok (.putfield 48, 3) := by decide +kernel
theorem dX2_become_72 : decode cX2_become 72 = .ok (.iconst 0, 1) := by decide +kernel
theorem dX2_become_73 : decode cX2_become 73 = .ok (.istore_n 2, 1) := by decide +kernel
theorem dX2_become_74 : decode cX2_become 74 = .ok (.iload_n 2, 1) := by decide +kernel
theorem dX2_become_75 : decode cX2_become 75 = .ok (.aload_n 0, 1) := by decide +kernel
theorem dX2_become_76 : decode cX2_become 76 = .ok (.getfield 26, 3) := by decide +kernel
theorem dX2_become_79 : decode cX2_become 79 = .ok (.if_icmp .ge 57, 3) := by decide +kernel
theorem dX2_become_82 : decode cX2_become 82 = .ok (.aload_n 0, 1) := by decide +kernel
theorem dX2_become_83 : decode cX2_become 83 = .ok (.getfield 9, 3) := by decide +kernel
theorem dX2_become_86 : decode cX2_become 86 = .ok (.iload_n 2, 1) := by decide +kernel
theorem dX2_become_87 : decode cX2_become 87 = .ok (.aload_n 1, 1) := by decide +kernel
theorem dX2_become_88 : decode cX2_become 88 = .ok (.getfield 9, 3) := by decide +kernel
theorem dX2_become_91 : decode cX2_become 91 = .ok (.iload_n 2, 1) := by decide +kernel
theorem dX2_become_92 : decode cX2_become 92 = .ok (.iaload, 1) := by decide +kernel
theorem dX2_become_93 : decode cX2_become 93 = .ok (.iastore, 1) := by decide +kernel
theorem dX2_become_94 : decode cX2_become 94 = .ok (.aload_n 0, 1) := by decide +kernel
theorem dX2_become_95 : decode cX2_become 95 = .ok (.getfield 13, 3) := by decide +kernel
theorem dX2_become_98 : decode cX2_become 98 = .ok (.iload_n 2, 1) := by decide +kernel
theorem dX2_become_99 : decode cX2_become 99 = .ok (.aload_n 1, 1) := by decide +kernel
theorem dX2_become_100 : decode cX2_become 100 = .ok (.getfield 13, 3) := by decide +kernel
theorem dX2_become_103 : decode cX2_become 103 = .ok (.iload_n 2, 1) := by decide +kernel
theorem dX2_become_104 : decode cX2_become 104 = .ok (.iaload, 1) := by decide +kernel
theorem dX2_become_105 : decode cX2_become 105 = .ok (.iastore, 1) := by decide +kernel
theorem dX2_become_106 : decode cX2_become 106 = .ok (.aload_n 0, 1) := by decide +kernel
theorem dX2_become_107 : decode cX2_become 107 = .ok (.getfield 16, 3) := by decide +kernel
theorem dX2_become_110 : decode cX2_become 110 = .ok (.iload_n 2, 1) := by decide +kernel
theorem dX2_become_111 : decode cX2_become 111 = .ok (.aload_n 1, 1) := by decide +kernel
theorem dX2_become_112 : decode cX2_become 112 = .ok (.getfield 16, 3) := by decide +kernel
theorem dX2_become_115 : decode cX2_become 115 = .ok (.iload_n 2, 1) := by decide +kernel
theorem dX2_become_116 : decode cX2_become 116 = .ok (.iaload, 1) := by decide +kernel
theorem dX2_become_117 : decode cX2_become 117 = .ok (.iastore, 1) := by decide +kernel
theorem dX2_become_118 : decode cX2_become 118 = .ok (.aload_n 0, 1) := by decide +kernel
theorem dX2_become_119 : decode cX2_become 119 = .ok (.getfield 19, 3) := by decide +kernel
theorem dX2_become_122 : decode cX2_become 122 = .ok (.iload_n 2, 1) := by decide +kernel
theorem dX2_become_123 : decode cX2_become 123 = .ok (.aload_n 1, 1) := by decide +kernel
theorem dX2_become_124 : decode cX2_become 124 = .ok (.getfield 19, 3) := by decide +kernel
theorem dX2_become_127 : decode cX2_become 127 = .ok (.iload_n 2, 1) := by decide +kernel
theorem dX2_become_128 : decode cX2_become 128 = .ok (.iaload, 1) := by decide +kernel
theorem dX2_become_129 : decode cX2_become 129 = .ok (.iastore, 1) := by decide +kernel
theorem dX2_become_130 : decode cX2_become 130 = .ok (.iinc 2 1, 3) := by decide +kernel
theorem dX2_become_133 : decode cX2_become 133 = .ok (.goto (-59), 3) := by decide +kernel
theorem dX2_become_136 : decode cX2_become 136 = .ok (.return_, 1) := by decide +kernel
theorem dX2_change_0 : decode cX2_change 0 = .ok (.iload_n 2, 1) := by decide +kernel
theorem dX2_change_1 : decode cX2_change 1 = .ok (.tableswitch 57 0 2 #[27, 37, 47], 27) := by decide +kernel
theorem dX2_change_28 : decode cX2_change 28 = .ok (.aload_n 0, 1) := by decide +kernel
theorem dX2_change_29 : decode cX2_change 29 = .ok (.getfield 13, 3) := by decide +kernel
theorem dX2_change_32 : decode cX2_change 32 = .ok (.iload_n 1, 1) := by decide +kernel
theorem dX2_change_33 : decode cX2_change 33 = .ok (.iload_n 3, 1) := by decide +kernel
theorem dX2_change_34 : decode cX2_change 34 = .ok (.iastore, 1) := by decide +kernel
theorem dX2_change_35 : decode cX2_change 35 = .ok (.goto 30, 3) := by decide +kernel
theorem dX2_change_38 : decode cX2_change 38 = .ok (.aload_n 0, 1) := by decide +kernel
theorem dX2_change_39 : decode cX2_change 39 = .ok (.getfield 16, 3) := by decide +kernel
theorem dX2_change_42 : decode cX2_change 42 = .ok (.iload_n 1, 1) := by decide +kernel
theorem dX2_change_43 : decode cX2_change 43 = .ok (.iload_n 3, 1) := by decide +kernel
theorem dX2_change_44 : decode cX2_change 44 = .ok (.iastore, 1) := by decide +kernel
theorem dX2_change_45 : decode cX2_change 45 = .ok (.goto 20, 3) := by decide +kernel
theorem dX2_change_48 : decode cX2_change 48 = .ok (.aload_n 0, 1) := by decide +kernel
theorem dX2_change_49 : decode cX2_change 49 = .ok (.getfield 9, 3) := by decide +kernel
theorem dX2_change_52 : decode cX2_change 52 = .ok (.iload_n 1, 1) := by decide +kernel
theorem dX2_change_53 : decode cX2_change 53 = .ok (.iload_n 3, 1) := by decide +kernel
theorem dX2_change_54 : decode cX2_change 54 = .ok (.iastore, 1) := by decide +kernel
theorem dX2_change_55 : decode cX2_change 55 = .ok (.goto 10, 3) := by decide +kernel
theorem dX2_change_58 : decode cX2_change 58 = .ok (.aload_n 0, 1) := by decide +kernel
theorem dX2_change_59 : decode cX2_change 59 = .ok (.getfield 19, 3) := by decide +kernel
theorem dX2_change_62 : decode cX2_change 62 = .ok (.iload_n 1, 1) := by decide +kernel
theorem dX2_change_63 : decode cX2_change 63 = .ok (.iload_n 3, 1) := by decide +kernel
theorem dX2_change_64 : decode cX2_change 64 = .ok (.iastore, 1) := by decide +kernel
theorem dX2_change_65 : decode cX2_change 65 = .ok (.return_, 1) := by decide +kernel
theorem dX2_placeFrom_0 : decode cX2_placeFrom 0 = .ok (.iload_n 0, 1) := by decide +kernel
theorem dX2_placeFrom_1 : decode cX2_placeFrom 1 = .ok (.iload_n 1, 1) := by decide +kernel
theorem dX2_placeFrom_2 : decode cX2_placeFrom 2 = .ok (.bipush 10, 2) := by decide +kernel
theorem dX2_placeFrom_4 : decode cX2_placeFrom 4 = .ok (.iadd, 1) := by decide +kernel
theorem dX2_placeFrom_5 : decode cX2_placeFrom 5 = .ok (.iconst 1, 1) := by decide +kernel
theorem dX2_placeFrom_6 : decode cX2_placeFrom 6 = .ok (.isub, 1) := by decide +kernel
theorem dX2_placeFrom_7 : decode cX2_placeFrom 7 = .ok (.iload_n 2, 1) := by decide +kernel
theorem dX2_placeFrom_8 : decode cX2_placeFrom 8 = .ok (.imul, 1) := by decide +kernel
theorem dX2_placeFrom_9 : decode cX2_placeFrom 9 = .ok (.iadd, 1) := by decide +kernel
theorem dX2_placeFrom_10 : decode cX2_placeFrom 10 = .ok (.bipush 10, 2) := by decide +kernel
theorem dX2_placeFrom_12 : decode cX2_placeFrom 12 = .ok (.irem, 1) := by decide +kernel
theorem dX2_placeFrom_13 : decode cX2_placeFrom 13 = .ok (.ireturn, 1) := by decide +kernel
theorem dX2_endOf_0 : decode cX2_endOf 0 = .ok (.aload_n 0, 1) := by decide +kernel
theorem dX2_endOf_1 : decode cX2_endOf 1 = .ok (.getfield 13, 3) := by decide +kernel
theorem dX2_endOf_4 : decode cX2_endOf 4 = .ok (.iload_n 1, 1) := by decide +kernel
theorem dX2_endOf_5 : decode cX2_endOf 5 = .ok (.iaload, 1) := by decide +kernel
theorem dX2_endOf_6 : decode cX2_endOf 6 = .ok (.aload_n 0, 1) := by decide +kernel
theorem dX2_endOf_7 : decode cX2_endOf 7 = .ok (.getfield 16, 3) := by decide +kernel
theorem dX2_endOf_10 : decode cX2_endOf 10 = .ok (.iload_n 1, 1) := by decide +kernel
theorem dX2_endOf_11 : decode cX2_endOf 11 = .ok (.iaload, 1) := by decide +kernel
theorem dX2_endOf_12 : decode cX2_endOf 12 = .ok (.aload_n 0, 1) := by decide +kernel
theorem dX2_endOf_13 : decode cX2_endOf 13 = .ok (.getfield 19, 3) := by decide +kernel
theorem dX2_endOf_16 : decode cX2_endOf 16 = .ok (.iload_n 1, 1) := by decide +kernel
theorem dX2_endOf_17 : decode cX2_endOf 17 = .ok (.iaload, 1) := by decide +kernel
theorem dX2_endOf_18 : decode cX2_endOf 18 = .ok (.invokestatic 51, 3) := by decide +kernel
theorem dX2_endOf_21 : decode cX2_endOf 21 = .ok (.ireturn, 1) := by decide +kernel
theorem dX2_takeAt_0 : decode cX2_takeAt 0 = .ok (.iload_n 2, 1) := by decide +kernel
theorem dX2_takeAt_1 : decode cX2_takeAt 1 = .ok (.ifCond .eq 10, 3) := by decide +kernel
theorem dX2_takeAt_4 : decode cX2_takeAt 4 = .ok (.aload_n 0, 1) := by decide +kernel
theorem dX2_takeAt_5 : decode cX2_takeAt 5 = .ok (.getfield 45, 3) := by decide +kernel
theorem dX2_takeAt_8 : decode cX2_takeAt 8 = .ok (.ifCond .gt 5, 3) := by decide +kernel
theorem dX2_takeAt_11 : decode cX2_takeAt 11 = .ok (.iconst 0, 1) := by decide +kernel
theorem dX2_takeAt_12 : decode cX2_takeAt 12 = .ok (.ireturn, 1) := by decide +kernel
theorem dX2_takeAt_13 : decode cX2_takeAt 13 = .ok (.iload_n 1, 1) := by decide +kernel
theorem dX2_takeAt_14 : decode cX2_takeAt 14 = .ok (.aload_n 0, 1) := by decide +kernel
theorem dX2_takeAt_15 : decode cX2_takeAt 15 = .ok (.getfield 39, 3) := by decide +kernel
theorem dX2_takeAt_18 : decode cX2_takeAt 18 = .ok (.imul, 1) := by decide +kernel
theorem dX2_takeAt_19 : decode cX2_takeAt 19 = .ok (.iload_n 2, 1) := by decide +kernel
theorem dX2_takeAt_20 : decode cX2_takeAt 20 = .ok (.aload_n 0, 1) := by decide +kernel
theorem dX2_takeAt_21 : decode cX2_takeAt 21 = .ok (.getfield 42, 3) := by decide +kernel
theorem dX2_takeAt_24 : decode cX2_takeAt 24 = .ok (.imul, 1) := by decide +kernel
theorem dX2_takeAt_25 : decode cX2_takeAt 25 = .ok (.iadd, 1) := by decide +kernel
theorem dX2_takeAt_26 : decode cX2_takeAt 26 = .ok (.aload_n 0, 1) := by decide +kernel
theorem dX2_takeAt_27 : decode cX2_takeAt 27 = .ok (.getfield 45, 3) := by decide +kernel
theorem dX2_takeAt_30 : decode cX2_takeAt 30 = .ok (.irem, 1) := by decide +kernel
theorem dX2_takeAt_31 : decode cX2_takeAt 31 = .ok (.ireturn, 1) := by decide +kernel
theorem dX2_takeOf_0 : decode cX2_takeOf 0 = .ok (.aload_n 0, 1) := by decide +kernel
theorem dX2_takeOf_1 : decode cX2_takeOf 1 = .ok (.aload_n 0, 1) := by decide +kernel
theorem dX2_takeOf_2 : decode cX2_takeOf 2 = .ok (.iload_n 1, 1) := by decide +kernel
theorem dX2_takeOf_3 : decode cX2_takeOf 3 = .ok (.invokevirtual 55, 3) := by decide +kernel
theorem dX2_takeOf_6 : decode cX2_takeOf 6 = .ok (.aload_n 0, 1) := by decide +kernel
theorem dX2_takeOf_7 : decode cX2_takeOf 7 = .ok (.getfield 19, 3) := by decide +kernel
theorem dX2_takeOf_10 : decode cX2_takeOf 10 = .ok (.iload_n 1, 1) := by decide +kernel
theorem dX2_takeOf_11 : decode cX2_takeOf 11 = .ok (.iaload, 1) := by decide +kernel
theorem dX2_takeOf_12 : decode cX2_takeOf 12 = .ok (.invokevirtual 59, 3) := by decide +kernel
theorem dX2_takeOf_15 : decode cX2_takeOf 15 = .ok (.ireturn, 1) := by decide +kernel
theorem dX2_takeTogether_0 : decode cX2_takeTogether 0 = .ok (.iconst 0, 1) := by decide +kernel
theorem dX2_takeTogether_1 : decode cX2_takeTogether 1 = .ok (.istore_n 1, 1) := by decide +kernel
theorem dX2_takeTogether_2 : decode cX2_takeTogether 2 = .ok (.iconst 0, 1) := by decide +kernel
theorem dX2_takeTogether_3 : decode cX2_takeTogether 3 = .ok (.istore_n 2, 1) := by decide +kernel
theorem dX2_takeTogether_4 : decode cX2_takeTogether 4 = .ok (.iload_n 2, 1) := by decide +kernel
theorem dX2_takeTogether_5 : decode cX2_takeTogether 5 = .ok (.aload_n 0, 1) := by decide +kernel
theorem dX2_takeTogether_6 : decode cX2_takeTogether 6 = .ok (.getfield 26, 3) := by decide +kernel
theorem dX2_takeTogether_9 : decode cX2_takeTogether 9 = .ok (.if_icmp .ge 17, 3) := by decide +kernel
theorem dX2_takeTogether_12 : decode cX2_takeTogether 12 = .ok (.iload_n 1, 1) := by decide +kernel
theorem dX2_takeTogether_13 : decode cX2_takeTogether 13 = .ok (.aload_n 0, 1) := by decide +kernel
theorem dX2_takeTogether_14 : decode cX2_takeTogether 14 = .ok (.iload_n 2, 1) := by decide +kernel
theorem dX2_takeTogether_15 : decode cX2_takeTogether 15 = .ok (.invokevirtual 63, 3) := by decide +kernel
theorem dX2_takeTogether_18 : decode cX2_takeTogether 18 = .ok (.iadd, 1) := by decide +kernel
theorem dX2_takeTogether_19 : decode cX2_takeTogether 19 = .ok (.istore_n 1, 1) := by decide +kernel
theorem dX2_takeTogether_20 : decode cX2_takeTogether 20 = .ok (.iinc 2 1, 3) := by decide +kernel
theorem dX2_takeTogether_23 : decode cX2_takeTogether 23 = .ok (.goto (-19), 3) := by decide +kernel
theorem dX2_takeTogether_26 : decode cX2_takeTogether 26 = .ok (.iload_n 1, 1) := by decide +kernel
theorem dX2_takeTogether_27 : decode cX2_takeTogether 27 = .ok (.ireturn, 1) := by decide +kernel
theorem dX2_storm_0 : decode cX2_storm 0 = .ok (.aload_n 0, 1) := by decide +kernel
theorem dX2_storm_1 : decode cX2_storm 1 = .ok (.aload_n 0, 1) := by decide +kernel
theorem dX2_storm_2 : decode cX2_storm 2 = .ok (.getfield 30, 3) := by decide +kernel
theorem dX2_storm_5 : decode cX2_storm 5 = .ok (.invokevirtual 66, 3) := by decide +kernel
theorem dX2_storm_8 : decode cX2_storm 8 = .ok (.ireturn, 1) := by decide +kernel
theorem dX2_stormOf_0 : decode cX2_stormOf 0 = .ok (.iload_n 1, 1) := by decide +kernel
theorem dX2_stormOf_1 : decode cX2_stormOf 1 = .ok (.iconst 1, 1) := by decide +kernel
theorem dX2_stormOf_2 : decode cX2_stormOf 2 = .ok (.iadd, 1) := by decide +kernel
theorem dX2_stormOf_3 : decode cX2_stormOf 3 = .ok (.aload_n 0, 1) := by decide +kernel
theorem dX2_stormOf_4 : decode cX2_stormOf 4 = .ok (.getfield 48, 3) := by decide +kernel
theorem dX2_stormOf_7 : decode cX2_stormOf 7 = .ok (.imul, 1) := by decide +kernel
theorem dX2_stormOf_8 : decode cX2_stormOf 8 = .ok (.iconst 5, 1) := by decide +kernel
theorem dX2_stormOf_9 : decode cX2_stormOf 9 = .ok (.irem, 1) := by decide +kernel
theorem dX2_stormOf_10 : decode cX2_stormOf 10 = .ok (.ireturn, 1) := by decide +kernel
theorem dX2_lossOfKind_0 : decode cX2_lossOfKind 0 = .ok (.iload_n 0, 1) := by decide +kernel
theorem dX2_lossOfKind_1 : decode cX2_lossOfKind 1 = .ok (.tableswitch 70 2 5 #[31, 35, 49, 59], 31) := by decide +kernel
theorem dX2_lossOfKind_32 : decode cX2_lossOfKind 32 = .ok (.iload_n 1, 1) := by decide +kernel
theorem dX2_lossOfKind_33 : decode cX2_lossOfKind 33 = .ok (.iconst 2, 1) := by decide +kernel
theorem dX2_lossOfKind_34 : decode cX2_lossOfKind 34 = .ok (.idiv, 1) := by decide +kernel
theorem dX2_lossOfKind_35 : decode cX2_lossOfKind 35 = .ok (.ireturn, 1) := by decide +kernel
theorem dX2_lossOfKind_36 : decode cX2_lossOfKind 36 = .ok (.iload_n 2, 1) := by decide +kernel
theorem dX2_lossOfKind_37 : decode cX2_lossOfKind 37 = .ok (.iconst 2, 1) := by decide +kernel
theorem dX2_lossOfKind_38 : decode cX2_lossOfKind 38 = .ok (.irem, 1) := by decide +kernel
theorem dX2_lossOfKind_39 : decode cX2_lossOfKind 39 = .ok (.ifCond .ne 9, 3) := by decide +kernel
theorem dX2_lossOfKind_42 : decode cX2_lossOfKind 42 = .ok (.iload_n 1, 1) := by decide +kernel
theorem dX2_lossOfKind_43 : decode cX2_lossOfKind 43 = .ok (.iconst 1, 1) := by decide +kernel
theorem dX2_lossOfKind_44 : decode cX2_lossOfKind 44 = .ok (.iadd, 1) := by decide +kernel
theorem dX2_lossOfKind_45 : decode cX2_lossOfKind 45 = .ok (.goto 4, 3) := by decide +kernel
theorem dX2_lossOfKind_48 : decode cX2_lossOfKind 48 = .ok (.iload_n 1, 1) := by decide +kernel
theorem dX2_lossOfKind_49 : decode cX2_lossOfKind 49 = .ok (.ireturn, 1) := by decide +kernel
theorem dX2_lossOfKind_50 : decode cX2_lossOfKind 50 = .ok (.iload_n 1, 1) := by decide +kernel
theorem dX2_lossOfKind_51 : decode cX2_lossOfKind 51 = .ok (.ifCond .le 7, 3) := by decide +kernel
theorem dX2_lossOfKind_54 : decode cX2_lossOfKind 54 = .ok (.iconst 1, 1) := by decide +kernel
theorem dX2_lossOfKind_55 : decode cX2_lossOfKind 55 = .ok (.goto 4, 3) := by decide +kernel
theorem dX2_lossOfKind_58 : decode cX2_lossOfKind 58 = .ok (.iconst 0, 1) := by decide +kernel
theorem dX2_lossOfKind_59 : decode cX2_lossOfKind 59 = .ok (.ireturn, 1) := by decide +kernel
theorem dX2_lossOfKind_60 : decode cX2_lossOfKind 60 = .ok (.iload_n 1, 1) := by decide +kernel
theorem dX2_lossOfKind_61 : decode cX2_lossOfKind 61 = .ok (.iconst 4, 1) := by decide +kernel
theorem dX2_lossOfKind_62 : decode cX2_lossOfKind 62 = .ok (.if_icmp .ne 7, 3) := by decide +kernel
theorem dX2_lossOfKind_65 : decode cX2_lossOfKind 65 = .ok (.iconst 1, 1) := by decide +kernel
theorem dX2_lossOfKind_66 : decode cX2_lossOfKind 66 = .ok (.goto 4, 3) := by decide +kernel
theorem dX2_lossOfKind_69 : decode cX2_lossOfKind 69 = .ok (.iconst 0, 1) := by decide +kernel
theorem dX2_lossOfKind_70 : decode cX2_lossOfKind 70 = .ok (.ireturn, 1) := by decide +kernel
theorem dX2_lossOfKind_71 : decode cX2_lossOfKind 71 = .ok (.iload_n 1, 1) := by decide +kernel
theorem dX2_lossOfKind_72 : decode cX2_lossOfKind 72 = .ok (.ireturn, 1) := by decide +kernel
theorem dX2_lossOf_0 : decode cX2_lossOf 0 = .ok (.aload_n 0, 1) := by decide +kernel
theorem dX2_lossOf_1 : decode cX2_lossOf 1 = .ok (.getfield 19, 3) := by decide +kernel
theorem dX2_lossOf_4 : decode cX2_lossOf 4 = .ok (.iload_n 1, 1) := by decide +kernel
theorem dX2_lossOf_5 : decode cX2_lossOf 5 = .ok (.iaload, 1) := by decide +kernel
theorem dX2_lossOf_6 : decode cX2_lossOf 6 = .ok (.aload_n 0, 1) := by decide +kernel
theorem dX2_lossOf_7 : decode cX2_lossOf 7 = .ok (.getfield 9, 3) := by decide +kernel
theorem dX2_lossOf_10 : decode cX2_lossOf 10 = .ok (.iload_n 1, 1) := by decide +kernel
theorem dX2_lossOf_11 : decode cX2_lossOf 11 = .ok (.iaload, 1) := by decide +kernel
theorem dX2_lossOf_12 : decode cX2_lossOf 12 = .ok (.iload_n 2, 1) := by decide +kernel
theorem dX2_lossOf_13 : decode cX2_lossOf 13 = .ok (.aload_n 0, 1) := by decide +kernel
theorem dX2_lossOf_14 : decode cX2_lossOf 14 = .ok (.getfield 30, 3) := by decide +kernel
theorem dX2_lossOf_17 : decode cX2_lossOf 17 = .ok (.invokestatic 69, 3) := by decide +kernel
theorem dX2_lossOf_20 : decode cX2_lossOf 20 = .ok (.invokestatic 72, 3) := by decide +kernel
theorem dX2_lossOf_23 : decode cX2_lossOf 23 = .ok (.ireturn, 1) := by decide +kernel
theorem dX2_pass_0 : decode cX2_pass 0 = .ok (.aload_n 0, 1) := by decide +kernel
theorem dX2_pass_1 : decode cX2_pass 1 = .ok (.sipush 9999, 3) := by decide +kernel
theorem dX2_pass_4 : decode cX2_pass 4 = .ok (.aload_n 0, 1) := by decide +kernel
theorem dX2_pass_5 : decode cX2_pass 5 = .ok (.getfield 33, 3) := by decide +kernel
theorem dX2_pass_8 : decode cX2_pass 8 = .ok (.aload_n 0, 1) := by decide +kernel
theorem dX2_pass_9 : decode cX2_pass 9 = .ok (.invokevirtual 77, 3) := by decide +kernel
theorem dX2_pass_12 : decode cX2_pass 12 = .ok (.iadd, 1) := by decide +kernel
theorem dX2_pass_13 : decode cX2_pass 13 = .ok (.invokestatic 72, 3) := by decide +kernel
theorem dX2_pass_16 : decode cX2_pass 16 = .ok (.putfield 33, 3) := by decide +kernel
theorem dX2_pass_19 : decode cX2_pass 19 = .ok (.iconst 0, 1) := by decide +kernel
theorem dX2_pass_20 : decode cX2_pass 20 = .ok (.istore_n 2, 1) := by decide +kernel
theorem dX2_pass_21 : decode cX2_pass 21 = .ok (.iload_n 2, 1) := by decide +kernel
theorem dX2_pass_22 : decode cX2_pass 22 = .ok (.aload_n 0, 1) := by decide +kernel
theorem dX2_pass_23 : decode cX2_pass 23 = .ok (.getfield 26, 3) := by decide +kernel
theorem dX2_pass_26 : decode cX2_pass 26 = .ok (.if_icmp .ge 24, 3) := by decide +kernel
theorem dX2_pass_29 : decode cX2_pass 29 = .ok (.aload_n 0, 1) := by decide +kernel
theorem dX2_pass_30 : decode cX2_pass 30 = .ok (.getfield 19, 3) := by decide +kernel
theorem dX2_pass_33 : decode cX2_pass 33 = .ok (.iload_n 2, 1) := by decide +kernel
theorem dX2_pass_34 : decode cX2_pass 34 = .ok (.dup2, 1) := by decide +kernel
theorem dX2_pass_35 : decode cX2_pass 35 = .ok (.iaload, 1) := by decide +kernel
theorem dX2_pass_36 : decode cX2_pass 36 = .ok (.aload_n 0, 1) := by decide +kernel
theorem dX2_pass_37 : decode cX2_pass 37 = .ok (.iload_n 2, 1) := by decide +kernel
theorem dX2_pass_38 : decode cX2_pass 38 = .ok (.iload_n 1, 1) := by decide +kernel
theorem dX2_pass_39 : decode cX2_pass 39 = .ok (.invokevirtual 81, 3) := by decide +kernel
theorem dX2_pass_42 : decode cX2_pass 42 = .ok (.isub, 1) := by decide +kernel
theorem dX2_pass_43 : decode cX2_pass 43 = .ok (.iastore, 1) := by decide +kernel
theorem dX2_pass_44 : decode cX2_pass 44 = .ok (.iinc 2 1, 3) := by decide +kernel
theorem dX2_pass_47 : decode cX2_pass 47 = .ok (.goto (-26), 3) := by decide +kernel
theorem dX2_pass_50 : decode cX2_pass 50 = .ok (.aload_n 0, 1) := by decide +kernel
theorem dX2_pass_51 : decode cX2_pass 51 = .ok (.dup, 1) := by decide +kernel
theorem dX2_pass_52 : decode cX2_pass 52 = .ok (.getfield 30, 3) := by decide +kernel
theorem dX2_pass_55 : decode cX2_pass 55 = .ok (.iconst 1, 1) := by decide +kernel
theorem dX2_pass_56 : decode cX2_pass 56 = .ok (.iadd, 1) := by decide +kernel
theorem dX2_pass_57 : decode cX2_pass 57 = .ok (.putfield 30, 3) := by decide +kernel
theorem dX2_pass_60 : decode cX2_pass 60 = .ok (.return_, 1) := by decide +kernel
theorem dX2_passAll_0 : decode cX2_passAll 0 = .ok (.iconst 0, 1) := by decide +kernel
theorem dX2_passAll_1 : decode cX2_passAll 1 = .ok (.istore_n 2, 1) := by decide +kernel
theorem dX2_passAll_2 : decode cX2_passAll 2 = .ok (.iload_n 2, 1) := by decide +kernel
theorem dX2_passAll_3 : decode cX2_passAll 3 = .ok (.iload_n 1, 1) := by decide +kernel
theorem dX2_passAll_4 : decode cX2_passAll 4 = .ok (.if_icmp .ge 17, 3) := by decide +kernel
theorem dX2_passAll_7 : decode cX2_passAll 7 = .ok (.aload_n 0, 1) := by decide +kernel
theorem dX2_passAll_8 : decode cX2_passAll 8 = .ok (.aload_n 0, 1) := by decide +kernel
theorem dX2_passAll_9 : decode cX2_passAll 9 = .ok (.invokevirtual 84, 3) := by decide +kernel
theorem dX2_passAll_12 : decode cX2_passAll 12 = .ok (.invokevirtual 87, 3) := by decide +kernel
theorem dX2_passAll_15 : decode cX2_passAll 15 = .ok (.iinc 2 1, 3) := by decide +kernel
theorem dX2_passAll_18 : decode cX2_passAll 18 = .ok (.goto (-16), 3) := by decide +kernel
theorem dX2_passAll_21 : decode cX2_passAll 21 = .ok (.return_, 1) := by decide +kernel
theorem dX2_takenAhead_0 : decode cX2_takenAhead 0 = .ok (.iconst 0, 1) := by decide +kernel
theorem dX2_takenAhead_1 : decode cX2_takenAhead 1 = .ok (.istore 4, 2) := by decide +kernel
theorem dX2_takenAhead_3 : decode cX2_takenAhead 3 = .ok (.iload_n 2, 1) := by decide +kernel
theorem dX2_takenAhead_4 : decode cX2_takenAhead 4 = .ok (.istore 5, 2) := by decide +kernel
theorem dX2_takenAhead_6 : decode cX2_takenAhead 6 = .ok (.aload_n 0, 1) := by decide +kernel
theorem dX2_takenAhead_7 : decode cX2_takenAhead 7 = .ok (.getfield 30, 3) := by decide +kernel
theorem dX2_takenAhead_10 : decode cX2_takenAhead 10 = .ok (.istore 6, 2) := by decide +kernel
theorem dX2_takenAhead_12 : decode cX2_takenAhead 12 = .ok (.iload 6, 2) := by decide +kernel
theorem dX2_takenAhead_14 : decode cX2_takenAhead 14 = .ok (.aload_n 0, 1) := by decide +kernel
theorem dX2_takenAhead_15 : decode cX2_takenAhead 15 = .ok (.getfield 30, 3) := by decide +kernel
theorem dX2_takenAhead_18 : decode cX2_takenAhead 18 = .ok (.iload_n 3, 1) := by decide +kernel
theorem dX2_takenAhead_19 : decode cX2_takenAhead 19 = .ok (.iadd, 1) := by decide +kernel
theorem dX2_takenAhead_20 : decode cX2_takenAhead 20 = .ok (.if_icmp .ge 68, 3) := by decide +kernel
theorem dX2_takenAhead_23 : decode cX2_takenAhead 23 = .ok (.iload 5, 2) := by decide +kernel
theorem dX2_takenAhead_25 : decode cX2_takenAhead 25 = .ok (.ifCond .le 63, 3) := by decide +kernel
theorem dX2_takenAhead_28 : decode cX2_takenAhead 28 = .ok (.iload 4, 2) := by decide +kernel
theorem dX2_takenAhead_30 : decode cX2_takenAhead 30 = .ok (.aload_n 0, 1) := by decide +kernel
theorem dX2_takenAhead_31 : decode cX2_takenAhead 31 = .ok (.aload_n 0, 1) := by decide +kernel
theorem dX2_takenAhead_32 : decode cX2_takenAhead 32 = .ok (.getfield 13, 3) := by decide +kernel
theorem dX2_takenAhead_35 : decode cX2_takenAhead 35 = .ok (.iload_n 1, 1) := by decide +kernel
theorem dX2_takenAhead_36 : decode cX2_takenAhead 36 = .ok (.iaload, 1) := by decide +kernel
theorem dX2_takenAhead_37 : decode cX2_takenAhead 37 = .ok (.aload_n 0, 1) := by decide +kernel
theorem dX2_takenAhead_38 : decode cX2_takenAhead 38 = .ok (.getfield 16, 3) := by decide +kernel
theorem dX2_takenAhead_41 : decode cX2_takenAhead 41 = .ok (.iload_n 1, 1) := by decide +kernel
theorem dX2_takenAhead_42 : decode cX2_takenAhead 42 = .ok (.iaload, 1) := by decide +kernel
theorem dX2_takenAhead_43 : decode cX2_takenAhead 43 = .ok (.iload 5, 2) := by decide +kernel
theorem dX2_takenAhead_45 : decode cX2_takenAhead 45 = .ok (.invokestatic 51, 3) := by decide +kernel
theorem dX2_takenAhead_48 : decode cX2_takenAhead 48 = .ok (.iload 5, 2) := by decide +kernel
theorem dX2_takenAhead_50 : decode cX2_takenAhead 50 = .ok (.invokevirtual 59, 3) := by decide +kernel
theorem dX2_takenAhead_53 : decode cX2_takenAhead 53 = .ok (.iadd, 1) := by decide +kernel
theorem dX2_takenAhead_54 : decode cX2_takenAhead 54 = .ok (.istore 4, 2) := by decide +kernel
theorem dX2_takenAhead_56 : decode cX2_takenAhead 56 = .ok (.iconst 0, 1) := by decide +kernel
theorem dX2_takenAhead_57 : decode cX2_takenAhead 57 = .ok (.iload 5, 2) := by decide +kernel
theorem dX2_takenAhead_59 : decode cX2_takenAhead 59 = .ok (.aload_n 0, 1) := by decide +kernel
theorem dX2_takenAhead_60 : decode cX2_takenAhead 60 = .ok (.getfield 9, 3) := by decide +kernel
theorem dX2_takenAhead_63 : decode cX2_takenAhead 63 = .ok (.iload_n 1, 1) := by decide +kernel
theorem dX2_takenAhead_64 : decode cX2_takenAhead 64 = .ok (.iaload, 1) := by decide +kernel
theorem dX2_takenAhead_65 : decode cX2_takenAhead 65 = .ok (.aload_n 0, 1) := by decide +kernel
theorem dX2_takenAhead_66 : decode cX2_takenAhead 66 = .ok (.iload 6, 2) := by decide +kernel
theorem dX2_takenAhead_68 : decode cX2_takenAhead 68 = .ok (.invokevirtual 66, 3) := by decide +kernel
theorem dX2_takenAhead_71 : decode cX2_takenAhead 71 = .ok (.iload 6, 2) := by decide +kernel
theorem dX2_takenAhead_73 : decode cX2_takenAhead 73 = .ok (.invokestatic 69, 3) := by decide +kernel
theorem dX2_takenAhead_76 : decode cX2_takenAhead 76 = .ok (.isub, 1) := by decide +kernel
theorem dX2_takenAhead_77 : decode cX2_takenAhead 77 = .ok (.invokestatic 91, 3) := by decide +kernel
theorem dX2_takenAhead_80 : decode cX2_takenAhead 80 = .ok (.istore 5, 2) := by decide +kernel
theorem dX2_takenAhead_82 : decode cX2_takenAhead 82 = .ok (.iinc 6 1, 3) := by decide +kernel
theorem dX2_takenAhead_85 : decode cX2_takenAhead 85 = .ok (.goto (-73), 3) := by decide +kernel
theorem dX2_takenAhead_88 : decode cX2_takenAhead 88 = .ok (.iload 4, 2) := by decide +kernel
theorem dX2_takenAhead_90 : decode cX2_takenAhead 90 = .ok (.ireturn, 1) := by decide +kernel
theorem dX2_buildSpan_0 : decode cX2_buildSpan 0 = .ok (.aload_n 0, 1) := by decide +kernel
theorem dX2_buildSpan_1 : decode cX2_buildSpan 1 = .ok (.getfield 19, 3) := by decide +kernel
theorem dX2_buildSpan_4 : decode cX2_buildSpan 4 = .ok (.iload_n 1, 1) := by decide +kernel
theorem dX2_buildSpan_5 : decode cX2_buildSpan 5 = .ok (.dup2, 1) := by decide +kernel
theorem dX2_buildSpan_6 : decode cX2_buildSpan 6 = .ok (.iaload, 1) := by decide +kernel
theorem dX2_buildSpan_7 : decode cX2_buildSpan 7 = .ok (.iconst 1, 1) := by decide +kernel
theorem dX2_buildSpan_8 : decode cX2_buildSpan 8 = .ok (.iadd, 1) := by decide +kernel
theorem dX2_buildSpan_9 : decode cX2_buildSpan 9 = .ok (.iastore, 1) := by decide +kernel
theorem dX2_buildSpan_10 : decode cX2_buildSpan 10 = .ok (.aload_n 0, 1) := by decide +kernel
theorem dX2_buildSpan_11 : decode cX2_buildSpan 11 = .ok (.dup, 1) := by decide +kernel
theorem dX2_buildSpan_12 : decode cX2_buildSpan 12 = .ok (.getfield 36, 3) := by decide +kernel
theorem dX2_buildSpan_15 : decode cX2_buildSpan 15 = .ok (.iconst 1, 1) := by decide +kernel
theorem dX2_buildSpan_16 : decode cX2_buildSpan 16 = .ok (.isub, 1) := by decide +kernel
theorem dX2_buildSpan_17 : decode cX2_buildSpan 17 = .ok (.putfield 36, 3) := by decide +kernel
theorem dX2_buildSpan_20 : decode cX2_buildSpan 20 = .ok (.return_, 1) := by decide +kernel
theorem dX2_allSpans_0 : decode cX2_allSpans 0 = .ok (.iconst 0, 1) := by decide +kernel
theorem dX2_allSpans_1 : decode cX2_allSpans 1 = .ok (.istore_n 1, 1) := by decide +kernel
theorem dX2_allSpans_2 : decode cX2_allSpans 2 = .ok (.iconst 0, 1) := by decide +kernel
theorem dX2_allSpans_3 : decode cX2_allSpans 3 = .ok (.istore_n 2, 1) := by decide +kernel
theorem dX2_allSpans_4 : decode cX2_allSpans 4 = .ok (.iload_n 2, 1) := by decide +kernel
theorem dX2_allSpans_5 : decode cX2_allSpans 5 = .ok (.aload_n 0, 1) := by decide +kernel
theorem dX2_allSpans_6 : decode cX2_allSpans 6 = .ok (.getfield 26, 3) := by decide +kernel
theorem dX2_allSpans_9 : decode cX2_allSpans 9 = .ok (.if_icmp .ge 18, 3) := by decide +kernel
theorem dX2_allSpans_12 : decode cX2_allSpans 12 = .ok (.iload_n 1, 1) := by decide +kernel
theorem dX2_allSpans_13 : decode cX2_allSpans 13 = .ok (.aload_n 0, 1) := by decide +kernel
theorem dX2_allSpans_14 : decode cX2_allSpans 14 = .ok (.getfield 19, 3) := by decide +kernel
theorem dX2_allSpans_17 : decode cX2_allSpans 17 = .ok (.iload_n 2, 1) := by decide +kernel
theorem dX2_allSpans_18 : decode cX2_allSpans 18 = .ok (.iaload, 1) := by decide +kernel
theorem dX2_allSpans_19 : decode cX2_allSpans 19 = .ok (.iadd, 1) := by decide +kernel
theorem dX2_allSpans_20 : decode cX2_allSpans 20 = .ok (.istore_n 1, 1) := by decide +kernel
theorem dX2_allSpans_21 : decode cX2_allSpans 21 = .ok (.iinc 2 1, 3) := by decide +kernel
theorem dX2_allSpans_24 : decode cX2_allSpans 24 = .ok (.goto (-20), 3) := by decide +kernel
theorem dX2_allSpans_27 : decode cX2_allSpans 27 = .ok (.iload_n 1, 1) := by decide +kernel
theorem dX2_allSpans_28 : decode cX2_allSpans 28 = .ok (.ireturn, 1) := by decide +kernel
theorem dX2_crossing_0 : decode cX2_crossing 0 = .ok (.aload_n 0, 1) := by decide +kernel
theorem dX2_crossing_1 : decode cX2_crossing 1 = .ok (.getfield 19, 3) := by decide +kernel
theorem dX2_crossing_4 : decode cX2_crossing 4 = .ok (.iload_n 1, 1) := by decide +kernel
theorem dX2_crossing_5 : decode cX2_crossing 5 = .ok (.iaload, 1) := by decide +kernel
theorem dX2_crossing_6 : decode cX2_crossing 6 = .ok (.aload_n 0, 1) := by decide +kernel
theorem dX2_crossing_7 : decode cX2_crossing 7 = .ok (.getfield 19, 3) := by decide +kernel
theorem dX2_crossing_10 : decode cX2_crossing 10 = .ok (.iload_n 2, 1) := by decide +kernel
theorem dX2_crossing_11 : decode cX2_crossing 11 = .ok (.iaload, 1) := by decide +kernel
theorem dX2_crossing_12 : decode cX2_crossing 12 = .ok (.invokestatic 72, 3) := by decide +kernel
theorem dX2_crossing_15 : decode cX2_crossing 15 = .ok (.istore_n 3, 1) := by decide +kernel
theorem dX2_crossing_16 : decode cX2_crossing 16 = .ok (.iconst 1, 1) := by decide +kernel
theorem dX2_crossing_17 : decode cX2_crossing 17 = .ok (.istore 4, 2) := by decide +kernel
theorem dX2_crossing_19 : decode cX2_crossing 19 = .ok (.iload 4, 2) := by decide +kernel
theorem dX2_crossing_21 : decode cX2_crossing 21 = .ok (.iload_n 3, 1) := by decide +kernel
theorem dX2_crossing_22 : decode cX2_crossing 22 = .ok (.if_icmp .gt 49, 3) := by decide +kernel
theorem dX2_crossing_25 : decode cX2_crossing 25 = .ok (.aload_n 0, 1) := by decide +kernel
theorem dX2_crossing_26 : decode cX2_crossing 26 = .ok (.getfield 13, 3) := by decide +kernel
theorem dX2_crossing_29 : decode cX2_crossing 29 = .ok (.iload_n 1, 1) := by decide +kernel
theorem dX2_crossing_30 : decode cX2_crossing 30 = .ok (.iaload, 1) := by decide +kernel
theorem dX2_crossing_31 : decode cX2_crossing 31 = .ok (.aload_n 0, 1) := by decide +kernel
theorem dX2_crossing_32 : decode cX2_crossing 32 = .ok (.getfield 16, 3) := by decide +kernel
theorem dX2_crossing_35 : decode cX2_crossing 35 = .ok (.iload_n 1, 1) := by decide +kernel
theorem dX2_crossing_36 : decode cX2_crossing 36 = .ok (.iaload, 1) := by decide +kernel
theorem dX2_crossing_37 : decode cX2_crossing 37 = .ok (.iload 4, 2) := by decide +kernel
theorem dX2_crossing_39 : decode cX2_crossing 39 = .ok (.invokestatic 51, 3) := by decide +kernel
theorem dX2_crossing_42 : decode cX2_crossing 42 = .ok (.aload_n 0, 1) := by decide +kernel
theorem dX2_crossing_43 : decode cX2_crossing 43 = .ok (.getfield 13, 3) := by decide +kernel
theorem dX2_crossing_46 : decode cX2_crossing 46 = .ok (.iload_n 2, 1) := by decide +kernel
theorem dX2_crossing_47 : decode cX2_crossing 47 = .ok (.iaload, 1) := by decide +kernel
theorem dX2_crossing_48 : decode cX2_crossing 48 = .ok (.aload_n 0, 1) := by decide +kernel
theorem dX2_crossing_49 : decode cX2_crossing 49 = .ok (.getfield 16, 3) := by decide +kernel
theorem dX2_crossing_52 : decode cX2_crossing 52 = .ok (.iload_n 2, 1) := by decide +kernel
theorem dX2_crossing_53 : decode cX2_crossing 53 = .ok (.iaload, 1) := by decide +kernel
theorem dX2_crossing_54 : decode cX2_crossing 54 = .ok (.iload 4, 2) := by decide +kernel
theorem dX2_crossing_56 : decode cX2_crossing 56 = .ok (.invokestatic 51, 3) := by decide +kernel
theorem dX2_crossing_59 : decode cX2_crossing 59 = .ok (.if_icmp .ne 6, 3) := by decide +kernel
theorem dX2_crossing_62 : decode cX2_crossing 62 = .ok (.iload 4, 2) := by decide +kernel
theorem dX2_crossing_64 : decode cX2_crossing 64 = .ok (.ireturn, 1) := by decide +kernel
theorem dX2_crossing_65 : decode cX2_crossing 65 = .ok (.iinc 4 1, 3) := by decide +kernel
theorem dX2_crossing_68 : decode cX2_crossing 68 = .ok (.goto (-49), 3) := by decide +kernel
theorem dX2_crossing_71 : decode cX2_crossing 71 = .ok (.iconst 0, 1) := by decide +kernel
theorem dX2_crossing_72 : decode cX2_crossing 72 = .ok (.ireturn, 1) := by decide +kernel
theorem dX3_init_0 : decode cX3_init 0 = .ok (.aload_n 0, 1) := by decide +kernel
theorem dX3_init_1 : decode cX3_init 1 = .ok (.invokespecial 1, 3) := by decide +kernel
theorem dX3_init_4 : decode cX3_init 4 = .ok (.return_, 1) := by decide +kernel
theorem dX3_size_0 : decode cX3_size 0 = .ok (.aload_n 1, 1) := by decide +kernel
theorem dX3_size_1 : decode cX3_size 1 = .ok (.bipush 11, 2) := by decide +kernel
theorem dX3_size_3 : decode cX3_size 3 = .ok (.invokevirtual 7, 3) := by decide +kernel
theorem dX3_size_6 : decode cX3_size 6 = .ok (.aload_n 0, 1) := by decide +kernel
theorem dX3_size_7 : decode cX3_size 7 = .ok (.aload_n 1, 1) := by decide +kernel
theorem dX3_size_8 : decode cX3_size 8 = .ok (.invokespecial 13, 3) := by decide +kernel
theorem dX3_size_11 : decode cX3_size 11 = .ok (.istore_n 2, 1) := by decide +kernel
theorem dX3_size_12 : decode cX3_size 12 = .ok (.iload_n 2, 1) := by decide +kernel
theorem dX3_size_13 : decode cX3_size 13 = .ok (.aload_n 0, 1) := by decide +kernel
theorem dX3_size_14 : decode cX3_size 14 = .ok (.aload_n 1, 1) := by decide +kernel
theorem dX3_size_15 : decode cX3_size 15 = .ok (.invokevirtual 17, 3) := by decide +kernel
theorem dX3_size_18 : decode cX3_size 18 = .ok (.iadd, 1) := by decide +kernel
theorem dX3_size_19 : decode cX3_size 19 = .ok (.ireturn, 1) := by decide +kernel
theorem dX3_mark_0 : decode cX3_mark 0 = .ok (.aload_n 1, 1) := by decide +kernel
theorem dX3_mark_1 : decode cX3_mark 1 = .ok (.bipush 21, 2) := by decide +kernel
theorem dX3_mark_3 : decode cX3_mark 3 = .ok (.invokevirtual 7, 3) := by decide +kernel
theorem dX3_mark_6 : decode cX3_mark 6 = .ok (.aload_n 0, 1) := by decide +kernel
theorem dX3_mark_7 : decode cX3_mark 7 = .ok (.aload_n 1, 1) := by decide +kernel
theorem dX3_mark_8 : decode cX3_mark 8 = .ok (.invokespecial 22, 3) := by decide +kernel
theorem dX3_mark_11 : decode cX3_mark 11 = .ok (.aload_n 1, 1) := by decide +kernel
theorem dX3_mark_12 : decode cX3_mark 12 = .ok (.getfield 23, 3) := by decide +kernel
theorem dX3_mark_15 : decode cX3_mark 15 = .ok (.iadd, 1) := by decide +kernel
theorem dX3_mark_16 : decode cX3_mark 16 = .ok (.ireturn, 1) := by decide +kernel
theorem dX4_init_0 : decode cX4_init 0 = .ok (.aload_n 0, 1) := by decide +kernel
theorem dX4_init_1 : decode cX4_init 1 = .ok (.invokespecial 5, 3) := by decide +kernel
theorem dX4_init_4 : decode cX4_init 4 = .ok (.aload_n 0, 1) := by decide +kernel
theorem dX4_init_5 : decode cX4_init 5 = .ok (.sipush 312, 3) := by decide +kernel
theorem dX4_init_8 : decode cX4_init 8 = .ok (.newarray .int, 2) := by decide +kernel
theorem dX4_init_10 : decode cX4_init 10 = .ok (.putfield 11, 3) := by decide +kernel
theorem dX4_init_13 : decode cX4_init 13 = .ok (.aload_n 0, 1) := by decide +kernel
theorem dX4_init_14 : decode cX4_init 14 = .ok (.iconst 0, 1) := by decide +kernel
theorem dX4_init_15 : decode cX4_init 15 = .ok (.putfield 15, 3) := by decide +kernel
theorem dX4_init_18 : decode cX4_init 18 = .ok (.aload_n 0, 1) := by decide +kernel
theorem dX4_init_19 : decode cX4_init 19 = .ok (.iconst 0, 1) := by decide +kernel
theorem dX4_init_20 : decode cX4_init 20 = .ok (.putfield 19, 3) := by decide +kernel
theorem dX4_init_23 : decode cX4_init 23 = .ok (.return_, 1) := by decide +kernel
theorem dX4_size_0 : decode cX4_size 0 = .ok (.aload_n 0, 1) := by decide +kernel
theorem dX4_size_1 : decode cX4_size 1 = .ok (.getfield 19, 3) := by decide +kernel
theorem dX4_size_4 : decode cX4_size 4 = .ok (.ireturn, 1) := by decide +kernel
theorem dX4_forgetAll_0 : decode cX4_forgetAll 0 = .ok (.aload_n 0, 1) := by decide +kernel
theorem dX4_forgetAll_1 : decode cX4_forgetAll 1 = .ok (.iconst 0, 1) := by decide +kernel
theorem dX4_forgetAll_2 : decode cX4_forgetAll 2 = .ok (.putfield 19, 3) := by decide +kernel
theorem dX4_forgetAll_5 : decode cX4_forgetAll 5 = .ok (.return_, 1) := by decide +kernel
theorem dX4_keep_0 : decode cX4_keep 0 = .ok (.aload_n 0, 1) := by decide +kernel
theorem dX4_keep_1 : decode cX4_keep 1 = .ok (.getfield 15, 3) := by decide +kernel
theorem dX4_keep_4 : decode cX4_keep 4 = .ok (.bipush 13, 2) := by decide +kernel
theorem dX4_keep_6 : decode cX4_keep 6 = .ok (.imul, 1) := by decide +kernel
theorem dX4_keep_7 : decode cX4_keep 7 = .ok (.istore_n 2, 1) := by decide +kernel
theorem dX4_keep_8 : decode cX4_keep 8 = .ok (.aload_n 0, 1) := by decide +kernel
theorem dX4_keep_9 : decode cX4_keep 9 = .ok (.getfield 11, 3) := by decide +kernel
theorem dX4_keep_12 : decode cX4_keep 12 = .ok (.iload_n 2, 1) := by decide +kernel
theorem dX4_keep_13 : decode cX4_keep 13 = .ok (.aload_n 1, 1) := by decide +kernel
theorem dX4_keep_14 : decode cX4_keep 14 = .ok (.getfield 22, 3) := by decide +kernel
theorem dX4_keep_17 : decode cX4_keep 17 = .ok (.iastore, 1) := by decide +kernel
theorem dX4_keep_18 : decode cX4_keep 18 = .ok (.aload_n 0, 1) := by decide +kernel
theorem dX4_keep_19 : decode cX4_keep 19 = .ok (.getfield 11, 3) := by decide +kernel
theorem dX4_keep_22 : decode cX4_keep 22 = .ok (.iload_n 2, 1) := by decide +kernel
theorem dX4_keep_23 : decode cX4_keep 23 = .ok (.iconst 1, 1) := by decide +kernel
theorem dX4_keep_24 : decode cX4_keep 24 = .ok (.iadd, 1) := by decide +kernel
theorem dX4_keep_25 : decode cX4_keep 25 = .ok (.aload_n 1, 1) := by decide +kernel
theorem dX4_keep_26 : decode cX4_keep 26 = .ok (.getfield 25, 3) := by decide +kernel
theorem dX4_keep_29 : decode cX4_keep 29 = .ok (.iastore, 1) := by decide +kernel
theorem dX4_keep_30 : decode cX4_keep 30 = .ok (.aload_n 0, 1) := by decide +kernel
theorem dX4_keep_31 : decode cX4_keep 31 = .ok (.getfield 11, 3) := by decide +kernel
theorem dX4_keep_34 : decode cX4_keep 34 = .ok (.iload_n 2, 1) := by decide +kernel
theorem dX4_keep_35 : decode cX4_keep 35 = .ok (.iconst 2, 1) := by decide +kernel
theorem dX4_keep_36 : decode cX4_keep 36 = .ok (.iadd, 1) := by decide +kernel
theorem dX4_keep_37 : decode cX4_keep 37 = .ok (.aload_n 1, 1) := by decide +kernel
theorem dX4_keep_38 : decode cX4_keep 38 = .ok (.getfield 28, 3) := by decide +kernel
theorem dX4_keep_41 : decode cX4_keep 41 = .ok (.iastore, 1) := by decide +kernel
theorem dX4_keep_42 : decode cX4_keep 42 = .ok (.iconst 0, 1) := by decide +kernel
theorem dX4_keep_43 : decode cX4_keep 43 = .ok (.istore_n 3, 1) := by decide +kernel
theorem dX4_keep_44 : decode cX4_keep 44 = .ok (.iload_n 3, 1) := by decide +kernel
theorem dX4_keep_45 : decode cX4_keep 45 = .ok (.aload_n 1, 1) := by decide +kernel
theorem dX4_keep_46 : decode cX4_keep 46 = .ok (.getfield 31, 3) := by decide +kernel
theorem dX4_keep_49 : decode cX4_keep 49 = .ok (.if_icmp .ge 42, 3) := by decide +kernel
theorem dX4_keep_52 : decode cX4_keep 52 = .ok (.aload_n 0, 1) := by decide +kernel
theorem dX4_keep_53 : decode cX4_keep 53 = .ok (.getfield 11, 3) := by decide +kernel
theorem dX4_keep_56 : decode cX4_keep 56 = .ok (.iload_n 2, 1) := by decide +kernel
theorem dX4_keep_57 : decode cX4_keep 57 = .ok (.iconst 3, 1) := by decide +kernel
theorem dX4_keep_58 : decode cX4_keep 58 = .ok (.iadd, 1) := by decide +kernel
theorem dX4_keep_59 : decode cX4_keep 59 = .ok (.iload_n 3, 1) := by decide +kernel
theorem dX4_keep_60 : decode cX4_keep 60 = .ok (.iadd, 1) := by decide +kernel
theorem dX4_keep_61 : decode cX4_keep 61 = .ok (.aload_n 1, 1) := by decide +kernel
theorem dX4_keep_62 : decode cX4_keep 62 = .ok (.getfield 34, 3) := by decide +kernel
theorem dX4_keep_65 : decode cX4_keep 65 = .ok (.iload_n 3, 1) := by decide +kernel
theorem dX4_keep_66 : decode cX4_keep 66 = .ok (.iaload, 1) := by decide +kernel
theorem dX4_keep_67 : decode cX4_keep 67 = .ok (.iastore, 1) := by decide +kernel
theorem dX4_keep_68 : decode cX4_keep 68 = .ok (.aload_n 0, 1) := by decide +kernel
theorem dX4_keep_69 : decode cX4_keep 69 = .ok (.getfield 11, 3) := by decide +kernel
theorem dX4_keep_72 : decode cX4_keep 72 = .ok (.iload_n 2, 1) := by decide +kernel
theorem dX4_keep_73 : decode cX4_keep 73 = .ok (.bipush 8, 2) := by decide +kernel
theorem dX4_keep_75 : decode cX4_keep 75 = .ok (.iadd, 1) := by decide +kernel
theorem dX4_keep_76 : decode cX4_keep 76 = .ok (.iload_n 3, 1) := by decide +kernel
theorem dX4_keep_77 : decode cX4_keep 77 = .ok (.iadd, 1) := by decide +kernel
theorem dX4_keep_78 : decode cX4_keep 78 = .ok (.aload_n 1, 1) := by decide +kernel
theorem dX4_keep_79 : decode cX4_keep 79 = .ok (.getfield 37, 3) := by decide +kernel
theorem dX4_keep_82 : decode cX4_keep 82 = .ok (.iload_n 3, 1) := by decide +kernel
theorem dX4_keep_83 : decode cX4_keep 83 = .ok (.iaload, 1) := by decide +kernel
theorem dX4_keep_84 : decode cX4_keep 84 = .ok (.iastore, 1) := by decide +kernel
theorem dX4_keep_85 : decode cX4_keep 85 = .ok (.iinc 3 1, 3) := by decide +kernel
theorem dX4_keep_88 : decode cX4_keep 88 = .ok (.goto (-44), 3) := by decide +kernel
theorem dX4_keep_91 : decode cX4_keep 91 = .ok (.aload_n 0, 1) := by decide +kernel
theorem dX4_keep_92 : decode cX4_keep 92 = .ok (.aload_n 0, 1) := by decide +kernel
theorem dX4_keep_93 : decode cX4_keep 93 = .ok (.getfield 15, 3) := by decide +kernel
theorem dX4_keep_96 : decode cX4_keep 96 = .ok (.iconst 1, 1) := by decide +kernel
theorem dX4_keep_97 : decode cX4_keep 97 = .ok (.iadd, 1) := by decide +kernel
theorem dX4_keep_98 : decode cX4_keep 98 = .ok (.bipush 24, 2) := by decide +kernel
theorem dX4_keep_100 : decode cX4_keep 100 = .ok (.irem, 1) := by decide +kernel
theorem dX4_keep_101 : decode cX4_keep 101 = .ok (.putfield 15, 3) := by decide +kernel
theorem dX4_keep_104 : decode cX4_keep 104 = .ok (.aload_n 0, 1) := by decide +kernel
theorem dX4_keep_105 : decode cX4_keep 105 = .ok (.bipush 24, 2) := by decide +kernel
theorem dX4_keep_107 : decode cX4_keep 107 = .ok (.aload_n 0, 1) := by decide +kernel
theorem dX4_keep_108 : decode cX4_keep 108 = .ok (.getfield 19, 3) := by decide +kernel
theorem dX4_keep_111 : decode cX4_keep 111 = .ok (.iconst 1, 1) := by decide +kernel
theorem dX4_keep_112 : decode cX4_keep 112 = .ok (.iadd, 1) := by decide +kernel
theorem dX4_keep_113 : decode cX4_keep 113 = .ok (.invokestatic 40, 3) := by decide +kernel
theorem dX4_keep_116 : decode cX4_keep 116 = .ok (.putfield 19, 3) := by decide +kernel
theorem dX4_keep_119 : decode cX4_keep 119 = .ok (.return_, 1) := by decide +kernel
theorem dX4_bringBack_0 : decode cX4_bringBack 0 = .ok (.aload_n 0, 1) := by decide +kernel
theorem dX4_bringBack_1 : decode cX4_bringBack 1 = .ok (.getfield 19, 3) := by decide +kernel
theorem dX4_bringBack_4 : decode cX4_bringBack 4 = .ok (.ifCond .ne 4, 3) := by decide +kernel
theorem dX4_bringBack_7 : decode cX4_bringBack 7 = .ok (.return_, 1) := by decide +kernel
theorem dX4_bringBack_8 : decode cX4_bringBack 8 = .ok (.aload_n 0, 1) := by decide +kernel
theorem dX4_bringBack_9 : decode cX4_bringBack 9 = .ok (.aload_n 0, 1) := by decide +kernel
theorem dX4_bringBack_10 : decode cX4_bringBack 10 = .ok (.getfield 15, 3) := by decide +kernel
theorem dX4_bringBack_13 : decode cX4_bringBack 13 = .ok (.bipush 24, 2) := by decide +kernel
theorem dX4_bringBack_15 : decode cX4_bringBack 15 = .ok (.iadd, 1) := by decide +kernel
theorem dX4_bringBack_16 : decode cX4_bringBack 16 = .ok (.iconst 1, 1) := by decide +kernel
theorem dX4_bringBack_17 : decode cX4_bringBack 17 = .ok (.isub, 1) := by decide +kernel
theorem dX4_bringBack_18 : decode cX4_bringBack 18 = .ok (.bipush 24, 2) := by decide +kernel
theorem dX4_bringBack_20 : decode cX4_bringBack 20 = .ok (.irem, 1) := by decide +kernel
theorem dX4_bringBack_21 : decode cX4_bringBack 21 = .ok (.putfield 15, 3) := by decide +kernel
theorem dX4_bringBack_24 : decode cX4_bringBack 24 = .ok (.aload_n 0, 1) := by decide +kernel
theorem dX4_bringBack_25 : decode cX4_bringBack 25 = .ok (.dup, 1) := by decide +kernel
theorem dX4_bringBack_26 : decode cX4_bringBack 26 = .ok (.getfield 19, 3) := by decide +kernel
theorem dX4_bringBack_29 : decode cX4_bringBack 29 = .ok (.iconst 1, 1) := by decide +kernel
theorem dX4_bringBack_30 : decode cX4_bringBack 30 = .ok (.isub, 1) := by decide +kernel
theorem dX4_bringBack_31 : decode cX4_bringBack 31 = .ok (.putfield 19, 3) := by decide +kernel
theorem dX4_bringBack_34 : decode cX4_bringBack 34 = .ok (.aload_n 0, 1) := by decide +kernel
theorem dX4_bringBack_35 : decode cX4_bringBack 35 = .ok (.getfield 15, 3) := by decide +kernel
theorem dX4_bringBack_38 : decode cX4_bringBack 38 = .ok (.bipush 13, 2) := by decide +kernel
theorem dX4_bringBack_40 : decode cX4_bringBack 40 = .ok (.imul, 1) := by decide +kernel
theorem dX4_bringBack_41 : decode cX4_bringBack 41 = .ok (.istore_n 2, 1) := by decide +kernel
theorem dX4_bringBack_42 : decode cX4_bringBack 42 = .ok (.aload_n 1, 1) := by decide +kernel
theorem dX4_bringBack_43 : decode cX4_bringBack 43 = .ok (.aload_n 0, 1) := by decide +kernel
theorem dX4_bringBack_44 : decode cX4_bringBack 44 = .ok (.getfield 11, 3) := by decide +kernel
theorem dX4_bringBack_47 : decode cX4_bringBack 47 = .ok (.iload_n 2, 1) := by decide +kernel
theorem dX4_bringBack_48 : decode cX4_bringBack 48 = .ok (.iaload, 1) := by decide +kernel
theorem dX4_bringBack_49 : decode cX4_bringBack 49 = .ok (.putfield 22, 3) := by decide +kernel
theorem dX4_bringBack_52 : decode cX4_bringBack 52 = .ok (.aload_n 1, 1) := by decide +kernel
theorem dX4_bringBack_53 : decode cX4_bringBack 53 = .ok (.aload_n 0, 1) := by decide +kernel
theorem dX4_bringBack_54 : decode cX4_bringBack 54 = .ok (.getfield 11, 3) := by decide +kernel
theorem dX4_bringBack_57 : decode cX4_bringBack 57 = .ok (.iload_n 2, 1) := by decide +kernel
theorem dX4_bringBack_58 : decode cX4_bringBack 58 = .ok (.iconst 1, 1) := by decide +kernel
theorem dX4_bringBack_59 : decode cX4_bringBack 59 = .ok (.iadd, 1) := by decide +kernel
theorem dX4_bringBack_60 : decode cX4_bringBack 60 = .ok (.iaload, 1) := by decide +kernel
theorem dX4_bringBack_61 : decode cX4_bringBack 61 = .ok (.putfield 25, 3) := by decide +kernel
theorem dX4_bringBack_64 : decode cX4_bringBack 64 = .ok (.aload_n 1, 1) := by decide +kernel
theorem dX4_bringBack_65 : decode cX4_bringBack 65 = .ok (.aload_n 0, 1) := by decide +kernel
theorem dX4_bringBack_66 : decode cX4_bringBack 66 = .ok (.getfield 11, 3) := by decide +kernel
theorem dX4_bringBack_69 : decode cX4_bringBack 69 = .ok (.iload_n 2, 1) := by decide +kernel
theorem dX4_bringBack_70 : decode cX4_bringBack 70 = .ok (.iconst 2, 1) := by decide +kernel
theorem dX4_bringBack_71 : decode cX4_bringBack 71 = .ok (.iadd, 1) := by decide +kernel
theorem dX4_bringBack_72 : decode cX4_bringBack 72 = .ok (.iaload, 1) := by decide +kernel
theorem dX4_bringBack_73 : decode cX4_bringBack 73 = .ok (.putfield 28, 3) := by decide +kernel
theorem dX4_bringBack_76 : decode cX4_bringBack 76 = .ok (.iconst 0, 1) := by decide +kernel
theorem dX4_bringBack_77 : decode cX4_bringBack 77 = .ok (.istore_n 3, 1) := by decide +kernel
theorem dX4_bringBack_78 : decode cX4_bringBack 78 = .ok (.iload_n 3, 1) := by decide +kernel
theorem dX4_bringBack_79 : decode cX4_bringBack 79 = .ok (.aload_n 1, 1) := by decide +kernel
theorem dX4_bringBack_80 : decode cX4_bringBack 80 = .ok (.getfield 31, 3) := by decide +kernel
theorem dX4_bringBack_83 : decode cX4_bringBack 83 = .ok (.if_icmp .ge 42, 3) := by decide +kernel
theorem dX4_bringBack_86 : decode cX4_bringBack 86 = .ok (.aload_n 1, 1) := by decide +kernel
theorem dX4_bringBack_87 : decode cX4_bringBack 87 = .ok (.getfield 34, 3) := by decide +kernel
theorem dX4_bringBack_90 : decode cX4_bringBack 90 = .ok (.iload_n 3, 1) := by decide +kernel
theorem dX4_bringBack_91 : decode cX4_bringBack 91 = .ok (.aload_n 0, 1) := by decide +kernel
theorem dX4_bringBack_92 : decode cX4_bringBack 92 = .ok (.getfield 11, 3) := by decide +kernel
theorem dX4_bringBack_95 : decode cX4_bringBack 95 = .ok (.iload_n 2, 1) := by decide +kernel
theorem dX4_bringBack_96 : decode cX4_bringBack 96 = .ok (.iconst 3, 1) := by decide +kernel
theorem dX4_bringBack_97 : decode cX4_bringBack 97 = .ok (.iadd, 1) := by decide +kernel
theorem dX4_bringBack_98 : decode cX4_bringBack 98 = .ok (.iload_n 3, 1) := by decide +kernel
theorem dX4_bringBack_99 : decode cX4_bringBack 99 = .ok (.iadd, 1) := by decide +kernel
theorem dX4_bringBack_100 : decode cX4_bringBack 100 = .ok (.iaload, 1) := by decide +kernel
theorem dX4_bringBack_101 : decode cX4_bringBack 101 = .ok (.iastore, 1) := by decide +kernel
theorem dX4_bringBack_102 : decode cX4_bringBack 102 = .ok (.aload_n 1, 1) := by decide +kernel
theorem dX4_bringBack_103 : decode cX4_bringBack 103 = .ok (.getfield 37, 3) := by decide +kernel
theorem dX4_bringBack_106 : decode cX4_bringBack 106 = .ok (.iload_n 3, 1) := by decide +kernel
theorem dX4_bringBack_107 : decode cX4_bringBack 107 = .ok (.aload_n 0, 1) := by decide +kernel
theorem dX4_bringBack_108 : decode cX4_bringBack 108 = .ok (.getfield 11, 3) := by decide +kernel
theorem dX4_bringBack_111 : decode cX4_bringBack 111 = .ok (.iload_n 2, 1) := by decide +kernel
theorem dX4_bringBack_112 : decode cX4_bringBack 112 = .ok (.bipush 8, 2) := by decide +kernel
theorem dX4_bringBack_114 : decode cX4_bringBack 114 = .ok (.iadd, 1) := by decide +kernel
theorem dX4_bringBack_115 : decode cX4_bringBack 115 = .ok (.iload_n 3, 1) := by decide +kernel
theorem dX4_bringBack_116 : decode cX4_bringBack 116 = .ok (.iadd, 1) := by decide +kernel
theorem dX4_bringBack_117 : decode cX4_bringBack 117 = .ok (.iaload, 1) := by decide +kernel
theorem dX4_bringBack_118 : decode cX4_bringBack 118 = .ok (.iastore, 1) := by decide +kernel
theorem dX4_bringBack_119 : decode cX4_bringBack 119 = .ok (.iinc 3 1, 3) := by decide +kernel
theorem dX4_bringBack_122 : decode cX4_bringBack 122 = .ok (.goto (-44), 3) := by decide +kernel
theorem dX4_bringBack_125 : decode cX4_bringBack 125 = .ok (.return_, 1) := by decide +kernel
theorem dX5_init_0 : decode cX5_init 0 = .ok (.aload_n 0, 1) := by decide +kernel
theorem dX5_init_1 : decode cX5_init 1 = .ok (.invokespecial 1, 3) := by decide +kernel
theorem dX5_init_4 : decode cX5_init 4 = .ok (.return_, 1) := by decide +kernel
theorem dX5_size_0 : decode cX5_size 0 = .ok (.aload_n 1, 1) := by decide +kernel
theorem dX5_size_1 : decode cX5_size 1 = .ok (.bipush 10, 2) := by decide +kernel
theorem dX5_size_3 : decode cX5_size 3 = .ok (.invokevirtual 7, 3) := by decide +kernel
theorem dX5_size_6 : decode cX5_size 6 = .ok (.aload_n 1, 1) := by decide +kernel
theorem dX5_size_7 : decode cX5_size 7 = .ok (.getfield 13, 3) := by decide +kernel
theorem dX5_size_10 : decode cX5_size 10 = .ok (.ireturn, 1) := by decide +kernel
theorem dX5_mark_0 : decode cX5_mark 0 = .ok (.aload_n 1, 1) := by decide +kernel
theorem dX5_mark_1 : decode cX5_mark 1 = .ok (.bipush 20, 2) := by decide +kernel
theorem dX5_mark_3 : decode cX5_mark 3 = .ok (.invokevirtual 7, 3) := by decide +kernel
theorem dX5_mark_6 : decode cX5_mark 6 = .ok (.aload_n 1, 1) := by decide +kernel
theorem dX5_mark_7 : decode cX5_mark 7 = .ok (.getfield 17, 3) := by decide +kernel
theorem dX5_mark_10 : decode cX5_mark 10 = .ok (.ireturn, 1) := by decide +kernel
theorem dX6_init_0 : decode cX6_init 0 = .ok (.aload_n 0, 1) := by decide +kernel
theorem dX6_init_1 : decode cX6_init 1 = .ok (.invokespecial 1, 3) := by decide +kernel
theorem dX6_init_4 : decode cX6_init 4 = .ok (.return_, 1) := by decide +kernel
theorem dX6_size_0 : decode cX6_size 0 = .ok (.aload_n 1, 1) := by decide +kernel
theorem dX6_size_1 : decode cX6_size 1 = .ok (.bipush 14, 2) := by decide +kernel
theorem dX6_size_3 : decode cX6_size 3 = .ok (.invokevirtual 7, 3) := by decide +kernel
theorem dX6_size_6 : decode cX6_size 6 = .ok (.aload_n 0, 1) := by decide +kernel
theorem dX6_size_7 : decode cX6_size 7 = .ok (.aload_n 1, 1) := by decide +kernel
theorem dX6_size_8 : decode cX6_size 8 = .ok (.invokespecial 13, 3) := by decide +kernel
theorem dX6_size_11 : decode cX6_size 11 = .ok (.iconst 2, 1) := by decide +kernel
theorem dX6_size_12 : decode cX6_size 12 = .ok (.imul, 1) := by decide +kernel
theorem dX6_size_13 : decode cX6_size 13 = .ok (.ireturn, 1) := by decide +kernel
theorem dX7_init_0 : decode cX7_init 0 = .ok (.aload_n 0, 1) := by decide +kernel
theorem dX7_init_1 : decode cX7_init 1 = .ok (.invokespecial 1, 3) := by decide +kernel
theorem dX7_init_4 : decode cX7_init 4 = .ok (.aload_n 0, 1) := by decide +kernel
theorem dX7_init_5 : decode cX7_init 5 = .ok (.bipush 8, 2) := by decide +kernel
theorem dX7_init_7 : decode cX7_init 7 = .ok (.newarray .int, 2) := by decide +kernel
theorem dX7_init_9 : decode cX7_init 9 = .ok (.putfield 9, 3) := by decide +kernel
theorem dX7_init_12 : decode cX7_init 12 = .ok (.aload_n 0, 1) := by decide +kernel
theorem dX7_init_13 : decode cX7_init 13 = .ok (.bipush 8, 2) := by decide +kernel
theorem dX7_init_15 : decode cX7_init 15 = .ok (.newarray .int, 2) := by decide +kernel
theorem dX7_init_17 : decode cX7_init 17 = .ok (.putfield 13, 3) := by decide +kernel
theorem dX7_init_20 : decode cX7_init 20 = .ok (.aload_n 0, 1) := by decide +kernel
theorem dX7_init_21 : decode cX7_init 21 = .ok (.sipush 320, 3) := by decide +kernel
theorem dX7_init_24 : decode cX7_init 24 = .ok (.newarray .int, 2) := by decide +kernel
theorem dX7_init_26 : decode cX7_init 26 = .ok (.putfield 16, 3) := by decide +kernel
theorem dX7_init_29 : decode cX7_init 29 = .ok (.return_, 1) := by decide +kernel
theorem dX7_isMissing_0 : decode cX7_isMissing 0 = .ok (.aload_n 0, 1) := by decide +kernel
theorem dX7_isMissing_1 : decode cX7_isMissing 1 = .ok (.getfield 9, 3) := by decide +kernel
theorem dX7_isMissing_4 : decode cX7_isMissing 4 = .ok (.iload_n 1, 1) := by decide +kernel
theorem dX7_isMissing_5 : decode cX7_isMissing 5 = .ok (.iaload, 1) := by decide +kernel
theorem dX7_isMissing_6 : decode cX7_isMissing 6 = .ok (.ifCond .ne 7, 3) := by decide +kernel
theorem dX7_isMissing_9 : decode cX7_isMissing 9 = .ok (.iconst 1, 1) := by decide +kernel
theorem dX7_isMissing_10 : decode cX7_isMissing 10 = .ok (.goto 4, 3) := by decide +kernel
theorem dX7_isMissing_13 : decode cX7_isMissing 13 = .ok (.iconst 0, 1) := by decide +kernel
theorem dX7_isMissing_14 : decode cX7_isMissing 14 = .ok (.ireturn, 1) := by decide +kernel
theorem dX7_areAlike_0 : decode cX7_areAlike 0 = .ok (.aload_n 0, 1) := by decide +kernel
theorem dX7_areAlike_1 : decode cX7_areAlike 1 = .ok (.getfield 9, 3) := by decide +kernel
theorem dX7_areAlike_4 : decode cX7_areAlike 4 = .ok (.iload_n 1, 1) := by decide +kernel
theorem dX7_areAlike_5 : decode cX7_areAlike 5 = .ok (.iaload, 1) := by decide +kernel
theorem dX7_areAlike_6 : decode cX7_areAlike 6 = .ok (.aload_n 0, 1) := by decide +kernel
theorem dX7_areAlike_7 : decode cX7_areAlike 7 = .ok (.getfield 9, 3) := by decide +kernel
theorem dX7_areAlike_10 : decode cX7_areAlike 10 = .ok (.iload_n 2, 1) := by decide +kernel
theorem dX7_areAlike_11 : decode cX7_areAlike 11 = .ok (.iaload, 1) := by decide +kernel
theorem dX7_areAlike_12 : decode cX7_areAlike 12 = .ok (.if_icmp .ne 7, 3) := by decide +kernel
theorem dX7_areAlike_15 : decode cX7_areAlike 15 = .ok (.iconst 1, 1) := by decide +kernel
theorem dX7_areAlike_16 : decode cX7_areAlike 16 = .ok (.goto 4, 3) := by decide +kernel
theorem dX7_areAlike_19 : decode cX7_areAlike 19 = .ok (.iconst 0, 1) := by decide +kernel
theorem dX7_areAlike_20 : decode cX7_areAlike 20 = .ok (.ireturn, 1) := by decide +kernel
theorem dX7_holds_0 : decode cX7_holds 0 = .ok (.iload_n 2, 1) := by decide +kernel
theorem dX7_holds_1 : decode cX7_holds 1 = .ok (.ifCond .lt 33, 3) := by decide +kernel
theorem dX7_holds_4 : decode cX7_holds 4 = .ok (.iload_n 3, 1) := by decide +kernel
theorem dX7_holds_5 : decode cX7_holds 5 = .ok (.ifCond .lt 29, 3) := by decide +kernel
theorem dX7_holds_8 : decode cX7_holds 8 = .ok (.iload_n 3, 1) := by decide +kernel
theorem dX7_holds_9 : decode cX7_holds 9 = .ok (.aload_n 0, 1) := by decide +kernel
theorem dX7_holds_10 : decode cX7_holds 10 = .ok (.getfield 13, 3) := by decide +kernel
theorem dX7_holds_13 : decode cX7_holds 13 = .ok (.iload_n 1, 1) := by decide +kernel
theorem dX7_holds_14 : decode cX7_holds 14 = .ok (.iaload, 1) := by decide +kernel
theorem dX7_holds_15 : decode cX7_holds 15 = .ok (.if_icmp .gt 19, 3) := by decide +kernel
theorem dX7_holds_18 : decode cX7_holds 18 = .ok (.iload_n 2, 1) := by decide +kernel
theorem dX7_holds_19 : decode cX7_holds 19 = .ok (.aload_n 0, 1) := by decide +kernel
theorem dX7_holds_20 : decode cX7_holds 20 = .ok (.getfield 13, 3) := by decide +kernel
theorem dX7_holds_23 : decode cX7_holds 23 = .ok (.iload_n 1, 1) := by decide +kernel
theorem dX7_holds_24 : decode cX7_holds 24 = .ok (.iaload, 1) := by decide +kernel
theorem dX7_holds_25 : decode cX7_holds 25 = .ok (.iload_n 3, 1) := by decide +kernel
theorem dX7_holds_26 : decode cX7_holds 26 = .ok (.isub, 1) := by decide +kernel
theorem dX7_holds_27 : decode cX7_holds 27 = .ok (.if_icmp .gt 7, 3) := by decide +kernel
theorem dX7_holds_30 : decode cX7_holds 30 = .ok (.iconst 1, 1) := by decide +kernel
theorem dX7_holds_31 : decode cX7_holds 31 = .ok (.goto 4, 3) := by decide +kernel
theorem dX7_holds_34 : decode cX7_holds 34 = .ok (.iconst 0, 1) := by decide +kernel
theorem dX7_holds_35 : decode cX7_holds 35 = .ok (.ireturn, 1) := by decide +kernel
theorem dX7_make_0 : decode cX7_make 0 = .ok (.aload_n 0, 1) := by decide +kernel
theorem dX7_make_1 : decode cX7_make 1 = .ok (.getfield 9, 3) := by decide +kernel
theorem dX7_make_4 : decode cX7_make 4 = .ok (.iload_n 1, 1) := by decide +kernel
theorem dX7_make_5 : decode cX7_make 5 = .ok (.iload_n 2, 1) := by decide +kernel
theorem dX7_make_6 : decode cX7_make 6 = .ok (.iconst 1, 1) := by decide +kernel
theorem dX7_make_7 : decode cX7_make 7 = .ok (.iadd, 1) := by decide +kernel
theorem dX7_make_8 : decode cX7_make 8 = .ok (.iastore, 1) := by decide +kernel
theorem dX7_make_9 : decode cX7_make 9 = .ok (.aload_n 0, 1) := by decide +kernel
theorem dX7_make_10 : decode cX7_make 10 = .ok (.getfield 13, 3) := by decide +kernel
theorem dX7_make_13 : decode cX7_make 13 = .ok (.iload_n 1, 1) := by decide +kernel
theorem dX7_make_14 : decode cX7_make 14 = .ok (.iload_n 3, 1) := by decide +kernel
theorem dX7_make_15 : decode cX7_make 15 = .ok (.iastore, 1) := by decide +kernel
theorem dX7_make_16 : decode cX7_make 16 = .ok (.iconst 0, 1) := by decide +kernel
theorem dX7_make_17 : decode cX7_make 17 = .ok (.istore 4, 2) := by decide +kernel
theorem dX7_make_19 : decode cX7_make 19 = .ok (.iload 4, 2) := by decide +kernel
theorem dX7_make_21 : decode cX7_make 21 = .ok (.bipush 40, 2) := by decide +kernel
theorem dX7_make_23 : decode cX7_make 23 = .ok (.if_icmp .ge 22, 3) := by decide +kernel
theorem dX7_make_26 : decode cX7_make 26 = .ok (.aload_n 0, 1) := by decide +kernel
theorem dX7_make_27 : decode cX7_make 27 = .ok (.getfield 16, 3) := by decide +kernel
theorem dX7_make_30 : decode cX7_make 30 = .ok (.iload_n 1, 1) := by decide +kernel
theorem dX7_make_31 : decode cX7_make 31 = .ok (.bipush 40, 2) := by decide +kernel
theorem dX7_make_33 : decode cX7_make 33 = .ok (.imul, 1) := by decide +kernel
theorem dX7_make_34 : decode cX7_make 34 = .ok (.iload 4, 2) := by decide +kernel
theorem dX7_make_36 : decode cX7_make 36 = .ok (.iadd, 1) := by decide +kernel
theorem dX7_make_37 : decode cX7_make 37 = .ok (.iconst 0, 1) := by decide +kernel
theorem dX7_make_38 : decode cX7_make 38 = .ok (.iastore, 1) := by decide +kernel
theorem dX7_make_39 : decode cX7_make 39 = .ok (.iinc 4 1, 3) := by decide +kernel
theorem dX7_make_42 : decode cX7_make 42 = .ok (.goto (-23), 3) := by decide +kernel
theorem dX7_make_45 : decode cX7_make 45 = .ok (.return_, 1) := by decide +kernel
theorem dX7_put_0 : decode cX7_put 0 = .ok (.iload_n 3, 1) := by decide +kernel
theorem dX7_put_1 : decode cX7_put 1 = .ok (.istore 4, 2) := by decide +kernel
theorem dX7_put_3 : decode cX7_put 3 = .ok (.aload_n 0, 1) := by decide +kernel
theorem dX7_put_4 : decode cX7_put 4 = .ok (.getfield 9, 3) := by decide +kernel
theorem dX7_put_7 : decode cX7_put 7 = .ok (.iload_n 1, 1) := by decide +kernel
theorem dX7_put_8 : decode cX7_put 8 = .ok (.iaload, 1) := by decide +kernel
theorem dX7_put_9 : decode cX7_put 9 = .ok (.iconst 1, 1) := by decide +kernel
theorem dX7_put_10 : decode cX7_put 10 = .ok (.if_icmp .ne 10, 3) := by decide +kernel
theorem dX7_put_13 : decode cX7_put 13 = .ok (.iload_n 3, 1) := by decide +kernel
theorem dX7_put_14 : decode cX7_put 14 = .ok (.i2b, 1) := by decide +kernel
theorem dX7_put_15 : decode cX7_put 15 = .ok (.istore 4, 2) := by decide +kernel
theorem dX7_put_17 : decode cX7_put 17 = .ok (.goto 17, 3) := by decide +kernel
theorem dX7_put_20 : decode cX7_put 20 = .ok (.aload_n 0, 1) := by decide +kernel
theorem dX7_put_21 : decode cX7_put 21 = .ok (.getfield 9, 3) := by decide +kernel
theorem dX7_put_24 : decode cX7_put 24 = .ok (.iload_n 1, 1) := by decide +kernel
theorem dX7_put_25 : decode cX7_put 25 = .ok (.iaload, 1) := by decide +kernel
theorem dX7_put_26 : decode cX7_put 26 = .ok (.iconst 2, 1) := by decide +kernel
theorem dX7_put_27 : decode cX7_put 27 = .ok (.if_icmp .ne 7, 3) := by decide +kernel
theorem dX7_put_30 : decode cX7_put 30 = .ok (.iload_n 3, 1) := by decide +kernel
theorem dX7_put_31 : decode cX7_put 31 = .ok (.i2s, 1) := by decide +kernel
theorem dX7_put_32 : decode cX7_put 32 = .ok (.istore 4, 2) := by decide +kernel
theorem dX7_put_34 : decode cX7_put 34 = .ok (.aload_n 0, 1) := by decide +kernel
theorem dX7_put_35 : decode cX7_put 35 = .ok (.getfield 16, 3) := by decide +kernel
theorem dX7_put_38 : decode cX7_put 38 = .ok (.iload_n 1, 1) := by decide +kernel
theorem dX7_put_39 : decode cX7_put 39 = .ok (.bipush 40, 2) := by decide +kernel
theorem dX7_put_41 : decode cX7_put 41 = .ok (.imul, 1) := by decide +kernel
theorem dX7_put_42 : decode cX7_put 42 = .ok (.iload_n 2, 1) := by decide +kernel
theorem dX7_put_43 : decode cX7_put 43 = .ok (.iadd, 1) := by decide +kernel
theorem dX7_put_44 : decode cX7_put 44 = .ok (.iload 4, 2) := by decide +kernel
theorem dX7_put_46 : decode cX7_put 46 = .ok (.iastore, 1) := by decide +kernel
theorem dX7_put_47 : decode cX7_put 47 = .ok (.iload 4, 2) := by decide +kernel
theorem dX7_put_49 : decode cX7_put 49 = .ok (.ireturn, 1) := by decide +kernel
theorem dX7_item_0 : decode cX7_item 0 = .ok (.aload_n 0, 1) := by decide +kernel
theorem dX7_item_1 : decode cX7_item 1 = .ok (.getfield 16, 3) := by decide +kernel
theorem dX7_item_4 : decode cX7_item 4 = .ok (.iload_n 1, 1) := by decide +kernel
theorem dX7_item_5 : decode cX7_item 5 = .ok (.bipush 40, 2) := by decide +kernel
theorem dX7_item_7 : decode cX7_item 7 = .ok (.imul, 1) := by decide +kernel
theorem dX7_item_8 : decode cX7_item 8 = .ok (.iload_n 2, 1) := by decide +kernel
theorem dX7_item_9 : decode cX7_item 9 = .ok (.iadd, 1) := by decide +kernel
theorem dX7_item_10 : decode cX7_item 10 = .ok (.iaload, 1) := by decide +kernel
theorem dX7_item_11 : decode cX7_item 11 = .ok (.ireturn, 1) := by decide +kernel
theorem dX7_move_0 : decode cX7_move 0 = .ok (.aload_n 0, 1) := by decide +kernel
theorem dX7_move_1 : decode cX7_move 1 = .ok (.getfield 16, 3) := by decide +kernel
theorem dX7_move_4 : decode cX7_move 4 = .ok (.iload_n 1, 1) := by decide +kernel
theorem dX7_move_5 : decode cX7_move 5 = .ok (.bipush 40, 2) := by decide +kernel
theorem dX7_move_7 : decode cX7_move 7 = .ok (.imul, 1) := by decide +kernel
theorem dX7_move_8 : decode cX7_move 8 = .ok (.iload_n 2, 1) := by decide +kernel
theorem dX7_move_9 : decode cX7_move 9 = .ok (.iadd, 1) := by decide +kernel
theorem dX7_move_10 : decode cX7_move 10 = .ok (.aload_n 0, 1) := by decide +kernel
theorem dX7_move_11 : decode cX7_move 11 = .ok (.getfield 16, 3) := by decide +kernel
theorem dX7_move_14 : decode cX7_move 14 = .ok (.iload_n 3, 1) := by decide +kernel
theorem dX7_move_15 : decode cX7_move 15 = .ok (.bipush 40, 2) := by decide +kernel
theorem dX7_move_17 : decode cX7_move 17 = .ok (.imul, 1) := by decide +kernel
theorem dX7_move_18 : decode cX7_move 18 = .ok (.iload 4, 2) := by decide +kernel
theorem dX7_move_20 : decode cX7_move 20 = .ok (.iadd, 1) := by decide +kernel
theorem dX7_move_21 : decode cX7_move 21 = .ok (.iload 5, 2) := by decide +kernel
theorem dX7_move_23 : decode cX7_move 23 = .ok (.invokestatic 19, 3) := by decide +kernel
theorem dX7_move_26 : decode cX7_move 26 = .ok (.return_, 1) := by decide +kernel
theorem dX7_remove_0 : decode cX7_remove 0 = .ok (.aload_n 0, 1) := by decide +kernel
theorem dX7_remove_1 : decode cX7_remove 1 = .ok (.getfield 9, 3) := by decide +kernel
theorem dX7_remove_4 : decode cX7_remove 4 = .ok (.iload_n 1, 1) := by decide +kernel
theorem dX7_remove_5 : decode cX7_remove 5 = .ok (.iconst 0, 1) := by decide +kernel
theorem dX7_remove_6 : decode cX7_remove 6 = .ok (.iastore, 1) := by decide +kernel
theorem dX7_remove_7 : decode cX7_remove 7 = .ok (.aload_n 0, 1) := by decide +kernel
theorem dX7_remove_8 : decode cX7_remove 8 = .ok (.getfield 13, 3) := by decide +kernel
theorem dX7_remove_11 : decode cX7_remove 11 = .ok (.iload_n 1, 1) := by decide +kernel
theorem dX7_remove_12 : decode cX7_remove 12 = .ok (.iaload, 1) := by decide +kernel
theorem dX7_remove_13 : decode cX7_remove 13 = .ok (.ireturn, 1) := by decide +kernel
theorem dX7_present_0 : decode cX7_present 0 = .ok (.iconst 0, 1) := by decide +kernel
theorem dX7_present_1 : decode cX7_present 1 = .ok (.istore_n 1, 1) := by decide +kernel
theorem dX7_present_2 : decode cX7_present 2 = .ok (.iconst 0, 1) := by decide +kernel
theorem dX7_present_3 : decode cX7_present 3 = .ok (.istore_n 2, 1) := by decide +kernel
theorem dX7_present_4 : decode cX7_present 4 = .ok (.iload_n 2, 1) := by decide +kernel
theorem dX7_present_5 : decode cX7_present 5 = .ok (.bipush 8, 2) := by decide +kernel
theorem dX7_present_7 : decode cX7_present 7 = .ok (.if_icmp .ge 21, 3) := by decide +kernel
theorem dX7_present_10 : decode cX7_present 10 = .ok (.aload_n 0, 1) := by decide +kernel
theorem dX7_present_11 : decode cX7_present 11 = .ok (.getfield 9, 3) := by decide +kernel
theorem dX7_present_14 : decode cX7_present 14 = .ok (.iload_n 2, 1) := by decide +kernel
theorem dX7_present_15 : decode cX7_present 15 = .ok (.iaload, 1) := by decide +kernel
theorem dX7_present_16 : decode cX7_present 16 = .ok (.ifCond .eq 6, 3) := by decide +kernel
theorem dX7_present_19 : decode cX7_present 19 = .ok (.iinc 1 1, 3) := by decide +kernel
theorem dX7_present_22 : decode cX7_present 22 = .ok (.iinc 2 1, 3) := by decide +kernel
theorem dX7_present_25 : decode cX7_present 25 = .ok (.goto (-21), 3) := by decide +kernel
theorem dX7_present_28 : decode cX7_present 28 = .ok (.iload_n 1, 1) := by decide +kernel
theorem dX7_present_29 : decode cX7_present 29 = .ok (.ireturn, 1) := by decide +kernel
theorem dX8_init_0 : decode cX8_init 0 = .ok (.aload_n 0, 1) := by decide +kernel
theorem dX8_init_1 : decode cX8_init 1 = .ok (.invokespecial 1, 3) := by decide +kernel
theorem dX8_init_4 : decode cX8_init 4 = .ok (.return_, 1) := by decide +kernel
theorem dX8_mark_0 : decode cX8_mark 0 = .ok (.aload_n 1, 1) := by decide +kernel
theorem dX8_mark_1 : decode cX8_mark 1 = .ok (.bipush 22, 2) := by decide +kernel
theorem dX8_mark_3 : decode cX8_mark 3 = .ok (.invokevirtual 7, 3) := by decide +kernel
theorem dX8_mark_6 : decode cX8_mark 6 = .ok (.aload_n 0, 1) := by decide +kernel
theorem dX8_mark_7 : decode cX8_mark 7 = .ok (.aload_n 1, 1) := by decide +kernel
theorem dX8_mark_8 : decode cX8_mark 8 = .ok (.invokespecial 13, 3) := by decide +kernel
theorem dX8_mark_11 : decode cX8_mark 11 = .ok (.sipush 1000, 3) := by decide +kernel
theorem dX8_mark_14 : decode cX8_mark 14 = .ok (.isub, 1) := by decide +kernel
theorem dX8_mark_15 : decode cX8_mark 15 = .ok (.ireturn, 1) := by decide +kernel
theorem dX9_init_0 : decode cX9_init 0 = .ok (.aload_n 0, 1) := by decide +kernel
theorem dX9_init_1 : decode cX9_init 1 = .ok (.invokespecial 1, 3) := by decide +kernel
theorem dX9_init_4 : decode cX9_init 4 = .ok (.aload_n 0, 1) := by decide +kernel
theorem dX9_init_5 : decode cX9_init 5 = .ok (.bipush 100, 2) := by decide +kernel
theorem dX9_init_7 : decode cX9_init 7 = .ok (.newarray .int, 2) := by decide +kernel
theorem dX9_init_9 : decode cX9_init 9 = .ok (.putfield 9, 3) := by decide +kernel
theorem dX9_init_12 : decode cX9_init 12 = .ok (.aload_n 0, 1) := by decide +kernel
theorem dX9_init_13 : decode cX9_init 13 = .ok (.iconst 5, 1) := by decide +kernel
theorem dX9_init_14 : decode cX9_init 14 = .ok (.newarray .int, 2) := by decide +kernel
theorem dX9_init_16 : decode cX9_init 16 = .ok (.putfield 13, 3) := by decide +kernel
theorem dX9_init_19 : decode cX9_init 19 = .ok (.aload_n 0, 1) := by decide +kernel
theorem dX9_init_20 : decode cX9_init 20 = .ok (.iconst 0, 1) := by decide +kernel
theorem dX9_init_21 : decode cX9_init 21 = .ok (.putfield 16, 3) := by decide +kernel
theorem dX9_init_24 : decode cX9_init 24 = .ok (.aload_n 0, 1) := by decide +kernel
theorem dX9_init_25 : decode cX9_init 25 = .ok (.iconst 0, 1) := by decide +kernel
theorem dX9_init_26 : decode cX9_init 26 = .ok (.putfield 20, 3) := by decide +kernel
theorem dX9_init_29 : decode cX9_init 29 = .ok (.aload_n 0, 1) := by decide +kernel
theorem dX9_init_30 : decode cX9_init 30 = .ok (.iconst 0, 1) := by decide +kernel
theorem dX9_init_31 : decode cX9_init 31 = .ok (.putfield 23, 3) := by decide +kernel
theorem dX9_init_34 : decode cX9_init 34 = .ok (.return_, 1) := by decide +kernel
theorem dX9_isFull_0 : decode cX9_isFull 0 = .ok (.aload_n 0, 1) := by decide +kernel
theorem dX9_isFull_1 : decode cX9_isFull 1 = .ok (.getfield 16, 3) := by decide +kernel
theorem dX9_isFull_4 : decode cX9_isFull 4 = .ok (.bipush 100, 2) := by decide +kernel
theorem dX9_isFull_6 : decode cX9_isFull 6 = .ok (.if_icmp .lt 7, 3) := by decide +kernel
theorem dX9_isFull_9 : decode cX9_isFull 9 = .ok (.iconst 1, 1) := by decide +kernel
theorem dX9_isFull_10 : decode cX9_isFull 10 = .ok (.goto 4, 3) := by decide +kernel
theorem dX9_isFull_13 : decode cX9_isFull 13 = .ok (.iconst 0, 1) := by decide +kernel
theorem dX9_isFull_14 : decode cX9_isFull 14 = .ok (.ireturn, 1) := by decide +kernel
theorem dX9_add_0 : decode cX9_add 0 = .ok (.aload_n 0, 1) := by decide +kernel
theorem dX9_add_1 : decode cX9_add 1 = .ok (.getfield 16, 3) := by decide +kernel
theorem dX9_add_4 : decode cX9_add 4 = .ok (.bipush 100, 2) := by decide +kernel
theorem dX9_add_6 : decode cX9_add 6 = .ok (.if_icmp .ge 23, 3) := by decide +kernel
theorem dX9_add_9 : decode cX9_add 9 = .ok (.aload_n 0, 1) := by decide +kernel
theorem dX9_add_10 : decode cX9_add 10 = .ok (.getfield 9, 3) := by decide +kernel
theorem dX9_add_13 : decode cX9_add 13 = .ok (.aload_n 0, 1) := by decide +kernel
theorem dX9_add_14 : decode cX9_add 14 = .ok (.getfield 16, 3) := by decide +kernel
theorem dX9_add_17 : decode cX9_add 17 = .ok (.iload_n 1, 1) := by decide +kernel
theorem dX9_add_18 : decode cX9_add 18 = .ok (.iastore, 1) := by decide +kernel
theorem dX9_add_19 : decode cX9_add 19 = .ok (.aload_n 0, 1) := by decide +kernel
theorem dX9_add_20 : decode cX9_add 20 = .ok (.dup, 1) := by decide +kernel
theorem dX9_add_21 : decode cX9_add 21 = .ok (.getfield 16, 3) := by decide +kernel
theorem dX9_add_24 : decode cX9_add 24 = .ok (.iconst 1, 1) := by decide +kernel
theorem dX9_add_25 : decode cX9_add 25 = .ok (.iadd, 1) := by decide +kernel
theorem dX9_add_26 : decode cX9_add 26 = .ok (.putfield 16, 3) := by decide +kernel
theorem dX9_add_29 : decode cX9_add 29 = .ok (.aload_n 0, 1) := by decide +kernel
theorem dX9_add_30 : decode cX9_add 30 = .ok (.getfield 16, 3) := by decide +kernel
theorem dX9_add_33 : decode cX9_add 33 = .ok (.ireturn, 1) := by decide +kernel
theorem dX9_length_0 : decode cX9_length 0 = .ok (.aload_n 0, 1) := by decide +kernel
theorem dX9_length_1 : decode cX9_length 1 = .ok (.getfield 16, 3) := by decide +kernel
theorem dX9_length_4 : decode cX9_length 4 = .ok (.ireturn, 1) := by decide +kernel
theorem dX9_faultNumber_0 : decode cX9_faultNumber 0 = .ok (.aload_n 0, 1) := by decide +kernel
theorem dX9_faultNumber_1 : decode cX9_faultNumber 1 = .ok (.getfield 23, 3) := by decide +kernel
theorem dX9_faultNumber_4 : decode cX9_faultNumber 4 = .ok (.ireturn, 1) := by decide +kernel
theorem dX9_faultPlace_0 : decode cX9_faultPlace 0 = .ok (.aload_n 0, 1) := by decide +kernel
theorem dX9_faultPlace_1 : decode cX9_faultPlace 1 = .ok (.getfield 20, 3) := by decide +kernel
theorem dX9_faultPlace_4 : decode cX9_faultPlace 4 = .ok (.ireturn, 1) := by decide +kernel
theorem dX9_readInto_0 : decode cX9_readInto 0 = .ok (.aload_n 0, 1) := by decide +kernel
theorem dX9_readInto_1 : decode cX9_readInto 1 = .ok (.iconst 0, 1) := by decide +kernel
theorem dX9_readInto_2 : decode cX9_readInto 2 = .ok (.putfield 20, 3) := by decide +kernel
theorem dX9_readInto_5 : decode cX9_readInto 5 = .ok (.aload_n 0, 1) := by decide +kernel
theorem dX9_readInto_6 : decode cX9_readInto 6 = .ok (.iconst 0, 1) := by decide +kernel
theorem dX9_readInto_7 : decode cX9_readInto 7 = .ok (.putfield 23, 3) := by decide +kernel
theorem dX9_readInto_10 : decode cX9_readInto 10 = .ok (.aload_n 0, 1) := by decide +kernel
theorem dX9_readInto_11 : decode cX9_readInto 11 = .ok (.aload_n 1, 1) := by decide +kernel
theorem dX9_readInto_12 : decode cX9_readInto 12 = .ok (.invokevirtual 26, 3) := by decide +kernel
theorem dX9_readInto_15 : decode cX9_readInto 15 = .ok (.ifCond .eq 15, 3) := by decide +kernel
theorem dX9_readInto_18 : decode cX9_readInto 18 = .ok (.aload_n 0, 1) := by decide +kernel
theorem dX9_readInto_19 : decode cX9_readInto 19 = .ok (.aload_n 1, 1) := by decide +kernel
theorem dX9_readInto_20 : decode cX9_readInto 20 = .ok (.invokevirtual 30, 3) := by decide +kernel
theorem dX9_readInto_23 : decode cX9_readInto 23 = .ok (.ifCond .eq 7, 3) := by decide +kernel
theorem dX9_readInto_26 : decode cX9_readInto 26 = .ok (.iconst 1, 1) := by decide +kernel
theorem dX9_readInto_27 : decode cX9_readInto 27 = .ok (.goto 4, 3) := by decide +kernel
theorem dX9_readInto_30 : decode cX9_readInto 30 = .ok (.iconst 0, 1) := by decide +kernel
theorem dX9_readInto_31 : decode cX9_readInto 31 = .ok (.istore_n 2, 1) := by decide +kernel
theorem dX9_readInto_32 : decode cX9_readInto 32 = .ok (.aload_n 0, 1) := by decide +kernel
theorem dX9_readInto_33 : decode cX9_readInto 33 = .ok (.iconst 0, 1) := by decide +kernel
theorem dX9_readInto_34 : decode cX9_readInto 34 = .ok (.putfield 16, 3) := by decide +kernel
theorem dX9_readInto_37 : decode cX9_readInto 37 = .ok (.iload_n 2, 1) := by decide +kernel
theorem dX9_readInto_38 : decode cX9_readInto 38 = .ok (.ireturn, 1) := by decide +kernel
theorem dX9_readLaw_0 : decode cX9_readLaw 0 = .ok (.aload_n 0, 1) := by decide +kernel
theorem dX9_readLaw_1 : decode cX9_readLaw 1 = .ok (.bipush 108, 2) := by decide +kernel
theorem dX9_readLaw_3 : decode cX9_readLaw 3 = .ok (.invokevirtual 33, 3) := by decide +kernel
theorem dX9_readLaw_6 : decode cX9_readLaw 6 = .ok (.ifCond .eq 16, 3) := by decide +kernel
theorem dX9_readLaw_9 : decode cX9_readLaw 9 = .ok (.aload_n 0, 1) := by decide +kernel
theorem dX9_readLaw_10 : decode cX9_readLaw 10 = .ok (.getstatic 37, 3) := by decide +kernel
theorem dX9_readLaw_13 : decode cX9_readLaw 13 = .ok (.getstatic 40, 3) := by decide +kernel
theorem dX9_readLaw_16 : decode cX9_readLaw 16 = .ok (.invokevirtual 43, 3) := by decide +kernel
theorem dX9_readLaw_19 : decode cX9_readLaw 19 = .ok (.ifCond .ne 5, 3) := by decide +kernel
theorem dX9_readLaw_22 : decode cX9_readLaw 22 = .ok (.iconst 0, 1) := by decide +kernel
theorem dX9_readLaw_23 : decode cX9_readLaw 23 = .ok (.ireturn, 1) := by decide +kernel
theorem dX9_readLaw_24 : decode cX9_readLaw 24 = .ok (.aload_n 1, 1) := by decide +kernel
theorem dX9_readLaw_25 : decode cX9_readLaw 25 = .ok (.aload_n 0, 1) := by decide +kernel
theorem dX9_readLaw_26 : decode cX9_readLaw 26 = .ok (.getfield 13, 3) := by decide +kernel
theorem dX9_readLaw_29 : decode cX9_readLaw 29 = .ok (.iconst 0, 1) := by decide +kernel
theorem dX9_readLaw_30 : decode cX9_readLaw 30 = .ok (.iaload, 1) := by decide +kernel
theorem dX9_readLaw_31 : decode cX9_readLaw 31 = .ok (.aload_n 0, 1) := by decide +kernel
theorem dX9_readLaw_32 : decode cX9_readLaw 32 = .ok (.getfield 13, 3) := by decide +kernel
theorem dX9_readLaw_35 : decode cX9_readLaw 35 = .ok (.iconst 1, 1) := by decide +kernel
theorem dX9_readLaw_36 : decode cX9_readLaw 36 = .ok (.iaload, 1) := by decide +kernel
theorem dX9_readLaw_37 : decode cX9_readLaw 37 = .ok (.aload_n 0, 1) := by decide +kernel
theorem dX9_readLaw_38 : decode cX9_readLaw 38 = .ok (.getfield 13, 3) := by decide +kernel
theorem dX9_readLaw_41 : decode cX9_readLaw 41 = .ok (.iconst 2, 1) := by decide +kernel
theorem dX9_readLaw_42 : decode cX9_readLaw 42 = .ok (.iaload, 1) := by decide +kernel
theorem dX9_readLaw_43 : decode cX9_readLaw 43 = .ok (.aload_n 0, 1) := by decide +kernel
theorem dX9_readLaw_44 : decode cX9_readLaw 44 = .ok (.getfield 13, 3) := by decide +kernel
theorem dX9_readLaw_47 : decode cX9_readLaw 47 = .ok (.iconst 3, 1) := by decide +kernel
theorem dX9_readLaw_48 : decode cX9_readLaw 48 = .ok (.iaload, 1) := by decide +kernel
theorem dX9_readLaw_49 : decode cX9_readLaw 49 = .ok (.aload_n 0, 1) := by decide +kernel
theorem dX9_readLaw_50 : decode cX9_readLaw 50 = .ok (.getfield 13, 3) := by decide +kernel
theorem dX9_readLaw_53 : decode cX9_readLaw 53 = .ok (.iconst 4, 1) := by decide +kernel
theorem dX9_readLaw_54 : decode cX9_readLaw 54 = .ok (.iaload, 1) := by decide +kernel
theorem dX9_readLaw_55 : decode cX9_readLaw 55 = .ok (.invokevirtual 47, 3) := by decide +kernel
theorem dX9_readLaw_58 : decode cX9_readLaw 58 = .ok (.iconst 1, 1) := by decide +kernel
theorem dX9_readLaw_59 : decode cX9_readLaw 59 = .ok (.ireturn, 1) := by decide +kernel
theorem dX9_readPiers_0 : decode cX9_readPiers 0 = .ok (.iconst 0, 1) := by decide +kernel
theorem dX9_readPiers_1 : decode cX9_readPiers 1 = .ok (.istore_n 2, 1) := by decide +kernel
theorem dX9_readPiers_2 : decode cX9_readPiers 2 = .ok (.iload_n 2, 1) := by decide +kernel
theorem dX9_readPiers_3 : decode cX9_readPiers 3 = .ok (.iconst 5, 1) := by decide +kernel
theorem dX9_readPiers_4 : decode cX9_readPiers 4 = .ok (.if_icmp .gt 97, 3) := by decide +kernel
theorem dX9_readPiers_7 : decode cX9_readPiers 7 = .ok (.aload_n 0, 1) := by decide +kernel
theorem dX9_readPiers_8 : decode cX9_readPiers 8 = .ok (.getfield 20, 3) := by decide +kernel
theorem dX9_readPiers_11 : decode cX9_readPiers 11 = .ok (.aload_n 0, 1) := by decide +kernel
theorem dX9_readPiers_12 : decode cX9_readPiers 12 = .ok (.getfield 16, 3) := by decide +kernel
theorem dX9_readPiers_15 : decode cX9_readPiers 15 = .ok (.if_icmp .ge 86, 3) := by decide +kernel
theorem dX9_readPiers_18 : decode cX9_readPiers 18 = .ok (.aload_n 0, 1) := by decide +kernel
theorem dX9_readPiers_19 : decode cX9_readPiers 19 = .ok (.invokevirtual 53, 3) := by decide +kernel
theorem dX9_readPiers_22 : decode cX9_readPiers 22 = .ok (.invokestatic 57, 3) := by decide +kernel
theorem dX9_readPiers_25 : decode cX9_readPiers 25 = .ok (.istore_n 3, 1) := by decide +kernel
theorem dX9_readPiers_26 : decode cX9_readPiers 26 = .ok (.iload_n 3, 1) := by decide +kernel
theorem dX9_readPiers_27 : decode cX9_readPiers 27 = .ok (.ifCond .ne 9, 3) := by decide +kernel
theorem dX9_readPiers_30 : decode cX9_readPiers 30 = .ok (.aload_n 0, 1) := by decide +kernel
theorem dX9_readPiers_31 : decode cX9_readPiers 31 = .ok (.iconst 1, 1) := by decide +kernel
theorem dX9_readPiers_32 : decode cX9_readPiers 32 = .ok (.invokevirtual 61, 3) := by decide +kernel
theorem dX9_readPiers_35 : decode cX9_readPiers 35 = .ok (.ireturn, 1) := by decide +kernel
theorem dX9_readPiers_36 : decode cX9_readPiers 36 = .ok (.iload_n 2, 1) := by decide +kernel
theorem dX9_readPiers_37 : decode cX9_readPiers 37 = .ok (.iconst 5, 1) := by decide +kernel
theorem dX9_readPiers_38 : decode cX9_readPiers 38 = .ok (.if_icmp .lt 9, 3) := by decide +kernel
theorem dX9_readPiers_41 : decode cX9_readPiers 41 = .ok (.aload_n 0, 1) := by decide +kernel
theorem dX9_readPiers_42 : decode cX9_readPiers 42 = .ok (.iconst 3, 1) := by decide +kernel
theorem dX9_readPiers_43 : decode cX9_readPiers 43 = .ok (.invokevirtual 61, 3) := by decide +kernel
theorem dX9_readPiers_46 : decode cX9_readPiers 46 = .ok (.ireturn, 1) := by decide +kernel
theorem dX9_readPiers_47 : decode cX9_readPiers 47 = .ok (.aload_n 0, 1) := by decide +kernel
theorem dX9_readPiers_48 : decode cX9_readPiers 48 = .ok (.dup, 1) := by decide +kernel
theorem dX9_readPiers_49 : decode cX9_readPiers 49 = .ok (.getfield 20, 3) := by decide +kernel
theorem dX9_readPiers_52 : decode cX9_readPiers 52 = .ok (.iconst 1, 1) := by decide +kernel
theorem dX9_readPiers_53 : decode cX9_readPiers 53 = .ok (.iadd, 1) := by decide +kernel
theorem dX9_readPiers_54 : decode cX9_readPiers 54 = .ok (.putfield 20, 3) := by decide +kernel
theorem dX9_readPiers_57 : decode cX9_readPiers 57 = .ok (.aload_n 0, 1) := by decide +kernel
theorem dX9_readPiers_58 : decode cX9_readPiers 58 = .ok (.getstatic 64, 3) := by decide +kernel
theorem dX9_readPiers_61 : decode cX9_readPiers 61 = .ok (.getstatic 67, 3) := by decide +kernel
theorem dX9_readPiers_64 : decode cX9_readPiers 64 = .ok (.invokevirtual 43, 3) := by decide +kernel
theorem dX9_readPiers_67 : decode cX9_readPiers 67 = .ok (.ifCond .ne 5, 3) := by decide +kernel
theorem dX9_readPiers_70 : decode cX9_readPiers 70 = .ok (.iconst 0, 1) := by decide +kernel
theorem dX9_readPiers_71 : decode cX9_readPiers 71 = .ok (.ireturn, 1) := by decide +kernel
theorem dX9_readPiers_72 : decode cX9_readPiers 72 = .ok (.aload_n 1, 1) := by decide +kernel
theorem dX9_readPiers_73 : decode cX9_readPiers 73 = .ok (.iload_n 3, 1) := by decide +kernel
theorem dX9_readPiers_74 : decode cX9_readPiers 74 = .ok (.aload_n 0, 1) := by decide +kernel
theorem dX9_readPiers_75 : decode cX9_readPiers 75 = .ok (.getfield 13, 3) := by decide +kernel
theorem dX9_readPiers_78 : decode cX9_readPiers 78 = .ok (.iconst 0, 1) := by decide +kernel
theorem dX9_readPiers_79 : decode cX9_readPiers 79 = .ok (.iaload, 1) := by decide +kernel
theorem dX9_readPiers_80 : decode cX9_readPiers 80 = .ok (.aload_n 0, 1) := by decide +kernel
theorem dX9_readPiers_81 : decode cX9_readPiers 81 = .ok (.getfield 13, 3) := by decide +kernel
theorem dX9_readPiers_84 : decode cX9_readPiers 84 = .ok (.iconst 1, 1) := by decide +kernel
theorem dX9_readPiers_85 : decode cX9_readPiers 85 = .ok (.iaload, 1) := by decide +kernel
theorem dX9_readPiers_86 : decode cX9_readPiers 86 = .ok (.aload_n 0, 1) := by decide +kernel
theorem dX9_readPiers_87 : decode cX9_readPiers 87 = .ok (.getfield 13, 3) := by decide +kernel
theorem dX9_readPiers_90 : decode cX9_readPiers 90 = .ok (.iconst 2, 1) := by decide +kernel
theorem dX9_readPiers_91 : decode cX9_readPiers 91 = .ok (.iaload, 1) := by decide +kernel
theorem dX9_readPiers_92 : decode cX9_readPiers 92 = .ok (.invokevirtual 70, 3) := by decide +kernel
theorem dX9_readPiers_95 : decode cX9_readPiers 95 = .ok (.iinc 2 1, 3) := by decide +kernel
theorem dX9_readPiers_98 : decode cX9_readPiers 98 = .ok (.goto (-96), 3) := by decide +kernel
theorem dX9_readPiers_101 : decode cX9_readPiers 101 = .ok (.iconst 1, 1) := by decide +kernel
theorem dX9_readPiers_102 : decode cX9_readPiers 102 = .ok (.ireturn, 1) := by decide +kernel
theorem dX9_readNumbers_0 : decode cX9_readNumbers 0 = .ok (.aload_n 2, 1) := by decide +kernel
theorem dX9_readNumbers_1 : decode cX9_readNumbers 1 = .ok (.arraylength, 1) := by decide +kernel
theorem dX9_readNumbers_2 : decode cX9_readNumbers 2 = .ok (.iconst 1, 1) := by decide +kernel
theorem dX9_readNumbers_3 : decode cX9_readNumbers 3 = .ok (.isub, 1) := by decide +kernel
theorem dX9_readNumbers_4 : decode cX9_readNumbers 4 = .ok (.istore_n 3, 1) := by decide +kernel
theorem dX9_readNumbers_5 : decode cX9_readNumbers 5 = .ok (.iconst 0, 1) := by decide +kernel
theorem dX9_readNumbers_6 : decode cX9_readNumbers 6 = .ok (.istore 4, 2) := by decide +kernel
theorem dX9_readNumbers_8 : decode cX9_readNumbers 8 = .ok (.iload 4, 2) := by decide +kernel
theorem dX9_readNumbers_10 : decode cX9_readNumbers 10 = .ok (.iload_n 3, 1) := by decide +kernel
theorem dX9_readNumbers_11 : decode cX9_readNumbers 11 = .ok (.if_icmp .gt 48, 3) := by decide +kernel
theorem dX9_readNumbers_14 : decode cX9_readNumbers 14 = .ok (.aload_n 0, 1) := by decide +kernel
theorem dX9_readNumbers_15 : decode cX9_readNumbers 15 = .ok (.iload 4, 2) := by decide +kernel
theorem dX9_readNumbers_17 : decode cX9_readNumbers 17 = .ok (.aload_n 1, 1) := by decide +kernel
theorem dX9_readNumbers_18 : decode cX9_readNumbers 18 = .ok (.iload 4, 2) := by decide +kernel
theorem dX9_readNumbers_20 : decode cX9_readNumbers 20 = .ok (.iaload, 1) := by decide +kernel
theorem dX9_readNumbers_21 : decode cX9_readNumbers 21 = .ok (.aload_n 2, 1) := by decide +kernel
theorem dX9_readNumbers_22 : decode cX9_readNumbers 22 = .ok (.iload 4, 2) := by decide +kernel
theorem dX9_readNumbers_24 : decode cX9_readNumbers 24 = .ok (.iaload, 1) := by decide +kernel
theorem dX9_readNumbers_25 : decode cX9_readNumbers 25 = .ok (.invokevirtual 74, 3) := by decide +kernel
theorem dX9_readNumbers_28 : decode cX9_readNumbers 28 = .ok (.ifCond .eq 23, 3) := by decide +kernel
theorem dX9_readNumbers_31 : decode cX9_readNumbers 31 = .ok (.aload_n 0, 1) := by decide +kernel
theorem dX9_readNumbers_32 : decode cX9_readNumbers 32 = .ok (.iload 4, 2) := by decide +kernel
theorem dX9_readNumbers_34 : decode cX9_readNumbers 34 = .ok (.iload_n 3, 1) := by decide +kernel
theorem dX9_readNumbers_35 : decode cX9_readNumbers 35 = .ok (.if_icmp .ge 8, 3) := by decide +kernel
theorem dX9_readNumbers_38 : decode cX9_readNumbers 38 = .ok (.bipush 44, 2) := by decide +kernel
theorem dX9_readNumbers_40 : decode cX9_readNumbers 40 = .ok (.goto 5, 3) := by decide +kernel
theorem dX9_readNumbers_43 : decode cX9_readNumbers 43 = .ok (.bipush 59, 2) := by decide +kernel
theorem dX9_readNumbers_45 : decode cX9_readNumbers 45 = .ok (.invokevirtual 33, 3) := by decide +kernel
theorem dX9_readNumbers_48 : decode cX9_readNumbers 48 = .ok (.ifCond .ne 5, 3) := by decide +kernel
theorem dX9_readNumbers_51 : decode cX9_readNumbers 51 = .ok (.iconst 0, 1) := by decide +kernel
theorem dX9_readNumbers_52 : decode cX9_readNumbers 52 = .ok (.ireturn, 1) := by decide +kernel
theorem dX9_readNumbers_53 : decode cX9_readNumbers 53 = .ok (.iinc 4 1, 3) := by decide +kernel
theorem dX9_readNumbers_56 : decode cX9_readNumbers 56 = .ok (.goto (-48), 3) := by decide +kernel
theorem dX9_readNumbers_59 : decode cX9_readNumbers 59 = .ok (.iconst 1, 1) := by decide +kernel
theorem dX9_readNumbers_60 : decode cX9_readNumbers 60 = .ok (.ireturn, 1) := by decide +kernel
theorem dX9_readNumber_0 : decode cX9_readNumber 0 = .ok (.iconst 0, 1) := by decide +kernel
theorem dX9_readNumber_1 : decode cX9_readNumber 1 = .ok (.istore 4, 2) := by decide +kernel
theorem dX9_readNumber_3 : decode cX9_readNumber 3 = .ok (.iconst 0, 1) := by decide +kernel
theorem dX9_readNumber_4 : decode cX9_readNumber 4 = .ok (.istore 5, 2) := by decide +kernel
theorem dX9_readNumber_6 : decode cX9_readNumber 6 = .ok (.aload_n 0, 1) := by decide +kernel
theorem dX9_readNumber_7 : decode cX9_readNumber 7 = .ok (.getfield 20, 3) := by decide +kernel
theorem dX9_readNumber_10 : decode cX9_readNumber 10 = .ok (.istore 6, 2) := by decide +kernel
theorem dX9_readNumber_12 : decode cX9_readNumber 12 = .ok (.iload 6, 2) := by decide +kernel
theorem dX9_readNumber_14 : decode cX9_readNumber 14 = .ok (.aload_n 0, 1) := by decide +kernel
theorem dX9_readNumber_15 : decode cX9_readNumber 15 = .ok (.getfield 16, 3) := by decide +kernel
theorem dX9_readNumber_18 : decode cX9_readNumber 18 = .ok (.if_icmp .ge 54, 3) := by decide +kernel
theorem dX9_readNumber_21 : decode cX9_readNumber 21 = .ok (.aload_n 0, 1) := by decide +kernel
theorem dX9_readNumber_22 : decode cX9_readNumber 22 = .ok (.getfield 9, 3) := by decide +kernel
theorem dX9_readNumber_25 : decode cX9_readNumber 25 = .ok (.iload 6, 2) := by decide +kernel
theorem dX9_readNumber_27 : decode cX9_readNumber 27 = .ok (.iaload, 1) := by decide +kernel
theorem dX9_readNumber_28 : decode cX9_readNumber 28 = .ok (.invokestatic 78, 3) := by decide +kernel
theorem dX9_readNumber_31 : decode cX9_readNumber 31 = .ok (.ifCond .eq 41, 3) := by decide +kernel
theorem dX9_readNumber_34 : decode cX9_readNumber 34 = .ok (.iinc 4 1, 3) := by decide +kernel
theorem dX9_readNumber_37 : decode cX9_readNumber 37 = .ok (.iload 4, 2) := by decide +kernel
theorem dX9_readNumber_39 : decode cX9_readNumber 39 = .ok (.iconst 2, 1) := by decide +kernel
theorem dX9_readNumber_40 : decode cX9_readNumber 40 = .ok (.if_icmp .gt 22, 3) := by decide +kernel
theorem dX9_readNumber_43 : decode cX9_readNumber 43 = .ok (.iload 5, 2) := by decide +kernel
theorem dX9_readNumber_45 : decode cX9_readNumber 45 = .ok (.bipush 10, 2) := by decide +kernel
theorem dX9_readNumber_47 : decode cX9_readNumber 47 = .ok (.imul, 1) := by decide +kernel
theorem dX9_readNumber_48 : decode cX9_readNumber 48 = .ok (.aload_n 0, 1) := by decide +kernel
theorem dX9_readNumber_49 : decode cX9_readNumber 49 = .ok (.getfield 9, 3) := by decide +kernel
theorem dX9_readNumber_52 : decode cX9_readNumber 52 = .ok (.iload 6, 2) := by decide +kernel
theorem dX9_readNumber_54 : decode cX9_readNumber 54 = .ok (.iaload, 1) := by decide +kernel
theorem dX9_readNumber_55 : decode cX9_readNumber 55 = .ok (.iadd, 1) := by decide +kernel
theorem dX9_readNumber_56 : decode cX9_readNumber 56 = .ok (.bipush 48, 2) := by decide +kernel
theorem dX9_readNumber_58 : decode cX9_readNumber 58 = .ok (.isub, 1) := by decide +kernel
theorem dX9_readNumber_59 : decode cX9_readNumber 59 = .ok (.goto 5, 3) := by decide +kernel
theorem dX9_readNumber_62 : decode cX9_readNumber 62 = .ok (.iload 5, 2) := by decide +kernel
theorem dX9_readNumber_64 : decode cX9_readNumber 64 = .ok (.istore 5, 2) := by decide +kernel
theorem dX9_readNumber_66 : decode cX9_readNumber 66 = .ok (.iinc 6 1, 3) := by decide +kernel
theorem dX9_readNumber_69 : decode cX9_readNumber 69 = .ok (.goto (-57), 3) := by decide +kernel
theorem dX9_readNumber_72 : decode cX9_readNumber 72 = .ok (.iload 4, 2) := by decide +kernel
theorem dX9_readNumber_74 : decode cX9_readNumber 74 = .ok (.ifCond .eq 9, 3) := by decide +kernel
theorem dX9_readNumber_77 : decode cX9_readNumber 77 = .ok (.iload 4, 2) := by decide +kernel
theorem dX9_readNumber_79 : decode cX9_readNumber 79 = .ok (.iconst 2, 1) := by decide +kernel
theorem dX9_readNumber_80 : decode cX9_readNumber 80 = .ok (.if_icmp .le 9, 3) := by decide +kernel
theorem dX9_readNumber_83 : decode cX9_readNumber 83 = .ok (.aload_n 0, 1) := by decide +kernel
theorem dX9_readNumber_84 : decode cX9_readNumber 84 = .ok (.iconst 1, 1) := by decide +kernel
theorem dX9_readNumber_85 : decode cX9_readNumber 85 = .ok (.invokevirtual 61, 3) := by decide +kernel
theorem dX9_readNumber_88 : decode cX9_readNumber 88 = .ok (.ireturn, 1) := by decide +kernel
theorem dX9_readNumber_89 : decode cX9_readNumber 89 = .ok (.iload 5, 2) := by decide +kernel
theorem dX9_readNumber_91 : decode cX9_readNumber 91 = .ok (.iload_n 2, 1) := by decide +kernel
theorem dX9_readNumber_92 : decode cX9_readNumber 92 = .ok (.if_icmp .lt 9, 3) := by decide +kernel
theorem dX9_readNumber_95 : decode cX9_readNumber 95 = .ok (.iload 5, 2) := by decide +kernel
theorem dX9_readNumber_97 : decode cX9_readNumber 97 = .ok (.iload_n 3, 1) := by decide +kernel
theorem dX9_readNumber_98 : decode cX9_readNumber 98 = .ok (.if_icmp .le 9, 3) := by decide +kernel
theorem dX9_readNumber_101 : decode cX9_readNumber 101 = .ok (.aload_n 0, 1) := by decide +kernel
theorem dX9_readNumber_102 : decode cX9_readNumber 102 = .ok (.iconst 2, 1) := by decide +kernel
theorem dX9_readNumber_103 : decode cX9_readNumber 103 = .ok (.invokevirtual 61, 3) := by decide +kernel
theorem dX9_readNumber_106 : decode cX9_readNumber 106 = .ok (.ireturn, 1) := by decide +kernel
theorem dX9_readNumber_107 : decode cX9_readNumber 107 = .ok (.aload_n 0, 1) := by decide +kernel
theorem dX9_readNumber_108 : decode cX9_readNumber 108 = .ok (.getfield 13, 3) := by decide +kernel
theorem dX9_readNumber_111 : decode cX9_readNumber 111 = .ok (.iload_n 1, 1) := by decide +kernel
theorem dX9_readNumber_112 : decode cX9_readNumber 112 = .ok (.iload 5, 2) := by decide +kernel
theorem dX9_readNumber_114 : decode cX9_readNumber 114 = .ok (.iastore, 1) := by decide +kernel
theorem dX9_readNumber_115 : decode cX9_readNumber 115 = .ok (.aload_n 0, 1) := by decide +kernel
theorem dX9_readNumber_116 : decode cX9_readNumber 116 = .ok (.dup, 1) := by decide +kernel
theorem dX9_readNumber_117 : decode cX9_readNumber 117 = .ok (.getfield 20, 3) := by decide +kernel
theorem dX9_readNumber_120 : decode cX9_readNumber 120 = .ok (.iload 4, 2) := by decide +kernel
theorem dX9_readNumber_122 : decode cX9_readNumber 122 = .ok (.iadd, 1) := by decide +kernel
theorem dX9_readNumber_123 : decode cX9_readNumber 123 = .ok (.putfield 20, 3) := by decide +kernel
theorem dX9_readNumber_126 : decode cX9_readNumber 126 = .ok (.iconst 1, 1) := by decide +kernel
theorem dX9_readNumber_127 : decode cX9_readNumber 127 = .ok (.ireturn, 1) := by decide +kernel
theorem dX9_readSign_0 : decode cX9_readSign 0 = .ok (.aload_n 0, 1) := by decide +kernel
theorem dX9_readSign_1 : decode cX9_readSign 1 = .ok (.invokevirtual 53, 3) := by decide +kernel
theorem dX9_readSign_4 : decode cX9_readSign 4 = .ok (.iload_n 1, 1) := by decide +kernel
theorem dX9_readSign_5 : decode cX9_readSign 5 = .ok (.if_icmp .eq 9, 3) := by decide +kernel
theorem dX9_readSign_8 : decode cX9_readSign 8 = .ok (.aload_n 0, 1) := by decide +kernel
theorem dX9_readSign_9 : decode cX9_readSign 9 = .ok (.iconst 1, 1) := by decide +kernel
theorem dX9_readSign_10 : decode cX9_readSign 10 = .ok (.invokevirtual 61, 3) := by decide +kernel
theorem dX9_readSign_13 : decode cX9_readSign 13 = .ok (.ireturn, 1) := by decide +kernel
theorem dX9_readSign_14 : decode cX9_readSign 14 = .ok (.aload_n 0, 1) := by decide +kernel
theorem dX9_readSign_15 : decode cX9_readSign 15 = .ok (.dup, 1) := by decide +kernel
theorem dX9_readSign_16 : decode cX9_readSign 16 = .ok (.getfield 20, 3) := by decide +kernel
theorem dX9_readSign_19 : decode cX9_readSign 19 = .ok (.iconst 1, 1) := by decide +kernel
theorem dX9_readSign_20 : decode cX9_readSign 20 = .ok (.iadd, 1) := by decide +kernel
theorem dX9_readSign_21 : decode cX9_readSign 21 = .ok (.putfield 20, 3) := by decide +kernel
theorem dX9_readSign_24 : decode cX9_readSign 24 = .ok (.iconst 1, 1) := by decide +kernel
theorem dX9_readSign_25 : decode cX9_readSign 25 = .ok (.ireturn, 1) := by decide +kernel
theorem dX9_fail_0 : decode cX9_fail 0 = .ok (.aload_n 0, 1) := by decide +kernel
theorem dX9_fail_1 : decode cX9_fail 1 = .ok (.iload_n 1, 1) := by decide +kernel
theorem dX9_fail_2 : decode cX9_fail 2 = .ok (.putfield 23, 3) := by decide +kernel
theorem dX9_fail_5 : decode cX9_fail 5 = .ok (.iconst 0, 1) := by decide +kernel
theorem dX9_fail_6 : decode cX9_fail 6 = .ok (.ireturn, 1) := by decide +kernel
theorem dX9_byteHere_0 : decode cX9_byteHere 0 = .ok (.aload_n 0, 1) := by decide +kernel
theorem dX9_byteHere_1 : decode cX9_byteHere 1 = .ok (.getfield 20, 3) := by decide +kernel
theorem dX9_byteHere_4 : decode cX9_byteHere 4 = .ok (.aload_n 0, 1) := by decide +kernel
theorem dX9_byteHere_5 : decode cX9_byteHere 5 = .ok (.getfield 16, 3) := by decide +kernel
theorem dX9_byteHere_8 : decode cX9_byteHere 8 = .ok (.if_icmp .ge 15, 3) := by decide +kernel
theorem dX9_byteHere_11 : decode cX9_byteHere 11 = .ok (.aload_n 0, 1) := by decide +kernel
theorem dX9_byteHere_12 : decode cX9_byteHere 12 = .ok (.getfield 9, 3) := by decide +kernel
theorem dX9_byteHere_15 : decode cX9_byteHere 15 = .ok (.aload_n 0, 1) := by decide +kernel
theorem dX9_byteHere_16 : decode cX9_byteHere 16 = .ok (.getfield 20, 3) := by decide +kernel
theorem dX9_byteHere_19 : decode cX9_byteHere 19 = .ok (.iaload, 1) := by decide +kernel
theorem dX9_byteHere_20 : decode cX9_byteHere 20 = .ok (.goto 4, 3) := by decide +kernel
theorem dX9_byteHere_23 : decode cX9_byteHere 23 = .ok (.iconst (-1), 1) := by decide +kernel
theorem dX9_byteHere_24 : decode cX9_byteHere 24 = .ok (.ireturn, 1) := by decide +kernel
theorem dX9_isFigure_0 : decode cX9_isFigure 0 = .ok (.iload_n 0, 1) := by decide +kernel
theorem dX9_isFigure_1 : decode cX9_isFigure 1 = .ok (.bipush 48, 2) := by decide +kernel
theorem dX9_isFigure_3 : decode cX9_isFigure 3 = .ok (.if_icmp .lt 13, 3) := by decide +kernel
theorem dX9_isFigure_6 : decode cX9_isFigure 6 = .ok (.iload_n 0, 1) := by decide +kernel
theorem dX9_isFigure_7 : decode cX9_isFigure 7 = .ok (.bipush 57, 2) := by decide +kernel
theorem dX9_isFigure_9 : decode cX9_isFigure 9 = .ok (.if_icmp .gt 7, 3) := by decide +kernel
theorem dX9_isFigure_12 : decode cX9_isFigure 12 = .ok (.iconst 1, 1) := by decide +kernel
theorem dX9_isFigure_13 : decode cX9_isFigure 13 = .ok (.goto 4, 3) := by decide +kernel
theorem dX9_isFigure_16 : decode cX9_isFigure 16 = .ok (.iconst 0, 1) := by decide +kernel
theorem dX9_isFigure_17 : decode cX9_isFigure 17 = .ok (.ireturn, 1) := by decide +kernel
theorem dX9_kindOfLetter_0 : decode cX9_kindOfLetter 0 = .ok (.iload_n 0, 1) := by decide +kernel
theorem dX9_kindOfLetter_1 : decode cX9_kindOfLetter 1 = .ok (.lookupswitch 61 #[(99, 53), (105, 51), (112, 59), (114, 55), (119, 57)], 51) := by decide +kernel
theorem dX9_kindOfLetter_52 : decode cX9_kindOfLetter 52 = .ok (.iconst 1, 1) := by decide +kernel
theorem dX9_kindOfLetter_53 : decode cX9_kindOfLetter 53 = .ok (.ireturn, 1) := by decide +kernel
theorem dX9_kindOfLetter_54 : decode cX9_kindOfLetter 54 = .ok (.iconst 2, 1) := by decide +kernel
theorem dX9_kindOfLetter_55 : decode cX9_kindOfLetter 55 = .ok (.ireturn, 1) := by decide +kernel
theorem dX9_kindOfLetter_56 : decode cX9_kindOfLetter 56 = .ok (.iconst 3, 1) := by decide +kernel
theorem dX9_kindOfLetter_57 : decode cX9_kindOfLetter 57 = .ok (.ireturn, 1) := by decide +kernel
theorem dX9_kindOfLetter_58 : decode cX9_kindOfLetter 58 = .ok (.iconst 4, 1) := by decide +kernel
theorem dX9_kindOfLetter_59 : decode cX9_kindOfLetter 59 = .ok (.ireturn, 1) := by decide +kernel
theorem dX9_kindOfLetter_60 : decode cX9_kindOfLetter 60 = .ok (.iconst 5, 1) := by decide +kernel
theorem dX9_kindOfLetter_61 : decode cX9_kindOfLetter 61 = .ok (.ireturn, 1) := by decide +kernel
theorem dX9_kindOfLetter_62 : decode cX9_kindOfLetter 62 = .ok (.iconst 0, 1) := by decide +kernel
theorem dX9_kindOfLetter_63 : decode cX9_kindOfLetter 63 = .ok (.ireturn, 1) := by decide +kernel
theorem dX10_init_0 : decode cX10_init 0 = .ok (.aload_n 0, 1) := by decide +kernel
theorem dX10_init_1 : decode cX10_init 1 = .ok (.invokespecial 1, 3) := by decide +kernel
theorem dX10_init_4 : decode cX10_init 4 = .ok (.return_, 1) := by decide +kernel
theorem dX10_size_0 : decode cX10_size 0 = .ok (.aload_n 1, 1) := by decide +kernel
theorem dX10_size_1 : decode cX10_size 1 = .ok (.bipush 13, 2) := by decide +kernel
theorem dX10_size_3 : decode cX10_size 3 = .ok (.invokevirtual 7, 3) := by decide +kernel
theorem dX10_size_6 : decode cX10_size 6 = .ok (.aload_n 0, 1) := by decide +kernel
theorem dX10_size_7 : decode cX10_size 7 = .ok (.aload_n 1, 1) := by decide +kernel
theorem dX10_size_8 : decode cX10_size 8 = .ok (.invokespecial 13, 3) := by decide +kernel
theorem dX10_size_11 : decode cX10_size 11 = .ok (.bipush 100, 2) := by decide +kernel
theorem dX10_size_13 : decode cX10_size 13 = .ok (.isub, 1) := by decide +kernel
theorem dX10_size_14 : decode cX10_size 14 = .ok (.ireturn, 1) := by decide +kernel
theorem dX10_mark_0 : decode cX10_mark 0 = .ok (.aload_n 1, 1) := by decide +kernel
theorem dX10_mark_1 : decode cX10_mark 1 = .ok (.bipush 23, 2) := by decide +kernel
theorem dX10_mark_3 : decode cX10_mark 3 = .ok (.invokevirtual 7, 3) := by decide +kernel
theorem dX10_mark_6 : decode cX10_mark 6 = .ok (.aload_n 0, 1) := by decide +kernel
theorem dX10_mark_7 : decode cX10_mark 7 = .ok (.aload_n 1, 1) := by decide +kernel
theorem dX10_mark_8 : decode cX10_mark 8 = .ok (.invokespecial 17, 3) := by decide +kernel
theorem dX10_mark_11 : decode cX10_mark 11 = .ok (.istore_n 2, 1) := by decide +kernel
theorem dX10_mark_12 : decode cX10_mark 12 = .ok (.iload_n 2, 1) := by decide +kernel
theorem dX10_mark_13 : decode cX10_mark 13 = .ok (.aload_n 0, 1) := by decide +kernel
theorem dX10_mark_14 : decode cX10_mark 14 = .ok (.aload_n 1, 1) := by decide +kernel
theorem dX10_mark_15 : decode cX10_mark 15 = .ok (.invokevirtual 20, 3) := by decide +kernel
theorem dX10_mark_18 : decode cX10_mark 18 = .ok (.isub, 1) := by decide +kernel
theorem dX10_mark_19 : decode cX10_mark 19 = .ok (.ireturn, 1) := by decide +kernel
theorem dX11_init_0 : decode cX11_init 0 = .ok (.aload_n 0, 1) := by decide +kernel
theorem dX11_init_1 : decode cX11_init 1 = .ok (.invokespecial 3, 3) := by decide +kernel
theorem dX11_init_4 : decode cX11_init 4 = .ok (.aload_n 0, 1) := by decide +kernel
theorem dX11_init_5 : decode cX11_init 5 = .ok (.new 9, 3) := by decide +kernel
theorem dX11_init_8 : decode cX11_init 8 = .ok (.dup, 1) := by decide +kernel
theorem dX11_init_9 : decode cX11_init 9 = .ok (.invokespecial 11, 3) := by decide +kernel
theorem dX11_init_12 : decode cX11_init 12 = .ok (.putfield 12, 3) := by decide +kernel
theorem dX11_init_15 : decode cX11_init 15 = .ok (.aload_n 0, 1) := by decide +kernel
theorem dX11_init_16 : decode cX11_init 16 = .ok (.new 16, 3) := by decide +kernel
theorem dX11_init_19 : decode cX11_init 19 = .ok (.dup, 1) := by decide +kernel
theorem dX11_init_20 : decode cX11_init 20 = .ok (.invokespecial 18, 3) := by decide +kernel
theorem dX11_init_23 : decode cX11_init 23 = .ok (.putfield 19, 3) := by decide +kernel
theorem dX11_init_26 : decode cX11_init 26 = .ok (.aload_n 0, 1) := by decide +kernel
theorem dX11_init_27 : decode cX11_init 27 = .ok (.new 23, 3) := by decide +kernel
theorem dX11_init_30 : decode cX11_init 30 = .ok (.dup, 1) := by decide +kernel
theorem dX11_init_31 : decode cX11_init 31 = .ok (.invokespecial 25, 3) := by decide +kernel
theorem dX11_init_34 : decode cX11_init 34 = .ok (.putfield 26, 3) := by decide +kernel
theorem dX11_init_37 : decode cX11_init 37 = .ok (.aload_n 0, 1) := by decide +kernel
theorem dX11_init_38 : decode cX11_init 38 = .ok (.new 23, 3) := by decide +kernel
theorem dX11_init_41 : decode cX11_init 41 = .ok (.dup, 1) := by decide +kernel
theorem dX11_init_42 : decode cX11_init 42 = .ok (.invokespecial 25, 3) := by decide +kernel
theorem dX11_init_45 : decode cX11_init 45 = .ok (.putfield 30, 3) := by decide +kernel
theorem dX11_init_48 : decode cX11_init 48 = .ok (.aload_n 0, 1) := by decide +kernel
theorem dX11_init_49 : decode cX11_init 49 = .ok (.new 23, 3) := by decide +kernel
theorem dX11_init_52 : decode cX11_init 52 = .ok (.dup, 1) := by decide +kernel
theorem dX11_init_53 : decode cX11_init 53 = .ok (.invokespecial 25, 3) := by decide +kernel
theorem dX11_init_56 : decode cX11_init 56 = .ok (.putfield 33, 3) := by decide +kernel

theorem dX0_init_0 : decode cX0_init 0 = .ok (.aload_n 0, 1) := by decide +kernel
theorem dX0_init_1 : decode cX0_init 1 = .ok (.invokespecial 1, 3) := by decide +kernel
theorem dX0_init_4 : decode cX0_init 4 = .ok (.aload_n 0, 1) := by decide +kernel
theorem dX0_init_5 : decode cX0_init 5 = .ok (.new 7, 3) := by decide +kernel
theorem dX0_init_8 : decode cX0_init 8 = .ok (.dup, 1) := by decide +kernel
theorem dX0_init_9 : decode cX0_init 9 = .ok (.invokespecial 9, 3) := by decide +kernel
theorem dX0_init_12 : decode cX0_init 12 = .ok (.putfield 10, 3) := by decide +kernel
theorem dX0_init_15 : decode cX0_init 15 = .ok (.aload_n 0, 1) := by decide +kernel
theorem dX0_init_16 : decode cX0_init 16 = .ok (.new 7, 3) := by decide +kernel
theorem dX0_init_19 : decode cX0_init 19 = .ok (.dup, 1) := by decide +kernel
theorem dX0_init_20 : decode cX0_init 20 = .ok (.invokespecial 9, 3) := by decide +kernel
theorem dX0_init_23 : decode cX0_init 23 = .ok (.putfield 16, 3) := by decide +kernel
theorem dX0_init_26 : decode cX0_init 26 = .ok (.return_, 1) := by decide +kernel
theorem dX0_missed_0 : decode cX0_missed 0 = .ok (.aload_n 0, 1) := by decide +kernel
theorem dX0_missed_1 : decode cX0_missed 1 = .ok (.getfield 10, 3) := by decide +kernel
theorem dX0_missed_4 : decode cX0_missed 4 = .ok (.getfield 19, 3) := by decide +kernel
theorem dX0_missed_7 : decode cX0_missed 7 = .ok (.lload_n 1, 1) := by decide +kernel
theorem dX0_missed_8 : decode cX0_missed 8 = .ok (.ldc2_w 23, 3) := by decide +kernel
theorem dX0_missed_11 : decode cX0_missed 11 = .ok (.lxor, 1) := by decide +kernel
theorem dX0_missed_12 : decode cX0_missed 12 = .ok (.land, 1) := by decide +kernel
theorem dX0_missed_13 : decode cX0_missed 13 = .ok (.invokestatic 25, 3) := by decide +kernel
theorem dX0_missed_16 : decode cX0_missed 16 = .ok (.aload_n 0, 1) := by decide +kernel
theorem dX0_missed_17 : decode cX0_missed 17 = .ok (.getfield 10, 3) := by decide +kernel
theorem dX0_missed_20 : decode cX0_missed 20 = .ok (.getfield 31, 3) := by decide +kernel
theorem dX0_missed_23 : decode cX0_missed 23 = .ok (.lload_n 3, 1) := by decide +kernel
theorem dX0_missed_24 : decode cX0_missed 24 = .ok (.ldc2_w 23, 3) := by decide +kernel
theorem dX0_missed_27 : decode cX0_missed 27 = .ok (.lxor, 1) := by decide +kernel
theorem dX0_missed_28 : decode cX0_missed 28 = .ok (.land, 1) := by decide +kernel
theorem dX0_missed_29 : decode cX0_missed 29 = .ok (.invokestatic 25, 3) := by decide +kernel
theorem dX0_missed_32 : decode cX0_missed 32 = .ok (.iadd, 1) := by decide +kernel
theorem dX0_missed_33 : decode cX0_missed 33 = .ok (.ireturn, 1) := by decide +kernel
theorem dX0_over_0 : decode cX0_over 0 = .ok (.lload_n 1, 1) := by decide +kernel
theorem dX0_over_1 : decode cX0_over 1 = .ok (.aload_n 0, 1) := by decide +kernel
theorem dX0_over_2 : decode cX0_over 2 = .ok (.getfield 10, 3) := by decide +kernel
theorem dX0_over_5 : decode cX0_over 5 = .ok (.getfield 19, 3) := by decide +kernel
theorem dX0_over_8 : decode cX0_over 8 = .ok (.aload_n 0, 1) := by decide +kernel
theorem dX0_over_9 : decode cX0_over 9 = .ok (.getfield 16, 3) := by decide +kernel
theorem dX0_over_12 : decode cX0_over 12 = .ok (.getfield 19, 3) := by decide +kernel
theorem dX0_over_15 : decode cX0_over 15 = .ok (.lor, 1) := by decide +kernel
theorem dX0_over_16 : decode cX0_over 16 = .ok (.ldc2_w 23, 3) := by decide +kernel
theorem dX0_over_19 : decode cX0_over 19 = .ok (.lxor, 1) := by decide +kernel
theorem dX0_over_20 : decode cX0_over 20 = .ok (.land, 1) := by decide +kernel
theorem dX0_over_21 : decode cX0_over 21 = .ok (.invokestatic 25, 3) := by decide +kernel
theorem dX0_over_24 : decode cX0_over 24 = .ok (.lload_n 3, 1) := by decide +kernel
theorem dX0_over_25 : decode cX0_over 25 = .ok (.aload_n 0, 1) := by decide +kernel
theorem dX0_over_26 : decode cX0_over 26 = .ok (.getfield 10, 3) := by decide +kernel
theorem dX0_over_29 : decode cX0_over 29 = .ok (.getfield 31, 3) := by decide +kernel
theorem dX0_over_32 : decode cX0_over 32 = .ok (.aload_n 0, 1) := by decide +kernel
theorem dX0_over_33 : decode cX0_over 33 = .ok (.getfield 16, 3) := by decide +kernel
theorem dX0_over_36 : decode cX0_over 36 = .ok (.getfield 31, 3) := by decide +kernel
theorem dX0_over_39 : decode cX0_over 39 = .ok (.lor, 1) := by decide +kernel
theorem dX0_over_40 : decode cX0_over 40 = .ok (.ldc2_w 23, 3) := by decide +kernel
theorem dX0_over_43 : decode cX0_over 43 = .ok (.lxor, 1) := by decide +kernel
theorem dX0_over_44 : decode cX0_over 44 = .ok (.land, 1) := by decide +kernel
theorem dX0_over_45 : decode cX0_over 45 = .ok (.invokestatic 25, 3) := by decide +kernel
theorem dX0_over_48 : decode cX0_over 48 = .ok (.iadd, 1) := by decide +kernel
theorem dX0_over_49 : decode cX0_over 49 = .ok (.ireturn, 1) := by decide +kernel
theorem dX0_offOf_0 : decode cX0_offOf 0 = .ok (.aload_n 0, 1) := by decide +kernel
theorem dX0_offOf_1 : decode cX0_offOf 1 = .ok (.lload_n 1, 1) := by decide +kernel
theorem dX0_offOf_2 : decode cX0_offOf 2 = .ok (.lload_n 3, 1) := by decide +kernel
theorem dX0_offOf_3 : decode cX0_offOf 3 = .ok (.invokevirtual 34, 3) := by decide +kernel
theorem dX0_offOf_6 : decode cX0_offOf 6 = .ok (.aload_n 0, 1) := by decide +kernel
theorem dX0_offOf_7 : decode cX0_offOf 7 = .ok (.lload_n 1, 1) := by decide +kernel
theorem dX0_offOf_8 : decode cX0_offOf 8 = .ok (.lload_n 3, 1) := by decide +kernel
theorem dX0_offOf_9 : decode cX0_offOf 9 = .ok (.invokevirtual 38, 3) := by decide +kernel
theorem dX0_offOf_12 : decode cX0_offOf 12 = .ok (.iadd, 1) := by decide +kernel
theorem dX0_offOf_13 : decode cX0_offOf 13 = .ok (.ireturn, 1) := by decide +kernel
theorem dX1_init_0 : decode cX1_init 0 = .ok (.aload_n 0, 1) := by decide +kernel
theorem dX1_init_1 : decode cX1_init 1 = .ok (.invokespecial 3, 3) := by decide +kernel
theorem dX1_init_4 : decode cX1_init 4 = .ok (.return_, 1) := by decide +kernel
theorem dX1_clear_0 : decode cX1_clear 0 = .ok (.aload_n 0, 1) := by decide +kernel
theorem dX1_clear_1 : decode cX1_clear 1 = .ok (.lconst 0, 1) := by decide +kernel
theorem dX1_clear_2 : decode cX1_clear 2 = .ok (.putfield 9, 3) := by decide +kernel
theorem dX1_clear_5 : decode cX1_clear 5 = .ok (.aload_n 0, 1) := by decide +kernel
theorem dX1_clear_6 : decode cX1_clear 6 = .ok (.lconst 0, 1) := by decide +kernel
theorem dX1_clear_7 : decode cX1_clear 7 = .ok (.putfield 15, 3) := by decide +kernel
theorem dX1_clear_10 : decode cX1_clear 10 = .ok (.return_, 1) := by decide +kernel
theorem dX1_become_0 : decode cX1_become 0 = .ok (.aload_n 0, 1) := by decide +kernel
theorem dX1_become_1 : decode cX1_become 1 = .ok (.aload_n 1, 1) := by decide +kernel
theorem dX1_become_2 : decode cX1_become 2 = .ok (.getfield 9, 3) := by decide +kernel
theorem dX1_become_5 : decode cX1_become 5 = .ok (.putfield 9, 3) := by decide +kernel
theorem dX1_become_8 : decode cX1_become 8 = .ok (.aload_n 0, 1) := by decide +kernel
theorem dX1_become_9 : decode cX1_become 9 = .ok (.aload_n 1, 1) := by decide +kernel
theorem dX1_become_10 : decode cX1_become 10 = .ok (.getfield 15, 3) := by decide +kernel
theorem dX1_become_13 : decode cX1_become 13 = .ok (.putfield 15, 3) := by decide +kernel
theorem dX1_become_16 : decode cX1_become 16 = .ok (.return_, 1) := by decide +kernel
theorem dX1_join_0 : decode cX1_join 0 = .ok (.aload_n 0, 1) := by decide +kernel
theorem dX1_join_1 : decode cX1_join 1 = .ok (.dup, 1) := by decide +kernel
theorem dX1_join_2 : decode cX1_join 2 = .ok (.getfield 9, 3) := by decide +kernel
theorem dX1_join_5 : decode cX1_join 5 = .ok (.lload_n 1, 1) := by decide +kernel
theorem dX1_join_6 : decode cX1_join 6 = .ok (.lor, 1) := by decide +kernel
theorem dX1_join_7 : decode cX1_join 7 = .ok (.putfield 9, 3) := by decide +kernel
theorem dX1_join_10 : decode cX1_join 10 = .ok (.aload_n 0, 1) := by decide +kernel
theorem dX1_join_11 : decode cX1_join 11 = .ok (.dup, 1) := by decide +kernel
theorem dX1_join_12 : decode cX1_join 12 = .ok (.getfield 15, 3) := by decide +kernel
theorem dX1_join_15 : decode cX1_join 15 = .ok (.lload_n 3, 1) := by decide +kernel
theorem dX1_join_16 : decode cX1_join 16 = .ok (.lor, 1) := by decide +kernel
theorem dX1_join_17 : decode cX1_join 17 = .ok (.putfield 15, 3) := by decide +kernel
theorem dX1_join_20 : decode cX1_join 20 = .ok (.return_, 1) := by decide +kernel
theorem dX1_leave_0 : decode cX1_leave 0 = .ok (.aload_n 0, 1) := by decide +kernel
theorem dX1_leave_1 : decode cX1_leave 1 = .ok (.aload_n 0, 1) := by decide +kernel
theorem dX1_leave_2 : decode cX1_leave 2 = .ok (.getfield 9, 3) := by decide +kernel
theorem dX1_leave_5 : decode cX1_leave 5 = .ok (.aload_n 1, 1) := by decide +kernel
theorem dX1_leave_6 : decode cX1_leave 6 = .ok (.getfield 9, 3) := by decide +kernel
theorem dX1_leave_9 : decode cX1_leave 9 = .ok (.ldc2_w 18, 3) := by decide +kernel
theorem dX1_leave_12 : decode cX1_leave 12 = .ok (.lxor, 1) := by decide +kernel
theorem dX1_leave_13 : decode cX1_leave 13 = .ok (.land, 1) := by decide +kernel
theorem dX1_leave_14 : decode cX1_leave 14 = .ok (.putfield 9, 3) := by decide +kernel
theorem dX1_leave_17 : decode cX1_leave 17 = .ok (.aload_n 0, 1) := by decide +kernel
theorem dX1_leave_18 : decode cX1_leave 18 = .ok (.aload_n 0, 1) := by decide +kernel
theorem dX1_leave_19 : decode cX1_leave 19 = .ok (.getfield 15, 3) := by decide +kernel
theorem dX1_leave_22 : decode cX1_leave 22 = .ok (.aload_n 1, 1) := by decide +kernel
theorem dX1_leave_23 : decode cX1_leave 23 = .ok (.getfield 15, 3) := by decide +kernel
theorem dX1_leave_26 : decode cX1_leave 26 = .ok (.ldc2_w 18, 3) := by decide +kernel
theorem dX1_leave_29 : decode cX1_leave 29 = .ok (.lxor, 1) := by decide +kernel
theorem dX1_leave_30 : decode cX1_leave 30 = .ok (.land, 1) := by decide +kernel
theorem dX1_leave_31 : decode cX1_leave 31 = .ok (.putfield 15, 3) := by decide +kernel
theorem dX1_leave_34 : decode cX1_leave 34 = .ok (.return_, 1) := by decide +kernel
theorem dX1_has_0 : decode cX1_has 0 = .ok (.aload_n 1, 1) := by decide +kernel
theorem dX1_has_1 : decode cX1_has 1 = .ok (.getfield 9, 3) := by decide +kernel
theorem dX1_has_4 : decode cX1_has 4 = .ok (.aload_n 0, 1) := by decide +kernel
theorem dX1_has_5 : decode cX1_has 5 = .ok (.getfield 9, 3) := by decide +kernel
theorem dX1_has_8 : decode cX1_has 8 = .ok (.ldc2_w 18, 3) := by decide +kernel
theorem dX1_has_11 : decode cX1_has 11 = .ok (.lxor, 1) := by decide +kernel
theorem dX1_has_12 : decode cX1_has 12 = .ok (.land, 1) := by decide +kernel
theorem dX1_has_13 : decode cX1_has 13 = .ok (.lconst 0, 1) := by decide +kernel
theorem dX1_has_14 : decode cX1_has 14 = .ok (.lcmp, 1) := by decide +kernel
theorem dX1_has_15 : decode cX1_has 15 = .ok (.ifCond .ne 25, 3) := by decide +kernel
theorem dX1_has_18 : decode cX1_has 18 = .ok (.aload_n 1, 1) := by decide +kernel
theorem dX1_has_19 : decode cX1_has 19 = .ok (.getfield 15, 3) := by decide +kernel
theorem dX1_has_22 : decode cX1_has 22 = .ok (.aload_n 0, 1) := by decide +kernel
theorem dX1_has_23 : decode cX1_has 23 = .ok (.getfield 15, 3) := by decide +kernel
theorem dX1_has_26 : decode cX1_has 26 = .ok (.ldc2_w 18, 3) := by decide +kernel
theorem dX1_has_29 : decode cX1_has 29 = .ok (.lxor, 1) := by decide +kernel
theorem dX1_has_30 : decode cX1_has 30 = .ok (.land, 1) := by decide +kernel
theorem dX1_has_31 : decode cX1_has 31 = .ok (.lconst 0, 1) := by decide +kernel
theorem dX1_has_32 : decode cX1_has 32 = .ok (.lcmp, 1) := by decide +kernel
theorem dX1_has_33 : decode cX1_has 33 = .ok (.ifCond .ne 7, 3) := by decide +kernel
theorem dX1_has_36 : decode cX1_has 36 = .ok (.iconst 1, 1) := by decide +kernel
theorem dX1_has_37 : decode cX1_has 37 = .ok (.goto 4, 3) := by decide +kernel
theorem dX1_has_40 : decode cX1_has 40 = .ok (.iconst 0, 1) := by decide +kernel
theorem dX1_has_41 : decode cX1_has 41 = .ok (.ireturn, 1) := by decide +kernel
theorem dX1_is_0 : decode cX1_is 0 = .ok (.aload_n 0, 1) := by decide +kernel
theorem dX1_is_1 : decode cX1_is 1 = .ok (.getfield 9, 3) := by decide +kernel
theorem dX1_is_4 : decode cX1_is 4 = .ok (.lload_n 1, 1) := by decide +kernel
theorem dX1_is_5 : decode cX1_is 5 = .ok (.lcmp, 1) := by decide +kernel
theorem dX1_is_6 : decode cX1_is 6 = .ok (.ifCond .ne 16, 3) := by decide +kernel
theorem dX1_is_9 : decode cX1_is 9 = .ok (.aload_n 0, 1) := by decide +kernel
theorem dX1_is_10 : decode cX1_is 10 = .ok (.getfield 15, 3) := by decide +kernel
theorem dX1_is_13 : decode cX1_is 13 = .ok (.lload_n 3, 1) := by decide +kernel
theorem dX1_is_14 : decode cX1_is 14 = .ok (.lcmp, 1) := by decide +kernel
theorem dX1_is_15 : decode cX1_is 15 = .ok (.ifCond .ne 7, 3) := by decide +kernel
theorem dX1_is_18 : decode cX1_is 18 = .ok (.iconst 1, 1) := by decide +kernel
theorem dX1_is_19 : decode cX1_is 19 = .ok (.goto 4, 3) := by decide +kernel
theorem dX1_is_22 : decode cX1_is 22 = .ok (.iconst 0, 1) := by decide +kernel
theorem dX1_is_23 : decode cX1_is 23 = .ok (.ireturn, 1) := by decide +kernel
theorem dX1_number_0 : decode cX1_number 0 = .ok (.aload_n 0, 1) := by decide +kernel
theorem dX1_number_1 : decode cX1_number 1 = .ok (.getfield 9, 3) := by decide +kernel
theorem dX1_number_4 : decode cX1_number 4 = .ok (.invokestatic 20, 3) := by decide +kernel
theorem dX1_number_7 : decode cX1_number 7 = .ok (.aload_n 0, 1) := by decide +kernel
theorem dX1_number_8 : decode cX1_number 8 = .ok (.getfield 15, 3) := by decide +kernel
theorem dX1_number_11 : decode cX1_number 11 = .ok (.invokestatic 20, 3) := by decide +kernel
theorem dX1_number_14 : decode cX1_number 14 = .ok (.iadd, 1) := by decide +kernel
theorem dX1_number_15 : decode cX1_number 15 = .ok (.ireturn, 1) := by decide +kernel
theorem dX1_isCell_0 : decode cX1_isCell 0 = .ok (.iload_n 0, 1) := by decide +kernel
theorem dX1_isCell_1 : decode cX1_isCell 1 = .ok (.ifCond .lt 23, 3) := by decide +kernel
theorem dX1_isCell_4 : decode cX1_isCell 4 = .ok (.iload_n 0, 1) := by decide +kernel
theorem dX1_isCell_5 : decode cX1_isCell 5 = .ok (.bipush 12, 2) := by decide +kernel
theorem dX1_isCell_7 : decode cX1_isCell 7 = .ok (.if_icmp .ge 17, 3) := by decide +kernel
theorem dX1_isCell_10 : decode cX1_isCell 10 = .ok (.iload_n 1, 1) := by decide +kernel
theorem dX1_isCell_11 : decode cX1_isCell 11 = .ok (.ifCond .lt 13, 3) := by decide +kernel
theorem dX1_isCell_14 : decode cX1_isCell 14 = .ok (.iload_n 1, 1) := by decide +kernel
theorem dX1_isCell_15 : decode cX1_isCell 15 = .ok (.bipush 10, 2) := by decide +kernel
theorem dX1_isCell_17 : decode cX1_isCell 17 = .ok (.if_icmp .ge 7, 3) := by decide +kernel
theorem dX1_isCell_20 : decode cX1_isCell 20 = .ok (.iconst 1, 1) := by decide +kernel
theorem dX1_isCell_21 : decode cX1_isCell 21 = .ok (.goto 4, 3) := by decide +kernel
theorem dX1_isCell_24 : decode cX1_isCell 24 = .ok (.iconst 0, 1) := by decide +kernel
theorem dX1_isCell_25 : decode cX1_isCell 25 = .ok (.ireturn, 1) := by decide +kernel
theorem dX1_addNew_0 : decode cX1_addNew 0 = .ok (.iload_n 1, 1) := by decide +kernel
theorem dX1_addNew_1 : decode cX1_addNew 1 = .ok (.iload_n 2, 1) := by decide +kernel
theorem dX1_addNew_2 : decode cX1_addNew 2 = .ok (.invokestatic 26, 3) := by decide +kernel
theorem dX1_addNew_5 : decode cX1_addNew 5 = .ok (.ifCond .ne 5, 3) := by decide +kernel
theorem dX1_addNew_8 : decode cX1_addNew 8 = .ok (.iconst 0, 1) := by decide +kernel
theorem dX1_addNew_9 : decode cX1_addNew 9 = .ok (.ireturn, 1) := by decide +kernel
theorem dX1_addNew_10 : decode cX1_addNew 10 = .ok (.aload_n 0, 1) := by decide +kernel
theorem dX1_addNew_11 : decode cX1_addNew 11 = .ok (.getfield 9, 3) := by decide +kernel
theorem dX1_addNew_14 : decode cX1_addNew 14 = .ok (.lstore_n 3, 1) := by decide +kernel
theorem dX1_addNew_15 : decode cX1_addNew 15 = .ok (.aload_n 0, 1) := by decide +kernel
theorem dX1_addNew_16 : decode cX1_addNew 16 = .ok (.getfield 15, 3) := by decide +kernel
theorem dX1_addNew_19 : decode cX1_addNew 19 = .ok (.lstore 5, 2) := by decide +kernel
theorem dX1_addNew_21 : decode cX1_addNew 21 = .ok (.aload_n 0, 1) := by decide +kernel
theorem dX1_addNew_22 : decode cX1_addNew 22 = .ok (.iload_n 2, 1) := by decide +kernel
theorem dX1_addNew_23 : decode cX1_addNew 23 = .ok (.iconst 1, 1) := by decide +kernel
theorem dX1_addNew_24 : decode cX1_addNew 24 = .ok (.iload_n 1, 1) := by decide +kernel
theorem dX1_addNew_25 : decode cX1_addNew 25 = .ok (.ishl, 1) := by decide +kernel
theorem dX1_addNew_26 : decode cX1_addNew 26 = .ok (.invokevirtual 30, 3) := by decide +kernel
theorem dX1_addNew_29 : decode cX1_addNew 29 = .ok (.aload_n 0, 1) := by decide +kernel
theorem dX1_addNew_30 : decode cX1_addNew 30 = .ok (.getfield 9, 3) := by decide +kernel
theorem dX1_addNew_33 : decode cX1_addNew 33 = .ok (.lload_n 3, 1) := by decide +kernel
theorem dX1_addNew_34 : decode cX1_addNew 34 = .ok (.lcmp, 1) := by decide +kernel
theorem dX1_addNew_35 : decode cX1_addNew 35 = .ok (.ifCond .ne 13, 3) := by decide +kernel
theorem dX1_addNew_38 : decode cX1_addNew 38 = .ok (.aload_n 0, 1) := by decide +kernel
theorem dX1_addNew_39 : decode cX1_addNew 39 = .ok (.getfield 15, 3) := by decide +kernel
theorem dX1_addNew_42 : decode cX1_addNew 42 = .ok (.lload 5, 2) := by decide +kernel
theorem dX1_addNew_44 : decode cX1_addNew 44 = .ok (.lcmp, 1) := by decide +kernel
theorem dX1_addNew_45 : decode cX1_addNew 45 = .ok (.ifCond .eq 7, 3) := by decide +kernel
theorem dX1_addNew_48 : decode cX1_addNew 48 = .ok (.iconst 1, 1) := by decide +kernel
theorem dX1_addNew_49 : decode cX1_addNew 49 = .ok (.goto 4, 3) := by decide +kernel
theorem dX1_addNew_52 : decode cX1_addNew 52 = .ok (.iconst 0, 1) := by decide +kernel
theorem dX1_addNew_53 : decode cX1_addNew 53 = .ok (.ireturn, 1) := by decide +kernel
theorem dX1_line_0 : decode cX1_line 0 = .ok (.iload_n 1, 1) := by decide +kernel
theorem dX1_line_1 : decode cX1_line 1 = .ok (.ifCond .lt 9, 3) := by decide +kernel
theorem dX1_line_4 : decode cX1_line 4 = .ok (.iload_n 1, 1) := by decide +kernel
theorem dX1_line_5 : decode cX1_line 5 = .ok (.bipush 10, 2) := by decide +kernel
theorem dX1_line_7 : decode cX1_line 7 = .ok (.if_icmp .lt 5, 3) := by decide +kernel
theorem dX1_line_10 : decode cX1_line 10 = .ok (.iconst 0, 1) := by decide +kernel
theorem dX1_line_11 : decode cX1_line 11 = .ok (.ireturn, 1) := by decide +kernel
theorem dX1_line_12 : decode cX1_line 12 = .ok (.iload_n 1, 1) := by decide +kernel
theorem dX1_line_13 : decode cX1_line 13 = .ok (.iconst 5, 1) := by decide +kernel
theorem dX1_line_14 : decode cX1_line 14 = .ok (.if_icmp .ge 15, 3) := by decide +kernel
theorem dX1_line_17 : decode cX1_line 17 = .ok (.aload_n 0, 1) := by decide +kernel
theorem dX1_line_18 : decode cX1_line 18 = .ok (.getfield 9, 3) := by decide +kernel
theorem dX1_line_21 : decode cX1_line 21 = .ok (.bipush 12, 2) := by decide +kernel
theorem dX1_line_23 : decode cX1_line 23 = .ok (.iload_n 1, 1) := by decide +kernel
theorem dX1_line_24 : decode cX1_line 24 = .ok (.imul, 1) := by decide +kernel
theorem dX1_line_25 : decode cX1_line 25 = .ok (.lushr, 1) := by decide +kernel
theorem dX1_line_26 : decode cX1_line 26 = .ok (.goto 14, 3) := by decide +kernel
theorem dX1_line_29 : decode cX1_line 29 = .ok (.aload_n 0, 1) := by decide +kernel
theorem dX1_line_30 : decode cX1_line 30 = .ok (.getfield 15, 3) := by decide +kernel
theorem dX1_line_33 : decode cX1_line 33 = .ok (.bipush 12, 2) := by decide +kernel
theorem dX1_line_35 : decode cX1_line 35 = .ok (.iload_n 1, 1) := by decide +kernel
theorem dX1_line_36 : decode cX1_line 36 = .ok (.iconst 5, 1) := by decide +kernel
theorem dX1_line_37 : decode cX1_line 37 = .ok (.isub, 1) := by decide +kernel
theorem dX1_line_38 : decode cX1_line 38 = .ok (.imul, 1) := by decide +kernel
theorem dX1_line_39 : decode cX1_line 39 = .ok (.lushr, 1) := by decide +kernel
theorem dX1_line_40 : decode cX1_line 40 = .ok (.lstore_n 2, 1) := by decide +kernel
theorem dX1_line_41 : decode cX1_line 41 = .ok (.lload_n 2, 1) := by decide +kernel
theorem dX1_line_42 : decode cX1_line 42 = .ok (.l2i, 1) := by decide +kernel
theorem dX1_line_43 : decode cX1_line 43 = .ok (.sipush 4095, 3) := by decide +kernel
theorem dX1_line_46 : decode cX1_line 46 = .ok (.iand, 1) := by decide +kernel
theorem dX1_line_47 : decode cX1_line 47 = .ok (.ireturn, 1) := by decide +kernel
theorem dX1_addLine_0 : decode cX1_addLine 0 = .ok (.iload_n 1, 1) := by decide +kernel
theorem dX1_addLine_1 : decode cX1_addLine 1 = .ok (.ifCond .lt 9, 3) := by decide +kernel
theorem dX1_addLine_4 : decode cX1_addLine 4 = .ok (.iload_n 1, 1) := by decide +kernel
theorem dX1_addLine_5 : decode cX1_addLine 5 = .ok (.bipush 10, 2) := by decide +kernel
theorem dX1_addLine_7 : decode cX1_addLine 7 = .ok (.if_icmp .lt 4, 3) := by decide +kernel
theorem dX1_addLine_10 : decode cX1_addLine 10 = .ok (.return_, 1) := by decide +kernel
theorem dX1_addLine_11 : decode cX1_addLine 11 = .ok (.iload_n 1, 1) := by decide +kernel
theorem dX1_addLine_12 : decode cX1_addLine 12 = .ok (.iconst 5, 1) := by decide +kernel
theorem dX1_addLine_13 : decode cX1_addLine 13 = .ok (.if_icmp .ge 26, 3) := by decide +kernel
theorem dX1_addLine_16 : decode cX1_addLine 16 = .ok (.aload_n 0, 1) := by decide +kernel
theorem dX1_addLine_17 : decode cX1_addLine 17 = .ok (.dup, 1) := by decide +kernel
theorem dX1_addLine_18 : decode cX1_addLine 18 = .ok (.getfield 9, 3) := by decide +kernel
theorem dX1_addLine_21 : decode cX1_addLine 21 = .ok (.iload_n 2, 1) := by decide +kernel
theorem dX1_addLine_22 : decode cX1_addLine 22 = .ok (.sipush 4095, 3) := by decide +kernel
theorem dX1_addLine_25 : decode cX1_addLine 25 = .ok (.iand, 1) := by decide +kernel
theorem dX1_addLine_26 : decode cX1_addLine 26 = .ok (.i2l, 1) := by decide +kernel
theorem dX1_addLine_27 : decode cX1_addLine 27 = .ok (.bipush 12, 2) := by decide +kernel
theorem dX1_addLine_29 : decode cX1_addLine 29 = .ok (.iload_n 1, 1) := by decide +kernel
theorem dX1_addLine_30 : decode cX1_addLine 30 = .ok (.imul, 1) := by decide +kernel
theorem dX1_addLine_31 : decode cX1_addLine 31 = .ok (.lshl, 1) := by decide +kernel
theorem dX1_addLine_32 : decode cX1_addLine 32 = .ok (.lor, 1) := by decide +kernel
theorem dX1_addLine_33 : decode cX1_addLine 33 = .ok (.putfield 9, 3) := by decide +kernel
theorem dX1_addLine_36 : decode cX1_addLine 36 = .ok (.goto 25, 3) := by decide +kernel
theorem dX1_addLine_39 : decode cX1_addLine 39 = .ok (.aload_n 0, 1) := by decide +kernel
theorem dX1_addLine_40 : decode cX1_addLine 40 = .ok (.dup, 1) := by decide +kernel
theorem dX1_addLine_41 : decode cX1_addLine 41 = .ok (.getfield 15, 3) := by decide +kernel
theorem dX1_addLine_44 : decode cX1_addLine 44 = .ok (.iload_n 2, 1) := by decide +kernel
theorem dX1_addLine_45 : decode cX1_addLine 45 = .ok (.sipush 4095, 3) := by decide +kernel
theorem dX1_addLine_48 : decode cX1_addLine 48 = .ok (.iand, 1) := by decide +kernel
theorem dX1_addLine_49 : decode cX1_addLine 49 = .ok (.i2l, 1) := by decide +kernel
theorem dX1_addLine_50 : decode cX1_addLine 50 = .ok (.bipush 12, 2) := by decide +kernel
theorem dX1_addLine_52 : decode cX1_addLine 52 = .ok (.iload_n 1, 1) := by decide +kernel
theorem dX1_addLine_53 : decode cX1_addLine 53 = .ok (.iconst 5, 1) := by decide +kernel
theorem dX1_addLine_54 : decode cX1_addLine 54 = .ok (.isub, 1) := by decide +kernel
theorem dX1_addLine_55 : decode cX1_addLine 55 = .ok (.imul, 1) := by decide +kernel
theorem dX1_addLine_56 : decode cX1_addLine 56 = .ok (.lshl, 1) := by decide +kernel
theorem dX1_addLine_57 : decode cX1_addLine 57 = .ok (.lor, 1) := by decide +kernel
theorem dX1_addLine_58 : decode cX1_addLine 58 = .ok (.putfield 15, 3) := by decide +kernel
theorem dX1_addLine_61 : decode cX1_addLine 61 = .ok (.return_, 1) := by decide +kernel
theorem dX2_init_0 : decode cX2_init 0 = .ok (.aload_n 0, 1) := by decide +kernel
theorem dX2_init_1 : decode cX2_init 1 = .ok (.invokespecial 3, 3) := by decide +kernel
theorem dX2_init_4 : decode cX2_init 4 = .ok (.aload_n 0, 1) := by decide +kernel
theorem dX2_init_5 : decode cX2_init 5 = .ok (.iconst 2, 1) := by decide +kernel
theorem dX2_init_6 : decode cX2_init 6 = .ok (.newarray .int, 2) := by decide +kernel
theorem dX2_init_8 : decode cX2_init 8 = .ok (.putfield 9, 3) := by decide +kernel
theorem dX2_init_11 : decode cX2_init 11 = .ok (.aload_n 0, 1) := by decide +kernel
theorem dX2_init_12 : decode cX2_init 12 = .ok (.bipush 6, 2) := by decide +kernel
theorem dX2_init_14 : decode cX2_init 14 = .ok (.newarray .int, 2) := by decide +kernel
theorem dX2_init_16 : decode cX2_init 16 = .ok (.putfield 15, 3) := by decide +kernel
theorem dX2_init_19 : decode cX2_init 19 = .ok (.aload_n 0, 1) := by decide +kernel
theorem dX2_init_20 : decode cX2_init 20 = .ok (.bipush 6, 2) := by decide +kernel
theorem dX2_init_22 : decode cX2_init 22 = .ok (.newarray .int, 2) := by decide +kernel
theorem dX2_init_24 : decode cX2_init 24 = .ok (.putfield 18, 3) := by decide +kernel
theorem dX2_init_27 : decode cX2_init 27 = .ok (.aload_n 0, 1) := by decide +kernel
theorem dX2_init_28 : decode cX2_init 28 = .ok (.bipush 6, 2) := by decide +kernel
theorem dX2_init_30 : decode cX2_init 30 = .ok (.newarray .int, 2) := by decide +kernel
theorem dX2_init_32 : decode cX2_init 32 = .ok (.putfield 21, 3) := by decide +kernel
theorem dX2_init_35 : decode cX2_init 35 = .ok (.aload_n 0, 1) := by decide +kernel
theorem dX2_init_36 : decode cX2_init 36 = .ok (.bipush 6, 2) := by decide +kernel
theorem dX2_init_38 : decode cX2_init 38 = .ok (.newarray .int, 2) := by decide +kernel
theorem dX2_init_40 : decode cX2_init 40 = .ok (.putfield 24, 3) := by decide +kernel
theorem dX2_init_43 : decode cX2_init 43 = .ok (.aload_n 0, 1) := by decide +kernel
theorem dX2_init_44 : decode cX2_init 44 = .ok (.bipush 6, 2) := by decide +kernel
theorem dX2_init_46 : decode cX2_init 46 = .ok (.newarray .int, 2) := by decide +kernel
theorem dX2_init_48 : decode cX2_init 48 = .ok (.putfield 27, 3) := by decide +kernel
theorem dX2_init_51 : decode cX2_init 51 = .ok (.aload_n 0, 1) := by decide +kernel
theorem dX2_init_52 : decode cX2_init 52 = .ok (.bipush 6, 2) := by decide +kernel
theorem dX2_init_54 : decode cX2_init 54 = .ok (.newarray .int, 2) := by decide +kernel
theorem dX2_init_56 : decode cX2_init 56 = .ok (.putfield 30, 3) := by decide +kernel
theorem dX2_init_59 : decode cX2_init 59 = .ok (.aload_n 0, 1) := by decide +kernel
theorem dX2_init_60 : decode cX2_init 60 = .ok (.bipush 6, 2) := by decide +kernel
theorem dX2_init_62 : decode cX2_init 62 = .ok (.newarray .int, 2) := by decide +kernel
theorem dX2_init_64 : decode cX2_init 64 = .ok (.putfield 33, 3) := by decide +kernel
theorem dX2_init_67 : decode cX2_init 67 = .ok (.return_, 1) := by decide +kernel
theorem dX2_clear_0 : decode cX2_clear 0 = .ok (.aload_n 0, 1) := by decide +kernel
theorem dX2_clear_1 : decode cX2_clear 1 = .ok (.iconst 0, 1) := by decide +kernel
theorem dX2_clear_2 : decode cX2_clear 2 = .ok (.putfield 36, 3) := by decide +kernel
theorem dX2_clear_5 : decode cX2_clear 5 = .ok (.aload_n 0, 1) := by decide +kernel
theorem dX2_clear_6 : decode cX2_clear 6 = .ok (.iconst 0, 1) := by decide +kernel
theorem dX2_clear_7 : decode cX2_clear 7 = .ok (.putfield 40, 3) := by decide +kernel
theorem dX2_clear_10 : decode cX2_clear 10 = .ok (.aload_n 0, 1) := by decide +kernel
theorem dX2_clear_11 : decode cX2_clear 11 = .ok (.iconst 0, 1) := by decide +kernel
theorem dX2_clear_12 : decode cX2_clear 12 = .ok (.putfield 43, 3) := by decide +kernel
theorem dX2_clear_15 : decode cX2_clear 15 = .ok (.return_, 1) := by decide +kernel
theorem dX2_addHand_0 : decode cX2_addHand 0 = .ok (.aload_n 0, 1) := by decide +kernel
theorem dX2_addHand_1 : decode cX2_addHand 1 = .ok (.getfield 36, 3) := by decide +kernel
theorem dX2_addHand_4 : decode cX2_addHand 4 = .ok (.iconst 2, 1) := by decide +kernel
theorem dX2_addHand_5 : decode cX2_addHand 5 = .ok (.if_icmp .ge 13, 3) := by decide +kernel
theorem dX2_addHand_8 : decode cX2_addHand 8 = .ok (.iload_n 1, 1) := by decide +kernel
theorem dX2_addHand_9 : decode cX2_addHand 9 = .ok (.ifCond .lt 9, 3) := by decide +kernel
theorem dX2_addHand_12 : decode cX2_addHand 12 = .ok (.iload_n 1, 1) := by decide +kernel
theorem dX2_addHand_13 : decode cX2_addHand 13 = .ok (.bipush 120, 2) := by decide +kernel
theorem dX2_addHand_15 : decode cX2_addHand 15 = .ok (.if_icmp .lt 5, 3) := by decide +kernel
theorem dX2_addHand_18 : decode cX2_addHand 18 = .ok (.iconst 0, 1) := by decide +kernel
theorem dX2_addHand_19 : decode cX2_addHand 19 = .ok (.ireturn, 1) := by decide +kernel
theorem dX2_addHand_20 : decode cX2_addHand 20 = .ok (.aload_n 0, 1) := by decide +kernel
theorem dX2_addHand_21 : decode cX2_addHand 21 = .ok (.getfield 9, 3) := by decide +kernel
theorem dX2_addHand_24 : decode cX2_addHand 24 = .ok (.aload_n 0, 1) := by decide +kernel
theorem dX2_addHand_25 : decode cX2_addHand 25 = .ok (.getfield 36, 3) := by decide +kernel
theorem dX2_addHand_28 : decode cX2_addHand 28 = .ok (.iload_n 1, 1) := by decide +kernel
theorem dX2_addHand_29 : decode cX2_addHand 29 = .ok (.iastore, 1) := by decide +kernel
theorem dX2_addHand_30 : decode cX2_addHand 30 = .ok (.aload_n 0, 1) := by decide +kernel
theorem dX2_addHand_31 : decode cX2_addHand 31 = .ok (.dup, 1) := by decide +kernel
theorem dX2_addHand_32 : decode cX2_addHand 32 = .ok (.getfield 36, 3) := by decide +kernel
theorem dX2_addHand_35 : decode cX2_addHand 35 = .ok (.iconst 1, 1) := by decide +kernel
theorem dX2_addHand_36 : decode cX2_addHand 36 = .ok (.iadd, 1) := by decide +kernel
theorem dX2_addHand_37 : decode cX2_addHand 37 = .ok (.putfield 36, 3) := by decide +kernel
theorem dX2_addHand_40 : decode cX2_addHand 40 = .ok (.iconst 1, 1) := by decide +kernel
theorem dX2_addHand_41 : decode cX2_addHand 41 = .ok (.ireturn, 1) := by decide +kernel
theorem dX2_addFinger_0 : decode cX2_addFinger 0 = .ok (.aload_n 0, 1) := by decide +kernel
theorem dX2_addFinger_1 : decode cX2_addFinger 1 = .ok (.getfield 36, 3) := by decide +kernel
theorem dX2_addFinger_4 : decode cX2_addFinger 4 = .ok (.iconst 1, 1) := by decide +kernel
theorem dX2_addFinger_5 : decode cX2_addFinger 5 = .ok (.if_icmp .lt 12, 3) := by decide +kernel
theorem dX2_addFinger_8 : decode cX2_addFinger 8 = .ok (.aload_n 0, 1) := by decide +kernel
theorem dX2_addFinger_9 : decode cX2_addFinger 9 = .ok (.getfield 40, 3) := by decide +kernel
theorem dX2_addFinger_12 : decode cX2_addFinger 12 = .ok (.bipush 6, 2) := by decide +kernel
theorem dX2_addFinger_14 : decode cX2_addFinger 14 = .ok (.if_icmp .lt 5, 3) := by decide +kernel
theorem dX2_addFinger_17 : decode cX2_addFinger 17 = .ok (.iconst 0, 1) := by decide +kernel
theorem dX2_addFinger_18 : decode cX2_addFinger 18 = .ok (.ireturn, 1) := by decide +kernel
theorem dX2_addFinger_19 : decode cX2_addFinger 19 = .ok (.aload_n 0, 1) := by decide +kernel
theorem dX2_addFinger_20 : decode cX2_addFinger 20 = .ok (.getfield 15, 3) := by decide +kernel
theorem dX2_addFinger_23 : decode cX2_addFinger 23 = .ok (.aload_n 0, 1) := by decide +kernel
theorem dX2_addFinger_24 : decode cX2_addFinger 24 = .ok (.getfield 40, 3) := by decide +kernel
theorem dX2_addFinger_27 : decode cX2_addFinger 27 = .ok (.aload_n 0, 1) := by decide +kernel
theorem dX2_addFinger_28 : decode cX2_addFinger 28 = .ok (.getfield 36, 3) := by decide +kernel
theorem dX2_addFinger_31 : decode cX2_addFinger 31 = .ok (.iconst 1, 1) := by decide +kernel
theorem dX2_addFinger_32 : decode cX2_addFinger 32 = .ok (.isub, 1) := by decide +kernel
theorem dX2_addFinger_33 : decode cX2_addFinger 33 = .ok (.iastore, 1) := by decide +kernel
theorem dX2_addFinger_34 : decode cX2_addFinger 34 = .ok (.aload_n 0, 1) := by decide +kernel
theorem dX2_addFinger_35 : decode cX2_addFinger 35 = .ok (.getfield 18, 3) := by decide +kernel
theorem dX2_addFinger_38 : decode cX2_addFinger 38 = .ok (.aload_n 0, 1) := by decide +kernel
theorem dX2_addFinger_39 : decode cX2_addFinger 39 = .ok (.getfield 40, 3) := by decide +kernel
theorem dX2_addFinger_42 : decode cX2_addFinger 42 = .ok (.iload_n 1, 1) := by decide +kernel
theorem dX2_addFinger_43 : decode cX2_addFinger 43 = .ok (.iastore, 1) := by decide +kernel
theorem dX2_addFinger_44 : decode cX2_addFinger 44 = .ok (.aload_n 0, 1) := by decide +kernel
theorem dX2_addFinger_45 : decode cX2_addFinger 45 = .ok (.getfield 21, 3) := by decide +kernel
theorem dX2_addFinger_48 : decode cX2_addFinger 48 = .ok (.aload_n 0, 1) := by decide +kernel
theorem dX2_addFinger_49 : decode cX2_addFinger 49 = .ok (.getfield 40, 3) := by decide +kernel
theorem dX2_addFinger_52 : decode cX2_addFinger 52 = .ok (.aload_n 0, 1) := by decide +kernel
theorem dX2_addFinger_53 : decode cX2_addFinger 53 = .ok (.getfield 43, 3) := by decide +kernel
theorem dX2_addFinger_56 : decode cX2_addFinger 56 = .ok (.iastore, 1) := by decide +kernel
theorem dX2_addFinger_57 : decode cX2_addFinger 57 = .ok (.aload_n 0, 1) := by decide +kernel
theorem dX2_addFinger_58 : decode cX2_addFinger 58 = .ok (.getfield 24, 3) := by decide +kernel
theorem dX2_addFinger_61 : decode cX2_addFinger 61 = .ok (.aload_n 0, 1) := by decide +kernel
theorem dX2_addFinger_62 : decode cX2_addFinger 62 = .ok (.getfield 40, 3) := by decide +kernel
theorem dX2_addFinger_65 : decode cX2_addFinger 65 = .ok (.iconst 0, 1) := by decide +kernel
theorem dX2_addFinger_66 : decode cX2_addFinger 66 = .ok (.iastore, 1) := by decide +kernel
theorem dX2_addFinger_67 : decode cX2_addFinger 67 = .ok (.aload_n 0, 1) := by decide +kernel
theorem dX2_addFinger_68 : decode cX2_addFinger 68 = .ok (.dup, 1) := by decide +kernel
theorem dX2_addFinger_69 : decode cX2_addFinger 69 = .ok (.getfield 40, 3) := by decide +kernel
theorem dX2_addFinger_72 : decode cX2_addFinger 72 = .ok (.iconst 1, 1) := by decide +kernel
theorem dX2_addFinger_73 : decode cX2_addFinger 73 = .ok (.iadd, 1) := by decide +kernel
theorem dX2_addFinger_74 : decode cX2_addFinger 74 = .ok (.putfield 40, 3) := by decide +kernel
theorem dX2_addFinger_77 : decode cX2_addFinger 77 = .ok (.iconst 1, 1) := by decide +kernel
theorem dX2_addFinger_78 : decode cX2_addFinger 78 = .ok (.ireturn, 1) := by decide +kernel
theorem dX2_addJoint_0 : decode cX2_addJoint 0 = .ok (.aload_n 0, 1) := by decide +kernel
theorem dX2_addJoint_1 : decode cX2_addJoint 1 = .ok (.getfield 40, 3) := by decide +kernel
theorem dX2_addJoint_4 : decode cX2_addJoint 4 = .ok (.iconst 1, 1) := by decide +kernel
theorem dX2_addJoint_5 : decode cX2_addJoint 5 = .ok (.if_icmp .lt 12, 3) := by decide +kernel
theorem dX2_addJoint_8 : decode cX2_addJoint 8 = .ok (.aload_n 0, 1) := by decide +kernel
theorem dX2_addJoint_9 : decode cX2_addJoint 9 = .ok (.getfield 43, 3) := by decide +kernel
theorem dX2_addJoint_12 : decode cX2_addJoint 12 = .ok (.bipush 6, 2) := by decide +kernel
theorem dX2_addJoint_14 : decode cX2_addJoint 14 = .ok (.if_icmp .lt 5, 3) := by decide +kernel
theorem dX2_addJoint_17 : decode cX2_addJoint 17 = .ok (.iconst 0, 1) := by decide +kernel
theorem dX2_addJoint_18 : decode cX2_addJoint 18 = .ok (.ireturn, 1) := by decide +kernel
theorem dX2_addJoint_19 : decode cX2_addJoint 19 = .ok (.aload_n 0, 1) := by decide +kernel
theorem dX2_addJoint_20 : decode cX2_addJoint 20 = .ok (.getfield 27, 3) := by decide +kernel
theorem dX2_addJoint_23 : decode cX2_addJoint 23 = .ok (.aload_n 0, 1) := by decide +kernel
theorem dX2_addJoint_24 : decode cX2_addJoint 24 = .ok (.getfield 43, 3) := by decide +kernel
theorem dX2_addJoint_27 : decode cX2_addJoint 27 = .ok (.aload_n 0, 1) := by decide +kernel
theorem dX2_addJoint_28 : decode cX2_addJoint 28 = .ok (.getfield 40, 3) := by decide +kernel
theorem dX2_addJoint_31 : decode cX2_addJoint 31 = .ok (.iconst 1, 1) := by decide +kernel
theorem dX2_addJoint_32 : decode cX2_addJoint 32 = .ok (.isub, 1) := by decide +kernel
theorem dX2_addJoint_33 : decode cX2_addJoint 33 = .ok (.iastore, 1) := by decide +kernel
theorem dX2_addJoint_34 : decode cX2_addJoint 34 = .ok (.aload_n 0, 1) := by decide +kernel
theorem dX2_addJoint_35 : decode cX2_addJoint 35 = .ok (.getfield 30, 3) := by decide +kernel
theorem dX2_addJoint_38 : decode cX2_addJoint 38 = .ok (.aload_n 0, 1) := by decide +kernel
theorem dX2_addJoint_39 : decode cX2_addJoint 39 = .ok (.getfield 43, 3) := by decide +kernel
theorem dX2_addJoint_42 : decode cX2_addJoint 42 = .ok (.iload_n 1, 1) := by decide +kernel
theorem dX2_addJoint_43 : decode cX2_addJoint 43 = .ok (.iastore, 1) := by decide +kernel
theorem dX2_addJoint_44 : decode cX2_addJoint 44 = .ok (.aload_n 0, 1) := by decide +kernel
theorem dX2_addJoint_45 : decode cX2_addJoint 45 = .ok (.getfield 33, 3) := by decide +kernel
theorem dX2_addJoint_48 : decode cX2_addJoint 48 = .ok (.aload_n 0, 1) := by decide +kernel
theorem dX2_addJoint_49 : decode cX2_addJoint 49 = .ok (.getfield 43, 3) := by decide +kernel
theorem dX2_addJoint_52 : decode cX2_addJoint 52 = .ok (.iload_n 2, 1) := by decide +kernel
theorem dX2_addJoint_53 : decode cX2_addJoint 53 = .ok (.iastore, 1) := by decide +kernel
theorem dX2_addJoint_54 : decode cX2_addJoint 54 = .ok (.aload_n 0, 1) := by decide +kernel
theorem dX2_addJoint_55 : decode cX2_addJoint 55 = .ok (.dup, 1) := by decide +kernel
theorem dX2_addJoint_56 : decode cX2_addJoint 56 = .ok (.getfield 43, 3) := by decide +kernel
theorem dX2_addJoint_59 : decode cX2_addJoint 59 = .ok (.iconst 1, 1) := by decide +kernel
theorem dX2_addJoint_60 : decode cX2_addJoint 60 = .ok (.iadd, 1) := by decide +kernel
theorem dX2_addJoint_61 : decode cX2_addJoint 61 = .ok (.putfield 43, 3) := by decide +kernel
theorem dX2_addJoint_64 : decode cX2_addJoint 64 = .ok (.aload_n 0, 1) := by decide +kernel
theorem dX2_addJoint_65 : decode cX2_addJoint 65 = .ok (.getfield 24, 3) := by decide +kernel
theorem dX2_addJoint_68 : decode cX2_addJoint 68 = .ok (.aload_n 0, 1) := by decide +kernel
theorem dX2_addJoint_69 : decode cX2_addJoint 69 = .ok (.getfield 40, 3) := by decide +kernel
theorem dX2_addJoint_72 : decode cX2_addJoint 72 = .ok (.iconst 1, 1) := by decide +kernel
theorem dX2_addJoint_73 : decode cX2_addJoint 73 = .ok (.isub, 1) := by decide +kernel
theorem dX2_addJoint_74 : decode cX2_addJoint 74 = .ok (.dup2, 1) := by decide +kernel
theorem dX2_addJoint_75 : decode cX2_addJoint 75 = .ok (.iaload, 1) := by decide +kernel
theorem dX2_addJoint_76 : decode cX2_addJoint 76 = .ok (.iconst 1, 1) := by decide +kernel
theorem dX2_addJoint_77 : decode cX2_addJoint 77 = .ok (.iadd, 1) := by decide +kernel
theorem dX2_addJoint_78 : decode cX2_addJoint 78 = .ok (.iastore, 1) := by decide +kernel
theorem dX2_addJoint_79 : decode cX2_addJoint 79 = .ok (.iconst 1, 1) := by decide +kernel
theorem dX2_addJoint_80 : decode cX2_addJoint 80 = .ok (.ireturn, 1) := by decide +kernel
theorem dX2_span_0 : decode cX2_span 0 = .ok (.iload_n 1, 1) := by decide +kernel
theorem dX2_span_1 : decode cX2_span 1 = .ok (.ifCond .lt 33, 3) := by decide +kernel
theorem dX2_span_4 : decode cX2_span 4 = .ok (.iload_n 1, 1) := by decide +kernel
theorem dX2_span_5 : decode cX2_span 5 = .ok (.aload_n 0, 1) := by decide +kernel
theorem dX2_span_6 : decode cX2_span 6 = .ok (.getfield 43, 3) := by decide +kernel
theorem dX2_span_9 : decode cX2_span 9 = .ok (.if_icmp .ge 25, 3) := by decide +kernel
theorem dX2_span_12 : decode cX2_span 12 = .ok (.aload_n 0, 1) := by decide +kernel
theorem dX2_span_13 : decode cX2_span 13 = .ok (.getfield 30, 3) := by decide +kernel
theorem dX2_span_16 : decode cX2_span 16 = .ok (.iload_n 1, 1) := by decide +kernel
theorem dX2_span_17 : decode cX2_span 17 = .ok (.iaload, 1) := by decide +kernel
theorem dX2_span_18 : decode cX2_span 18 = .ok (.aload_n 0, 1) := by decide +kernel
theorem dX2_span_19 : decode cX2_span 19 = .ok (.getfield 33, 3) := by decide +kernel
theorem dX2_span_22 : decode cX2_span 22 = .ok (.iload_n 1, 1) := by decide +kernel
theorem dX2_span_23 : decode cX2_span 23 = .ok (.iaload, 1) := by decide +kernel
theorem dX2_span_24 : decode cX2_span 24 = .ok (.iadd, 1) := by decide +kernel
theorem dX2_span_25 : decode cX2_span 25 = .ok (.iconst 1, 1) := by decide +kernel
theorem dX2_span_26 : decode cX2_span 26 = .ok (.iadd, 1) := by decide +kernel
theorem dX2_span_27 : decode cX2_span 27 = .ok (.iconst 1, 1) := by decide +kernel
theorem dX2_span_28 : decode cX2_span 28 = .ok (.invokestatic 46, 3) := by decide +kernel
theorem dX2_span_31 : decode cX2_span 31 = .ok (.goto 4, 3) := by decide +kernel
theorem dX2_span_34 : decode cX2_span 34 = .ok (.iconst 1, 1) := by decide +kernel
theorem dX2_span_35 : decode cX2_span 35 = .ok (.ireturn, 1) := by decide +kernel
theorem dX2_canTurn_0 : decode cX2_canTurn 0 = .ok (.iconst 0, 1) := by decide +kernel
theorem dX2_canTurn_1 : decode cX2_canTurn 1 = .ok (.istore_n 2, 1) := by decide +kernel
theorem dX2_canTurn_2 : decode cX2_canTurn 2 = .ok (.iload_n 2, 1) := by decide +kernel
theorem dX2_canTurn_3 : decode cX2_canTurn 3 = .ok (.aload_n 0, 1) := by decide +kernel
theorem dX2_canTurn_4 : decode cX2_canTurn 4 = .ok (.getfield 43, 3) := by decide +kernel
theorem dX2_canTurn_7 : decode cX2_canTurn 7 = .ok (.if_icmp .ge 40, 3) := by decide +kernel
theorem dX2_canTurn_10 : decode cX2_canTurn 10 = .ok (.aload_n 1, 1) := by decide +kernel
theorem dX2_canTurn_11 : decode cX2_canTurn 11 = .ok (.iload_n 2, 1) := by decide +kernel
theorem dX2_canTurn_12 : decode cX2_canTurn 12 = .ok (.invokevirtual 52, 3) := by decide +kernel
theorem dX2_canTurn_15 : decode cX2_canTurn 15 = .ok (.aload_n 0, 1) := by decide +kernel
theorem dX2_canTurn_16 : decode cX2_canTurn 16 = .ok (.getfield 30, 3) := by decide +kernel
theorem dX2_canTurn_19 : decode cX2_canTurn 19 = .ok (.iload_n 2, 1) := by decide +kernel
theorem dX2_canTurn_20 : decode cX2_canTurn 20 = .ok (.iaload, 1) := by decide +kernel
theorem dX2_canTurn_21 : decode cX2_canTurn 21 = .ok (.ineg, 1) := by decide +kernel
theorem dX2_canTurn_22 : decode cX2_canTurn 22 = .ok (.if_icmp .lt 17, 3) := by decide +kernel
theorem dX2_canTurn_25 : decode cX2_canTurn 25 = .ok (.aload_n 1, 1) := by decide +kernel
theorem dX2_canTurn_26 : decode cX2_canTurn 26 = .ok (.iload_n 2, 1) := by decide +kernel
theorem dX2_canTurn_27 : decode cX2_canTurn 27 = .ok (.invokevirtual 52, 3) := by decide +kernel
theorem dX2_canTurn_30 : decode cX2_canTurn 30 = .ok (.aload_n 0, 1) := by decide +kernel
theorem dX2_canTurn_31 : decode cX2_canTurn 31 = .ok (.getfield 33, 3) := by decide +kernel
theorem dX2_canTurn_34 : decode cX2_canTurn 34 = .ok (.iload_n 2, 1) := by decide +kernel
theorem dX2_canTurn_35 : decode cX2_canTurn 35 = .ok (.iaload, 1) := by decide +kernel
theorem dX2_canTurn_36 : decode cX2_canTurn 36 = .ok (.if_icmp .le 5, 3) := by decide +kernel
theorem dX2_canTurn_39 : decode cX2_canTurn 39 = .ok (.iconst 0, 1) := by decide +kernel
theorem dX2_canTurn_40 : decode cX2_canTurn 40 = .ok (.ireturn, 1) := by decide +kernel
theorem dX2_canTurn_41 : decode cX2_canTurn 41 = .ok (.iinc 2 1, 3) := by decide +kernel
theorem dX2_canTurn_44 : decode cX2_canTurn 44 = .ok (.goto (-42), 3) := by decide +kernel
theorem dX2_canTurn_47 : decode cX2_canTurn 47 = .ok (.iconst 1, 1) := by decide +kernel
theorem dX2_canTurn_48 : decode cX2_canTurn 48 = .ok (.ireturn, 1) := by decide +kernel
theorem dX2_turnFinger_0 : decode cX2_turnFinger 0 = .ok (.iload_n 2, 1) := by decide +kernel
theorem dX2_turnFinger_1 : decode cX2_turnFinger 1 = .ok (.istore 4, 2) := by decide +kernel
theorem dX2_turnFinger_3 : decode cX2_turnFinger 3 = .ok (.iconst 0, 1) := by decide +kernel
theorem dX2_turnFinger_4 : decode cX2_turnFinger 4 = .ok (.istore 5, 2) := by decide +kernel
theorem dX2_turnFinger_6 : decode cX2_turnFinger 6 = .ok (.aload_n 0, 1) := by decide +kernel
theorem dX2_turnFinger_7 : decode cX2_turnFinger 7 = .ok (.getfield 21, 3) := by decide +kernel
theorem dX2_turnFinger_10 : decode cX2_turnFinger 10 = .ok (.iload_n 1, 1) := by decide +kernel
theorem dX2_turnFinger_11 : decode cX2_turnFinger 11 = .ok (.iaload, 1) := by decide +kernel
theorem dX2_turnFinger_12 : decode cX2_turnFinger 12 = .ok (.aload_n 0, 1) := by decide +kernel
theorem dX2_turnFinger_13 : decode cX2_turnFinger 13 = .ok (.getfield 24, 3) := by decide +kernel
theorem dX2_turnFinger_16 : decode cX2_turnFinger 16 = .ok (.iload_n 1, 1) := by decide +kernel
theorem dX2_turnFinger_17 : decode cX2_turnFinger 17 = .ok (.iaload, 1) := by decide +kernel
theorem dX2_turnFinger_18 : decode cX2_turnFinger 18 = .ok (.iadd, 1) := by decide +kernel
theorem dX2_turnFinger_19 : decode cX2_turnFinger 19 = .ok (.iconst 1, 1) := by decide +kernel
theorem dX2_turnFinger_20 : decode cX2_turnFinger 20 = .ok (.isub, 1) := by decide +kernel
theorem dX2_turnFinger_21 : decode cX2_turnFinger 21 = .ok (.istore 6, 2) := by decide +kernel
theorem dX2_turnFinger_23 : decode cX2_turnFinger 23 = .ok (.iload 6, 2) := by decide +kernel
theorem dX2_turnFinger_25 : decode cX2_turnFinger 25 = .ok (.aload_n 0, 1) := by decide +kernel
theorem dX2_turnFinger_26 : decode cX2_turnFinger 26 = .ok (.getfield 21, 3) := by decide +kernel
theorem dX2_turnFinger_29 : decode cX2_turnFinger 29 = .ok (.iload_n 1, 1) := by decide +kernel
theorem dX2_turnFinger_30 : decode cX2_turnFinger 30 = .ok (.iaload, 1) := by decide +kernel
theorem dX2_turnFinger_31 : decode cX2_turnFinger 31 = .ok (.if_icmp .lt 53, 3) := by decide +kernel
theorem dX2_turnFinger_34 : decode cX2_turnFinger 34 = .ok (.aload_n 0, 1) := by decide +kernel
theorem dX2_turnFinger_35 : decode cX2_turnFinger 35 = .ok (.iload 6, 2) := by decide +kernel
theorem dX2_turnFinger_37 : decode cX2_turnFinger 37 = .ok (.invokevirtual 58, 3) := by decide +kernel
theorem dX2_turnFinger_40 : decode cX2_turnFinger 40 = .ok (.istore 7, 2) := by decide +kernel
theorem dX2_turnFinger_42 : decode cX2_turnFinger 42 = .ok (.aload_n 3, 1) := by decide +kernel
theorem dX2_turnFinger_43 : decode cX2_turnFinger 43 = .ok (.iload 6, 2) := by decide +kernel
theorem dX2_turnFinger_45 : decode cX2_turnFinger 45 = .ok (.iload 4, 2) := by decide +kernel
theorem dX2_turnFinger_47 : decode cX2_turnFinger 47 = .ok (.iload 7, 2) := by decide +kernel
theorem dX2_turnFinger_49 : decode cX2_turnFinger 49 = .ok (.irem, 1) := by decide +kernel
theorem dX2_turnFinger_50 : decode cX2_turnFinger 50 = .ok (.aload_n 0, 1) := by decide +kernel
theorem dX2_turnFinger_51 : decode cX2_turnFinger 51 = .ok (.getfield 30, 3) := by decide +kernel
theorem dX2_turnFinger_54 : decode cX2_turnFinger 54 = .ok (.iload 6, 2) := by decide +kernel
theorem dX2_turnFinger_56 : decode cX2_turnFinger 56 = .ok (.iaload, 1) := by decide +kernel
theorem dX2_turnFinger_57 : decode cX2_turnFinger 57 = .ok (.isub, 1) := by decide +kernel
theorem dX2_turnFinger_58 : decode cX2_turnFinger 58 = .ok (.iastore, 1) := by decide +kernel
theorem dX2_turnFinger_59 : decode cX2_turnFinger 59 = .ok (.iload 5, 2) := by decide +kernel
theorem dX2_turnFinger_61 : decode cX2_turnFinger 61 = .ok (.aload_n 3, 1) := by decide +kernel
theorem dX2_turnFinger_62 : decode cX2_turnFinger 62 = .ok (.iload 6, 2) := by decide +kernel
theorem dX2_turnFinger_64 : decode cX2_turnFinger 64 = .ok (.iaload, 1) := by decide +kernel
theorem dX2_turnFinger_65 : decode cX2_turnFinger 65 = .ok (.invokestatic 61, 3) := by decide +kernel
theorem dX2_turnFinger_68 : decode cX2_turnFinger 68 = .ok (.iadd, 1) := by decide +kernel
theorem dX2_turnFinger_69 : decode cX2_turnFinger 69 = .ok (.istore 5, 2) := by decide +kernel
theorem dX2_turnFinger_71 : decode cX2_turnFinger 71 = .ok (.iload 4, 2) := by decide +kernel
theorem dX2_turnFinger_73 : decode cX2_turnFinger 73 = .ok (.iload 7, 2) := by decide +kernel
theorem dX2_turnFinger_75 : decode cX2_turnFinger 75 = .ok (.idiv, 1) := by decide +kernel
theorem dX2_turnFinger_76 : decode cX2_turnFinger 76 = .ok (.istore 4, 2) := by decide +kernel
theorem dX2_turnFinger_78 : decode cX2_turnFinger 78 = .ok (.iinc 6 (-1), 3) := by decide +kernel
theorem dX2_turnFinger_81 : decode cX2_turnFinger 81 = .ok (.goto (-58), 3) := by decide +kernel
theorem dX2_turnFinger_84 : decode cX2_turnFinger 84 = .ok (.iload 5, 2) := by decide +kernel
theorem dX2_turnFinger_86 : decode cX2_turnFinger 86 = .ok (.ireturn, 1) := by decide +kernel
theorem dX2_wristCells_0 : decode cX2_wristCells 0 = .ok (.aload_n 2, 1) := by decide +kernel
theorem dX2_wristCells_1 : decode cX2_wristCells 1 = .ok (.invokevirtual 64, 3) := by decide +kernel
theorem dX2_wristCells_4 : decode cX2_wristCells 4 = .ok (.iconst 0, 1) := by decide +kernel
theorem dX2_wristCells_5 : decode cX2_wristCells 5 = .ok (.istore_n 3, 1) := by decide +kernel
theorem dX2_wristCells_6 : decode cX2_wristCells 6 = .ok (.iconst 0, 1) := by decide +kernel
theorem dX2_wristCells_7 : decode cX2_wristCells 7 = .ok (.istore 4, 2) := by decide +kernel
theorem dX2_wristCells_9 : decode cX2_wristCells 9 = .ok (.iload 4, 2) := by decide +kernel
theorem dX2_wristCells_11 : decode cX2_wristCells 11 = .ok (.aload_n 0, 1) := by decide +kernel
theorem dX2_wristCells_12 : decode cX2_wristCells 12 = .ok (.getfield 36, 3) := by decide +kernel
theorem dX2_wristCells_15 : decode cX2_wristCells 15 = .ok (.if_icmp .ge 62, 3) := by decide +kernel
theorem dX2_wristCells_18 : decode cX2_wristCells 18 = .ok (.iload_n 1, 1) := by decide +kernel
theorem dX2_wristCells_19 : decode cX2_wristCells 19 = .ok (.iconst (-1), 1) := by decide +kernel
theorem dX2_wristCells_20 : decode cX2_wristCells 20 = .ok (.if_icmp .eq 9, 3) := by decide +kernel
theorem dX2_wristCells_23 : decode cX2_wristCells 23 = .ok (.iload_n 1, 1) := by decide +kernel
theorem dX2_wristCells_24 : decode cX2_wristCells 24 = .ok (.iload 4, 2) := by decide +kernel
theorem dX2_wristCells_26 : decode cX2_wristCells 26 = .ok (.if_icmp .ne 7, 3) := by decide +kernel
theorem dX2_wristCells_29 : decode cX2_wristCells 29 = .ok (.iconst 1, 1) := by decide +kernel
theorem dX2_wristCells_30 : decode cX2_wristCells 30 = .ok (.goto 4, 3) := by decide +kernel
theorem dX2_wristCells_33 : decode cX2_wristCells 33 = .ok (.iconst 0, 1) := by decide +kernel
theorem dX2_wristCells_34 : decode cX2_wristCells 34 = .ok (.istore 5, 2) := by decide +kernel
theorem dX2_wristCells_36 : decode cX2_wristCells 36 = .ok (.iload 5, 2) := by decide +kernel
theorem dX2_wristCells_38 : decode cX2_wristCells 38 = .ok (.ifCond .eq 33, 3) := by decide +kernel
theorem dX2_wristCells_41 : decode cX2_wristCells 41 = .ok (.aload_n 2, 1) := by decide +kernel
theorem dX2_wristCells_42 : decode cX2_wristCells 42 = .ok (.aload_n 0, 1) := by decide +kernel
theorem dX2_wristCells_43 : decode cX2_wristCells 43 = .ok (.getfield 9, 3) := by decide +kernel
theorem dX2_wristCells_46 : decode cX2_wristCells 46 = .ok (.iload 4, 2) := by decide +kernel
theorem dX2_wristCells_48 : decode cX2_wristCells 48 = .ok (.iaload, 1) := by decide +kernel
theorem dX2_wristCells_49 : decode cX2_wristCells 49 = .ok (.bipush 12, 2) := by decide +kernel
theorem dX2_wristCells_51 : decode cX2_wristCells 51 = .ok (.irem, 1) := by decide +kernel
theorem dX2_wristCells_52 : decode cX2_wristCells 52 = .ok (.aload_n 0, 1) := by decide +kernel
theorem dX2_wristCells_53 : decode cX2_wristCells 53 = .ok (.getfield 9, 3) := by decide +kernel
theorem dX2_wristCells_56 : decode cX2_wristCells 56 = .ok (.iload 4, 2) := by decide +kernel
theorem dX2_wristCells_58 : decode cX2_wristCells 58 = .ok (.iaload, 1) := by decide +kernel
theorem dX2_wristCells_59 : decode cX2_wristCells 59 = .ok (.bipush 12, 2) := by decide +kernel
theorem dX2_wristCells_61 : decode cX2_wristCells 61 = .ok (.idiv, 1) := by decide +kernel
theorem dX2_wristCells_62 : decode cX2_wristCells 62 = .ok (.invokevirtual 69, 3) := by decide +kernel
theorem dX2_wristCells_65 : decode cX2_wristCells 65 = .ok (.ifCond .ne 6, 3) := by decide +kernel
theorem dX2_wristCells_68 : decode cX2_wristCells 68 = .ok (.iinc 3 1, 3) := by decide +kernel
theorem dX2_wristCells_71 : decode cX2_wristCells 71 = .ok (.iinc 4 1, 3) := by decide +kernel
theorem dX2_wristCells_74 : decode cX2_wristCells 74 = .ok (.goto (-65), 3) := by decide +kernel
theorem dX2_wristCells_77 : decode cX2_wristCells 77 = .ok (.iload_n 3, 1) := by decide +kernel
theorem dX2_wristCells_78 : decode cX2_wristCells 78 = .ok (.ireturn, 1) := by decide +kernel
theorem dX2_fingerCells_0 : decode cX2_fingerCells 0 = .ok (.iconst 0, 1) := by decide +kernel
theorem dX2_fingerCells_1 : decode cX2_fingerCells 1 = .ok (.istore 4, 2) := by decide +kernel
theorem dX2_fingerCells_3 : decode cX2_fingerCells 3 = .ok (.aload_n 0, 1) := by decide +kernel
theorem dX2_fingerCells_4 : decode cX2_fingerCells 4 = .ok (.getfield 9, 3) := by decide +kernel
theorem dX2_fingerCells_7 : decode cX2_fingerCells 7 = .ok (.aload_n 0, 1) := by decide +kernel
theorem dX2_fingerCells_8 : decode cX2_fingerCells 8 = .ok (.getfield 15, 3) := by decide +kernel
theorem dX2_fingerCells_11 : decode cX2_fingerCells 11 = .ok (.iload_n 1, 1) := by decide +kernel
theorem dX2_fingerCells_12 : decode cX2_fingerCells 12 = .ok (.iaload, 1) := by decide +kernel
theorem dX2_fingerCells_13 : decode cX2_fingerCells 13 = .ok (.iaload, 1) := by decide +kernel
theorem dX2_fingerCells_14 : decode cX2_fingerCells 14 = .ok (.bipush 12, 2) := by decide +kernel
theorem dX2_fingerCells_16 : decode cX2_fingerCells 16 = .ok (.irem, 1) := by decide +kernel
theorem dX2_fingerCells_17 : decode cX2_fingerCells 17 = .ok (.istore 5, 2) := by decide +kernel
theorem dX2_fingerCells_19 : decode cX2_fingerCells 19 = .ok (.aload_n 0, 1) := by decide +kernel
theorem dX2_fingerCells_20 : decode cX2_fingerCells 20 = .ok (.getfield 9, 3) := by decide +kernel
theorem dX2_fingerCells_23 : decode cX2_fingerCells 23 = .ok (.aload_n 0, 1) := by decide +kernel
theorem dX2_fingerCells_24 : decode cX2_fingerCells 24 = .ok (.getfield 15, 3) := by decide +kernel
theorem dX2_fingerCells_27 : decode cX2_fingerCells 27 = .ok (.iload_n 1, 1) := by decide +kernel
theorem dX2_fingerCells_28 : decode cX2_fingerCells 28 = .ok (.iaload, 1) := by decide +kernel
theorem dX2_fingerCells_29 : decode cX2_fingerCells 29 = .ok (.iaload, 1) := by decide +kernel
theorem dX2_fingerCells_30 : decode cX2_fingerCells 30 = .ok (.bipush 12, 2) := by decide +kernel
theorem dX2_fingerCells_32 : decode cX2_fingerCells 32 = .ok (.idiv, 1) := by decide +kernel
theorem dX2_fingerCells_33 : decode cX2_fingerCells 33 = .ok (.istore 6, 2) := by decide +kernel
theorem dX2_fingerCells_35 : decode cX2_fingerCells 35 = .ok (.aload_n 0, 1) := by decide +kernel
theorem dX2_fingerCells_36 : decode cX2_fingerCells 36 = .ok (.getfield 18, 3) := by decide +kernel
theorem dX2_fingerCells_39 : decode cX2_fingerCells 39 = .ok (.iload_n 1, 1) := by decide +kernel
theorem dX2_fingerCells_40 : decode cX2_fingerCells 40 = .ok (.iaload, 1) := by decide +kernel
theorem dX2_fingerCells_41 : decode cX2_fingerCells 41 = .ok (.istore 7, 2) := by decide +kernel
theorem dX2_fingerCells_43 : decode cX2_fingerCells 43 = .ok (.iconst 0, 1) := by decide +kernel
theorem dX2_fingerCells_44 : decode cX2_fingerCells 44 = .ok (.istore 8, 2) := by decide +kernel
theorem dX2_fingerCells_46 : decode cX2_fingerCells 46 = .ok (.iload 8, 2) := by decide +kernel
theorem dX2_fingerCells_48 : decode cX2_fingerCells 48 = .ok (.aload_n 0, 1) := by decide +kernel
theorem dX2_fingerCells_49 : decode cX2_fingerCells 49 = .ok (.getfield 24, 3) := by decide +kernel
theorem dX2_fingerCells_52 : decode cX2_fingerCells 52 = .ok (.iload_n 1, 1) := by decide +kernel
theorem dX2_fingerCells_53 : decode cX2_fingerCells 53 = .ok (.iaload, 1) := by decide +kernel
theorem dX2_fingerCells_54 : decode cX2_fingerCells 54 = .ok (.if_icmp .gt 71, 3) := by decide +kernel
theorem dX2_fingerCells_57 : decode cX2_fingerCells 57 = .ok (.iload 8, 2) := by decide +kernel
theorem dX2_fingerCells_59 : decode cX2_fingerCells 59 = .ok (.ifCond .le 24, 3) := by decide +kernel
theorem dX2_fingerCells_62 : decode cX2_fingerCells 62 = .ok (.iload 7, 2) := by decide +kernel
theorem dX2_fingerCells_64 : decode cX2_fingerCells 64 = .ok (.aload_n 2, 1) := by decide +kernel
theorem dX2_fingerCells_65 : decode cX2_fingerCells 65 = .ok (.aload_n 0, 1) := by decide +kernel
theorem dX2_fingerCells_66 : decode cX2_fingerCells 66 = .ok (.getfield 21, 3) := by decide +kernel
theorem dX2_fingerCells_69 : decode cX2_fingerCells 69 = .ok (.iload_n 1, 1) := by decide +kernel
theorem dX2_fingerCells_70 : decode cX2_fingerCells 70 = .ok (.iaload, 1) := by decide +kernel
theorem dX2_fingerCells_71 : decode cX2_fingerCells 71 = .ok (.iload 8, 2) := by decide +kernel
theorem dX2_fingerCells_73 : decode cX2_fingerCells 73 = .ok (.iadd, 1) := by decide +kernel
theorem dX2_fingerCells_74 : decode cX2_fingerCells 74 = .ok (.iconst 1, 1) := by decide +kernel
theorem dX2_fingerCells_75 : decode cX2_fingerCells 75 = .ok (.isub, 1) := by decide +kernel
theorem dX2_fingerCells_76 : decode cX2_fingerCells 76 = .ok (.iaload, 1) := by decide +kernel
theorem dX2_fingerCells_77 : decode cX2_fingerCells 77 = .ok (.iadd, 1) := by decide +kernel
theorem dX2_fingerCells_78 : decode cX2_fingerCells 78 = .ok (.bipush 7, 2) := by decide +kernel
theorem dX2_fingerCells_80 : decode cX2_fingerCells 80 = .ok (.iand, 1) := by decide +kernel
theorem dX2_fingerCells_81 : decode cX2_fingerCells 81 = .ok (.istore 7, 2) := by decide +kernel
theorem dX2_fingerCells_83 : decode cX2_fingerCells 83 = .ok (.iload 5, 2) := by decide +kernel
theorem dX2_fingerCells_85 : decode cX2_fingerCells 85 = .ok (.getstatic 73, 3) := by decide +kernel
theorem dX2_fingerCells_88 : decode cX2_fingerCells 88 = .ok (.iload 7, 2) := by decide +kernel
theorem dX2_fingerCells_90 : decode cX2_fingerCells 90 = .ok (.iaload, 1) := by decide +kernel
theorem dX2_fingerCells_91 : decode cX2_fingerCells 91 = .ok (.iadd, 1) := by decide +kernel
theorem dX2_fingerCells_92 : decode cX2_fingerCells 92 = .ok (.istore 5, 2) := by decide +kernel
theorem dX2_fingerCells_94 : decode cX2_fingerCells 94 = .ok (.iload 6, 2) := by decide +kernel
theorem dX2_fingerCells_96 : decode cX2_fingerCells 96 = .ok (.getstatic 76, 3) := by decide +kernel
theorem dX2_fingerCells_99 : decode cX2_fingerCells 99 = .ok (.iload 7, 2) := by decide +kernel
theorem dX2_fingerCells_101 : decode cX2_fingerCells 101 = .ok (.iaload, 1) := by decide +kernel
theorem dX2_fingerCells_102 : decode cX2_fingerCells 102 = .ok (.iadd, 1) := by decide +kernel
theorem dX2_fingerCells_103 : decode cX2_fingerCells 103 = .ok (.istore 6, 2) := by decide +kernel
theorem dX2_fingerCells_105 : decode cX2_fingerCells 105 = .ok (.aload_n 3, 1) := by decide +kernel
theorem dX2_fingerCells_106 : decode cX2_fingerCells 106 = .ok (.iload 5, 2) := by decide +kernel
theorem dX2_fingerCells_108 : decode cX2_fingerCells 108 = .ok (.iload 6, 2) := by decide +kernel
theorem dX2_fingerCells_110 : decode cX2_fingerCells 110 = .ok (.invokevirtual 69, 3) := by decide +kernel
theorem dX2_fingerCells_113 : decode cX2_fingerCells 113 = .ok (.ifCond .ne 6, 3) := by decide +kernel
theorem dX2_fingerCells_116 : decode cX2_fingerCells 116 = .ok (.iinc 4 1, 3) := by decide +kernel
theorem dX2_fingerCells_119 : decode cX2_fingerCells 119 = .ok (.iinc 8 1, 3) := by decide +kernel
theorem dX2_fingerCells_122 : decode cX2_fingerCells 122 = .ok (.goto (-76), 3) := by decide +kernel
theorem dX2_fingerCells_125 : decode cX2_fingerCells 125 = .ok (.iload 4, 2) := by decide +kernel
theorem dX2_fingerCells_127 : decode cX2_fingerCells 127 = .ok (.ireturn, 1) := by decide +kernel
theorem dX2_allCells_0 : decode cX2_allCells 0 = .ok (.aload_n 0, 1) := by decide +kernel
theorem dX2_allCells_1 : decode cX2_allCells 1 = .ok (.iconst (-1), 1) := by decide +kernel
theorem dX2_allCells_2 : decode cX2_allCells 2 = .ok (.aload_n 2, 1) := by decide +kernel
theorem dX2_allCells_3 : decode cX2_allCells 3 = .ok (.invokevirtual 79, 3) := by decide +kernel
theorem dX2_allCells_6 : decode cX2_allCells 6 = .ok (.istore_n 3, 1) := by decide +kernel
theorem dX2_allCells_7 : decode cX2_allCells 7 = .ok (.iconst 0, 1) := by decide +kernel
theorem dX2_allCells_8 : decode cX2_allCells 8 = .ok (.istore 4, 2) := by decide +kernel
theorem dX2_allCells_10 : decode cX2_allCells 10 = .ok (.iload 4, 2) := by decide +kernel
theorem dX2_allCells_12 : decode cX2_allCells 12 = .ok (.aload_n 0, 1) := by decide +kernel
theorem dX2_allCells_13 : decode cX2_allCells 13 = .ok (.getfield 40, 3) := by decide +kernel
theorem dX2_allCells_16 : decode cX2_allCells 16 = .ok (.if_icmp .ge 20, 3) := by decide +kernel
theorem dX2_allCells_19 : decode cX2_allCells 19 = .ok (.iload_n 3, 1) := by decide +kernel
theorem dX2_allCells_20 : decode cX2_allCells 20 = .ok (.aload_n 0, 1) := by decide +kernel
theorem dX2_allCells_21 : decode cX2_allCells 21 = .ok (.iload 4, 2) := by decide +kernel
theorem dX2_allCells_23 : decode cX2_allCells 23 = .ok (.aload_n 1, 1) := by decide +kernel
theorem dX2_allCells_24 : decode cX2_allCells 24 = .ok (.aload_n 2, 1) := by decide +kernel
theorem dX2_allCells_25 : decode cX2_allCells 25 = .ok (.invokevirtual 83, 3) := by decide +kernel
theorem dX2_allCells_28 : decode cX2_allCells 28 = .ok (.iadd, 1) := by decide +kernel
theorem dX2_allCells_29 : decode cX2_allCells 29 = .ok (.istore_n 3, 1) := by decide +kernel
theorem dX2_allCells_30 : decode cX2_allCells 30 = .ok (.iinc 4 1, 3) := by decide +kernel
theorem dX2_allCells_33 : decode cX2_allCells 33 = .ok (.goto (-23), 3) := by decide +kernel
theorem dX2_allCells_36 : decode cX2_allCells 36 = .ok (.iload_n 3, 1) := by decide +kernel
theorem dX2_allCells_37 : decode cX2_allCells 37 = .ok (.ireturn, 1) := by decide +kernel
theorem dX3_init_0 : decode cX3_init 0 = .ok (.aload_n 0, 1) := by decide +kernel
theorem dX3_init_1 : decode cX3_init 1 = .ok (.invokespecial 3, 3) := by decide +kernel
theorem dX3_init_4 : decode cX3_init 4 = .ok (.aload_n 0, 1) := by decide +kernel
theorem dX3_init_5 : decode cX3_init 5 = .ok (.iconst 1, 1) := by decide +kernel
theorem dX3_init_6 : decode cX3_init 6 = .ok (.putfield 9, 3) := by decide +kernel
theorem dX3_init_9 : decode cX3_init 9 = .ok (.return_, 1) := by decide +kernel
theorem dX3_become_0 : decode cX3_become 0 = .ok (.aload_n 0, 1) := by decide +kernel
theorem dX3_become_1 : decode cX3_become 1 = .ok (.iload_n 1, 1) := by decide +kernel
theorem dX3_become_2 : decode cX3_become 2 = .ok (.putfield 9, 3) := by decide +kernel
theorem dX3_become_5 : decode cX3_become 5 = .ok (.aload_n 0, 1) := by decide +kernel
theorem dX3_become_6 : decode cX3_become 6 = .ok (.iload_n 2, 1) := by decide +kernel
theorem dX3_become_7 : decode cX3_become 7 = .ok (.putfield 15, 3) := by decide +kernel
theorem dX3_become_10 : decode cX3_become 10 = .ok (.aload_n 0, 1) := by decide +kernel
theorem dX3_become_11 : decode cX3_become 11 = .ok (.iload_n 3, 1) := by decide +kernel
theorem dX3_become_12 : decode cX3_become 12 = .ok (.putfield 18, 3) := by decide +kernel
theorem dX3_become_15 : decode cX3_become 15 = .ok (.return_, 1) := by decide +kernel
theorem dX3_becomeNumber_0 : decode cX3_becomeNumber 0 = .ok (.aload_n 0, 1) := by decide +kernel
theorem dX3_becomeNumber_1 : decode cX3_becomeNumber 1 = .ok (.iconst 1, 1) := by decide +kernel
theorem dX3_becomeNumber_2 : decode cX3_becomeNumber 2 = .ok (.iload_n 1, 1) := by decide +kernel
theorem dX3_becomeNumber_3 : decode cX3_becomeNumber 3 = .ok (.bipush 49, 2) := by decide +kernel
theorem dX3_becomeNumber_5 : decode cX3_becomeNumber 5 = .ok (.idiv, 1) := by decide +kernel
theorem dX3_becomeNumber_6 : decode cX3_becomeNumber 6 = .ok (.iadd, 1) := by decide +kernel
theorem dX3_becomeNumber_7 : decode cX3_becomeNumber 7 = .ok (.iload_n 1, 1) := by decide +kernel
theorem dX3_becomeNumber_8 : decode cX3_becomeNumber 8 = .ok (.bipush 7, 2) := by decide +kernel
theorem dX3_becomeNumber_10 : decode cX3_becomeNumber 10 = .ok (.idiv, 1) := by decide +kernel
theorem dX3_becomeNumber_11 : decode cX3_becomeNumber 11 = .ok (.bipush 7, 2) := by decide +kernel
theorem dX3_becomeNumber_13 : decode cX3_becomeNumber 13 = .ok (.irem, 1) := by decide +kernel
theorem dX3_becomeNumber_14 : decode cX3_becomeNumber 14 = .ok (.iconst 3, 1) := by decide +kernel
theorem dX3_becomeNumber_15 : decode cX3_becomeNumber 15 = .ok (.isub, 1) := by decide +kernel
theorem dX3_becomeNumber_16 : decode cX3_becomeNumber 16 = .ok (.iload_n 1, 1) := by decide +kernel
theorem dX3_becomeNumber_17 : decode cX3_becomeNumber 17 = .ok (.bipush 7, 2) := by decide +kernel
theorem dX3_becomeNumber_19 : decode cX3_becomeNumber 19 = .ok (.irem, 1) := by decide +kernel
theorem dX3_becomeNumber_20 : decode cX3_becomeNumber 20 = .ok (.iconst 3, 1) := by decide +kernel
theorem dX3_becomeNumber_21 : decode cX3_becomeNumber 21 = .ok (.isub, 1) := by decide +kernel
theorem dX3_becomeNumber_22 : decode cX3_becomeNumber 22 = .ok (.invokevirtual 21, 3) := by decide +kernel
theorem dX3_becomeNumber_25 : decode cX3_becomeNumber 25 = .ok (.return_, 1) := by decide +kernel
theorem dX3_code_0 : decode cX3_code 0 = .ok (.bipush 100, 2) := by decide +kernel
theorem dX3_code_2 : decode cX3_code 2 = .ok (.aload_n 0, 1) := by decide +kernel
theorem dX3_code_3 : decode cX3_code 3 = .ok (.getfield 9, 3) := by decide +kernel
theorem dX3_code_6 : decode cX3_code 6 = .ok (.imul, 1) := by decide +kernel
theorem dX3_code_7 : decode cX3_code 7 = .ok (.bipush 10, 2) := by decide +kernel
theorem dX3_code_9 : decode cX3_code 9 = .ok (.aload_n 0, 1) := by decide +kernel
theorem dX3_code_10 : decode cX3_code 10 = .ok (.getfield 15, 3) := by decide +kernel
theorem dX3_code_13 : decode cX3_code 13 = .ok (.iconst 3, 1) := by decide +kernel
theorem dX3_code_14 : decode cX3_code 14 = .ok (.iadd, 1) := by decide +kernel
theorem dX3_code_15 : decode cX3_code 15 = .ok (.imul, 1) := by decide +kernel
theorem dX3_code_16 : decode cX3_code 16 = .ok (.iadd, 1) := by decide +kernel
theorem dX3_code_17 : decode cX3_code 17 = .ok (.aload_n 0, 1) := by decide +kernel
theorem dX3_code_18 : decode cX3_code 18 = .ok (.getfield 18, 3) := by decide +kernel
theorem dX3_code_21 : decode cX3_code 21 = .ok (.iadd, 1) := by decide +kernel
theorem dX3_code_22 : decode cX3_code 22 = .ok (.iconst 3, 1) := by decide +kernel
theorem dX3_code_23 : decode cX3_code 23 = .ok (.iadd, 1) := by decide +kernel
theorem dX3_code_24 : decode cX3_code 24 = .ok (.ireturn, 1) := by decide +kernel
theorem dX3_throwCells_0 : decode cX3_throwCells 0 = .ok (.aload 5, 2) := by decide +kernel
theorem dX3_throwCells_2 : decode cX3_throwCells 2 = .ok (.invokevirtual 25, 3) := by decide +kernel
theorem dX3_throwCells_5 : decode cX3_throwCells 5 = .ok (.aload_n 0, 1) := by decide +kernel
theorem dX3_throwCells_6 : decode cX3_throwCells 6 = .ok (.lload_n 1, 1) := by decide +kernel
theorem dX3_throwCells_7 : decode cX3_throwCells 7 = .ok (.iconst 0, 1) := by decide +kernel
theorem dX3_throwCells_8 : decode cX3_throwCells 8 = .ok (.aload 5, 2) := by decide +kernel
theorem dX3_throwCells_10 : decode cX3_throwCells 10 = .ok (.invokevirtual 30, 3) := by decide +kernel
theorem dX3_throwCells_13 : decode cX3_throwCells 13 = .ok (.aload_n 0, 1) := by decide +kernel
theorem dX3_throwCells_14 : decode cX3_throwCells 14 = .ok (.lload_n 3, 1) := by decide +kernel
theorem dX3_throwCells_15 : decode cX3_throwCells 15 = .ok (.iconst 5, 1) := by decide +kernel
theorem dX3_throwCells_16 : decode cX3_throwCells 16 = .ok (.aload 5, 2) := by decide +kernel
theorem dX3_throwCells_18 : decode cX3_throwCells 18 = .ok (.invokevirtual 30, 3) := by decide +kernel
theorem dX3_throwCells_21 : decode cX3_throwCells 21 = .ok (.return_, 1) := by decide +kernel
theorem dX3_throwHalf_0 : decode cX3_throwHalf 0 = .ok (.lload_n 1, 1) := by decide +kernel
theorem dX3_throwHalf_1 : decode cX3_throwHalf 1 = .ok (.lstore 5, 2) := by decide +kernel
theorem dX3_throwHalf_3 : decode cX3_throwHalf 3 = .ok (.iconst 0, 1) := by decide +kernel
theorem dX3_throwHalf_4 : decode cX3_throwHalf 4 = .ok (.istore 7, 2) := by decide +kernel
theorem dX3_throwHalf_6 : decode cX3_throwHalf 6 = .ok (.iload 7, 2) := by decide +kernel
theorem dX3_throwHalf_8 : decode cX3_throwHalf 8 = .ok (.bipush 60, 2) := by decide +kernel
theorem dX3_throwHalf_10 : decode cX3_throwHalf 10 = .ok (.if_icmp .ge 50, 3) := by decide +kernel
theorem dX3_throwHalf_13 : decode cX3_throwHalf 13 = .ok (.lload 5, 2) := by decide +kernel
theorem dX3_throwHalf_15 : decode cX3_throwHalf 15 = .ok (.lconst 0, 1) := by decide +kernel
theorem dX3_throwHalf_16 : decode cX3_throwHalf 16 = .ok (.lcmp, 1) := by decide +kernel
theorem dX3_throwHalf_17 : decode cX3_throwHalf 17 = .ok (.ifCond .eq 43, 3) := by decide +kernel
theorem dX3_throwHalf_20 : decode cX3_throwHalf 20 = .ok (.lload 5, 2) := by decide +kernel
theorem dX3_throwHalf_22 : decode cX3_throwHalf 22 = .ok (.invokestatic 34, 3) := by decide +kernel
theorem dX3_throwHalf_25 : decode cX3_throwHalf 25 = .ok (.istore 8, 2) := by decide +kernel
theorem dX3_throwHalf_27 : decode cX3_throwHalf 27 = .ok (.aload_n 0, 1) := by decide +kernel
theorem dX3_throwHalf_28 : decode cX3_throwHalf 28 = .ok (.iload 8, 2) := by decide +kernel
theorem dX3_throwHalf_30 : decode cX3_throwHalf 30 = .ok (.bipush 12, 2) := by decide +kernel
theorem dX3_throwHalf_32 : decode cX3_throwHalf 32 = .ok (.irem, 1) := by decide +kernel
theorem dX3_throwHalf_33 : decode cX3_throwHalf 33 = .ok (.iload_n 3, 1) := by decide +kernel
theorem dX3_throwHalf_34 : decode cX3_throwHalf 34 = .ok (.iload 8, 2) := by decide +kernel
theorem dX3_throwHalf_36 : decode cX3_throwHalf 36 = .ok (.bipush 12, 2) := by decide +kernel
theorem dX3_throwHalf_38 : decode cX3_throwHalf 38 = .ok (.idiv, 1) := by decide +kernel
theorem dX3_throwHalf_39 : decode cX3_throwHalf 39 = .ok (.iadd, 1) := by decide +kernel
theorem dX3_throwHalf_40 : decode cX3_throwHalf 40 = .ok (.aload 4, 2) := by decide +kernel
theorem dX3_throwHalf_42 : decode cX3_throwHalf 42 = .ok (.invokevirtual 40, 3) := by decide +kernel
theorem dX3_throwHalf_45 : decode cX3_throwHalf 45 = .ok (.lload 5, 2) := by decide +kernel
theorem dX3_throwHalf_47 : decode cX3_throwHalf 47 = .ok (.lload 5, 2) := by decide +kernel
theorem dX3_throwHalf_49 : decode cX3_throwHalf 49 = .ok (.lconst 1, 1) := by decide +kernel
theorem dX3_throwHalf_50 : decode cX3_throwHalf 50 = .ok (.lsub, 1) := by decide +kernel
theorem dX3_throwHalf_51 : decode cX3_throwHalf 51 = .ok (.land, 1) := by decide +kernel
theorem dX3_throwHalf_52 : decode cX3_throwHalf 52 = .ok (.lstore 5, 2) := by decide +kernel
theorem dX3_throwHalf_54 : decode cX3_throwHalf 54 = .ok (.iinc 7 1, 3) := by decide +kernel
theorem dX3_throwHalf_57 : decode cX3_throwHalf 57 = .ok (.goto (-51), 3) := by decide +kernel
theorem dX3_throwHalf_60 : decode cX3_throwHalf 60 = .ok (.return_, 1) := by decide +kernel
theorem dX3_throwCell_0 : decode cX3_throwCell 0 = .ok (.iconst 1, 1) := by decide +kernel
theorem dX3_throwCell_1 : decode cX3_throwCell 1 = .ok (.aload_n 0, 1) := by decide +kernel
theorem dX3_throwCell_2 : decode cX3_throwCell 2 = .ok (.getfield 9, 3) := by decide +kernel
theorem dX3_throwCell_5 : decode cX3_throwCell 5 = .ok (.ishl, 1) := by decide +kernel
theorem dX3_throwCell_6 : decode cX3_throwCell 6 = .ok (.iconst 1, 1) := by decide +kernel
theorem dX3_throwCell_7 : decode cX3_throwCell 7 = .ok (.isub, 1) := by decide +kernel
theorem dX3_throwCell_8 : decode cX3_throwCell 8 = .ok (.aload_n 0, 1) := by decide +kernel
theorem dX3_throwCell_9 : decode cX3_throwCell 9 = .ok (.getfield 9, 3) := by decide +kernel
theorem dX3_throwCell_12 : decode cX3_throwCell 12 = .ok (.iload_n 1, 1) := by decide +kernel
theorem dX3_throwCell_13 : decode cX3_throwCell 13 = .ok (.imul, 1) := by decide +kernel
theorem dX3_throwCell_14 : decode cX3_throwCell 14 = .ok (.aload_n 0, 1) := by decide +kernel
theorem dX3_throwCell_15 : decode cX3_throwCell 15 = .ok (.getfield 15, 3) := by decide +kernel
theorem dX3_throwCell_18 : decode cX3_throwCell 18 = .ok (.iadd, 1) := by decide +kernel
theorem dX3_throwCell_19 : decode cX3_throwCell 19 = .ok (.iconst 3, 1) := by decide +kernel
theorem dX3_throwCell_20 : decode cX3_throwCell 20 = .ok (.iadd, 1) := by decide +kernel
theorem dX3_throwCell_21 : decode cX3_throwCell 21 = .ok (.ishl, 1) := by decide +kernel
theorem dX3_throwCell_22 : decode cX3_throwCell 22 = .ok (.iconst 3, 1) := by decide +kernel
theorem dX3_throwCell_23 : decode cX3_throwCell 23 = .ok (.ishr, 1) := by decide +kernel
theorem dX3_throwCell_24 : decode cX3_throwCell 24 = .ok (.istore 4, 2) := by decide +kernel
theorem dX3_throwCell_26 : decode cX3_throwCell 26 = .ok (.iconst 0, 1) := by decide +kernel
theorem dX3_throwCell_27 : decode cX3_throwCell 27 = .ok (.istore 5, 2) := by decide +kernel
theorem dX3_throwCell_29 : decode cX3_throwCell 29 = .ok (.iload 5, 2) := by decide +kernel
theorem dX3_throwCell_31 : decode cX3_throwCell 31 = .ok (.aload_n 0, 1) := by decide +kernel
theorem dX3_throwCell_32 : decode cX3_throwCell 32 = .ok (.getfield 9, 3) := by decide +kernel
theorem dX3_throwCell_35 : decode cX3_throwCell 35 = .ok (.if_icmp .ge 29, 3) := by decide +kernel
theorem dX3_throwCell_38 : decode cX3_throwCell 38 = .ok (.aload_n 3, 1) := by decide +kernel
theorem dX3_throwCell_39 : decode cX3_throwCell 39 = .ok (.aload_n 0, 1) := by decide +kernel
theorem dX3_throwCell_40 : decode cX3_throwCell 40 = .ok (.getfield 9, 3) := by decide +kernel
theorem dX3_throwCell_43 : decode cX3_throwCell 43 = .ok (.iload_n 2, 1) := by decide +kernel
theorem dX3_throwCell_44 : decode cX3_throwCell 44 = .ok (.imul, 1) := by decide +kernel
theorem dX3_throwCell_45 : decode cX3_throwCell 45 = .ok (.aload_n 0, 1) := by decide +kernel
theorem dX3_throwCell_46 : decode cX3_throwCell 46 = .ok (.getfield 18, 3) := by decide +kernel
theorem dX3_throwCell_49 : decode cX3_throwCell 49 = .ok (.iadd, 1) := by decide +kernel
theorem dX3_throwCell_50 : decode cX3_throwCell 50 = .ok (.iload 5, 2) := by decide +kernel
theorem dX3_throwCell_52 : decode cX3_throwCell 52 = .ok (.iadd, 1) := by decide +kernel
theorem dX3_throwCell_53 : decode cX3_throwCell 53 = .ok (.iload 4, 2) := by decide +kernel
theorem dX3_throwCell_55 : decode cX3_throwCell 55 = .ok (.invokevirtual 44, 3) := by decide +kernel
theorem dX3_throwCell_58 : decode cX3_throwCell 58 = .ok (.iinc 5 1, 3) := by decide +kernel
theorem dX3_throwCell_61 : decode cX3_throwCell 61 = .ok (.goto (-32), 3) := by decide +kernel
theorem dX3_throwCell_64 : decode cX3_throwCell 64 = .ok (.return_, 1) := by decide +kernel
theorem dX4_init_0 : decode cX4_init 0 = .ok (.aload_n 0, 1) := by decide +kernel
theorem dX4_init_1 : decode cX4_init 1 = .ok (.invokespecial 3, 3) := by decide +kernel
theorem dX4_init_4 : decode cX4_init 4 = .ok (.aload_n 0, 1) := by decide +kernel
theorem dX4_init_5 : decode cX4_init 5 = .ok (.bipush 8, 2) := by decide +kernel
theorem dX4_init_7 : decode cX4_init 7 = .ok (.iconst 3, 1) := by decide +kernel
theorem dX4_init_8 : decode cX4_init 8 = .ok (.multianewarray 9 2, 4) := by decide +kernel
theorem dX4_init_12 : decode cX4_init 12 = .ok (.putfield 11, 3) := by decide +kernel
theorem dX4_init_15 : decode cX4_init 15 = .ok (.aload_n 0, 1) := by decide +kernel
theorem dX4_init_16 : decode cX4_init 16 = .ok (.bipush 24, 2) := by decide +kernel
theorem dX4_init_18 : decode cX4_init 18 = .ok (.newarray .int, 2) := by decide +kernel
theorem dX4_init_20 : decode cX4_init 20 = .ok (.putfield 16, 3) := by decide +kernel
theorem dX4_init_23 : decode cX4_init 23 = .ok (.aload_n 0, 1) := by decide +kernel
theorem dX4_init_24 : decode cX4_init 24 = .ok (.bipush 24, 2) := by decide +kernel
theorem dX4_init_26 : decode cX4_init 26 = .ok (.newarray .int, 2) := by decide +kernel
theorem dX4_init_28 : decode cX4_init 28 = .ok (.putfield 20, 3) := by decide +kernel
theorem dX4_init_31 : decode cX4_init 31 = .ok (.aload_n 0, 1) := by decide +kernel
theorem dX4_init_32 : decode cX4_init 32 = .ok (.bipush 24, 2) := by decide +kernel
theorem dX4_init_34 : decode cX4_init 34 = .ok (.newarray .int, 2) := by decide +kernel
theorem dX4_init_36 : decode cX4_init 36 = .ok (.putfield 23, 3) := by decide +kernel
theorem dX4_init_39 : decode cX4_init 39 = .ok (.aload_n 0, 1) := by decide +kernel
theorem dX4_init_40 : decode cX4_init 40 = .ok (.bipush 6, 2) := by decide +kernel
theorem dX4_init_42 : decode cX4_init 42 = .ok (.newarray .int, 2) := by decide +kernel
theorem dX4_init_44 : decode cX4_init 44 = .ok (.putfield 26, 3) := by decide +kernel
theorem dX4_init_47 : decode cX4_init 47 = .ok (.aload_n 0, 1) := by decide +kernel
theorem dX4_init_48 : decode cX4_init 48 = .ok (.bipush 6, 2) := by decide +kernel
theorem dX4_init_50 : decode cX4_init 50 = .ok (.newarray .int, 2) := by decide +kernel
theorem dX4_init_52 : decode cX4_init 52 = .ok (.putfield 29, 3) := by decide +kernel
theorem dX4_init_55 : decode cX4_init 55 = .ok (.aload_n 0, 1) := by decide +kernel
theorem dX4_init_56 : decode cX4_init 56 = .ok (.bipush 6, 2) := by decide +kernel
theorem dX4_init_58 : decode cX4_init 58 = .ok (.newarray .int, 2) := by decide +kernel
theorem dX4_init_60 : decode cX4_init 60 = .ok (.putfield 32, 3) := by decide +kernel
theorem dX4_init_63 : decode cX4_init 63 = .ok (.aload_n 0, 1) := by decide +kernel
theorem dX4_init_64 : decode cX4_init 64 = .ok (.bipush 27, 2) := by decide +kernel
theorem dX4_init_66 : decode cX4_init 66 = .ok (.newarray .int, 2) := by decide +kernel
theorem dX4_init_68 : decode cX4_init 68 = .ok (.putfield 35, 3) := by decide +kernel
theorem dX4_init_71 : decode cX4_init 71 = .ok (.return_, 1) := by decide +kernel
theorem dX4_setCall_0 : decode cX4_setCall 0 = .ok (.aload_n 0, 1) := by decide +kernel
theorem dX4_setCall_1 : decode cX4_setCall 1 = .ok (.getfield 16, 3) := by decide +kernel
theorem dX4_setCall_4 : decode cX4_setCall 4 = .ok (.iload_n 1, 1) := by decide +kernel
theorem dX4_setCall_5 : decode cX4_setCall 5 = .ok (.iload_n 2, 1) := by decide +kernel
theorem dX4_setCall_6 : decode cX4_setCall 6 = .ok (.iastore, 1) := by decide +kernel
theorem dX4_setCall_7 : decode cX4_setCall 7 = .ok (.aload_n 0, 1) := by decide +kernel
theorem dX4_setCall_8 : decode cX4_setCall 8 = .ok (.getfield 20, 3) := by decide +kernel
theorem dX4_setCall_11 : decode cX4_setCall 11 = .ok (.iload_n 1, 1) := by decide +kernel
theorem dX4_setCall_12 : decode cX4_setCall 12 = .ok (.iload_n 3, 1) := by decide +kernel
theorem dX4_setCall_13 : decode cX4_setCall 13 = .ok (.iastore, 1) := by decide +kernel
theorem dX4_setCall_14 : decode cX4_setCall 14 = .ok (.aload_n 0, 1) := by decide +kernel
theorem dX4_setCall_15 : decode cX4_setCall 15 = .ok (.getfield 23, 3) := by decide +kernel
theorem dX4_setCall_18 : decode cX4_setCall 18 = .ok (.iload_n 1, 1) := by decide +kernel
theorem dX4_setCall_19 : decode cX4_setCall 19 = .ok (.iload 4, 2) := by decide +kernel
theorem dX4_setCall_21 : decode cX4_setCall 21 = .ok (.iastore, 1) := by decide +kernel
theorem dX4_setCall_22 : decode cX4_setCall 22 = .ok (.return_, 1) := by decide +kernel
theorem dX4_dropCalls_0 : decode cX4_dropCalls 0 = .ok (.iconst 0, 1) := by decide +kernel
theorem dX4_dropCalls_1 : decode cX4_dropCalls 1 = .ok (.istore_n 2, 1) := by decide +kernel
theorem dX4_dropCalls_2 : decode cX4_dropCalls 2 = .ok (.iconst 0, 1) := by decide +kernel
theorem dX4_dropCalls_3 : decode cX4_dropCalls 3 = .ok (.istore_n 3, 1) := by decide +kernel
theorem dX4_dropCalls_4 : decode cX4_dropCalls 4 = .ok (.iload_n 3, 1) := by decide +kernel
theorem dX4_dropCalls_5 : decode cX4_dropCalls 5 = .ok (.aload_n 0, 1) := by decide +kernel
theorem dX4_dropCalls_6 : decode cX4_dropCalls 6 = .ok (.getfield 42, 3) := by decide +kernel
theorem dX4_dropCalls_9 : decode cX4_dropCalls 9 = .ok (.if_icmp .ge 48, 3) := by decide +kernel
theorem dX4_dropCalls_12 : decode cX4_dropCalls 12 = .ok (.aload_n 0, 1) := by decide +kernel
theorem dX4_dropCalls_13 : decode cX4_dropCalls 13 = .ok (.getfield 20, 3) := by decide +kernel
theorem dX4_dropCalls_16 : decode cX4_dropCalls 16 = .ok (.iload_n 3, 1) := by decide +kernel
theorem dX4_dropCalls_17 : decode cX4_dropCalls 17 = .ok (.iaload, 1) := by decide +kernel
theorem dX4_dropCalls_18 : decode cX4_dropCalls 18 = .ok (.iload_n 1, 1) := by decide +kernel
theorem dX4_dropCalls_19 : decode cX4_dropCalls 19 = .ok (.if_icmp .lt 6, 3) := by decide +kernel
theorem dX4_dropCalls_22 : decode cX4_dropCalls 22 = .ok (.goto 29, 3) := by decide +kernel
theorem dX4_dropCalls_25 : decode cX4_dropCalls 25 = .ok (.aload_n 0, 1) := by decide +kernel
theorem dX4_dropCalls_26 : decode cX4_dropCalls 26 = .ok (.iload_n 2, 1) := by decide +kernel
theorem dX4_dropCalls_27 : decode cX4_dropCalls 27 = .ok (.aload_n 0, 1) := by decide +kernel
theorem dX4_dropCalls_28 : decode cX4_dropCalls 28 = .ok (.getfield 16, 3) := by decide +kernel
theorem dX4_dropCalls_31 : decode cX4_dropCalls 31 = .ok (.iload_n 3, 1) := by decide +kernel
theorem dX4_dropCalls_32 : decode cX4_dropCalls 32 = .ok (.iaload, 1) := by decide +kernel
theorem dX4_dropCalls_33 : decode cX4_dropCalls 33 = .ok (.aload_n 0, 1) := by decide +kernel
theorem dX4_dropCalls_34 : decode cX4_dropCalls 34 = .ok (.getfield 20, 3) := by decide +kernel
theorem dX4_dropCalls_37 : decode cX4_dropCalls 37 = .ok (.iload_n 3, 1) := by decide +kernel
theorem dX4_dropCalls_38 : decode cX4_dropCalls 38 = .ok (.iaload, 1) := by decide +kernel
theorem dX4_dropCalls_39 : decode cX4_dropCalls 39 = .ok (.aload_n 0, 1) := by decide +kernel
theorem dX4_dropCalls_40 : decode cX4_dropCalls 40 = .ok (.getfield 23, 3) := by decide +kernel
theorem dX4_dropCalls_43 : decode cX4_dropCalls 43 = .ok (.iload_n 3, 1) := by decide +kernel
theorem dX4_dropCalls_44 : decode cX4_dropCalls 44 = .ok (.iaload, 1) := by decide +kernel
theorem dX4_dropCalls_45 : decode cX4_dropCalls 45 = .ok (.invokevirtual 45, 3) := by decide +kernel
theorem dX4_dropCalls_48 : decode cX4_dropCalls 48 = .ok (.iinc 2 1, 3) := by decide +kernel
theorem dX4_dropCalls_51 : decode cX4_dropCalls 51 = .ok (.iinc 3 1, 3) := by decide +kernel
theorem dX4_dropCalls_54 : decode cX4_dropCalls 54 = .ok (.goto (-50), 3) := by decide +kernel
theorem dX4_dropCalls_57 : decode cX4_dropCalls 57 = .ok (.aload_n 0, 1) := by decide +kernel
theorem dX4_dropCalls_58 : decode cX4_dropCalls 58 = .ok (.iload_n 2, 1) := by decide +kernel
theorem dX4_dropCalls_59 : decode cX4_dropCalls 59 = .ok (.putfield 42, 3) := by decide +kernel
theorem dX4_dropCalls_62 : decode cX4_dropCalls 62 = .ok (.return_, 1) := by decide +kernel
theorem dX5_init_0 : decode cX5_init 0 = .ok (.aload_n 0, 1) := by decide +kernel
theorem dX5_init_1 : decode cX5_init 1 = .ok (.invokespecial 3, 3) := by decide +kernel
theorem dX5_init_4 : decode cX5_init 4 = .ok (.aload_n 0, 1) := by decide +kernel
theorem dX5_init_5 : decode cX5_init 5 = .ok (.bipush 6, 2) := by decide +kernel
theorem dX5_init_7 : decode cX5_init 7 = .ok (.newarray .int, 2) := by decide +kernel
theorem dX5_init_9 : decode cX5_init 9 = .ok (.putfield 9, 3) := by decide +kernel
theorem dX5_init_12 : decode cX5_init 12 = .ok (.aload_n 0, 1) := by decide +kernel
theorem dX5_init_13 : decode cX5_init 13 = .ok (.new 15, 3) := by decide +kernel
theorem dX5_init_16 : decode cX5_init 16 = .ok (.dup, 1) := by decide +kernel
theorem dX5_init_17 : decode cX5_init 17 = .ok (.invokespecial 17, 3) := by decide +kernel
theorem dX5_init_20 : decode cX5_init 20 = .ok (.putfield 18, 3) := by decide +kernel
theorem dX5_init_23 : decode cX5_init 23 = .ok (.aload_n 0, 1) := by decide +kernel
theorem dX5_init_24 : decode cX5_init 24 = .ok (.new 15, 3) := by decide +kernel
theorem dX5_init_27 : decode cX5_init 27 = .ok (.dup, 1) := by decide +kernel
theorem dX5_init_28 : decode cX5_init 28 = .ok (.invokespecial 17, 3) := by decide +kernel
theorem dX5_init_31 : decode cX5_init 31 = .ok (.putfield 22, 3) := by decide +kernel
theorem dX5_init_34 : decode cX5_init 34 = .ok (.return_, 1) := by decide +kernel
theorem dX5_begin_0 : decode cX5_begin 0 = .ok (.iconst 0, 1) := by decide +kernel
theorem dX5_begin_1 : decode cX5_begin 1 = .ok (.istore_n 3, 1) := by decide +kernel
theorem dX5_begin_2 : decode cX5_begin 2 = .ok (.iload_n 3, 1) := by decide +kernel
theorem dX5_begin_3 : decode cX5_begin 3 = .ok (.bipush 6, 2) := by decide +kernel
theorem dX5_begin_5 : decode cX5_begin 5 = .ok (.if_icmp .ge 20, 3) := by decide +kernel
theorem dX5_begin_8 : decode cX5_begin 8 = .ok (.aload_n 0, 1) := by decide +kernel
theorem dX5_begin_9 : decode cX5_begin 9 = .ok (.getfield 9, 3) := by decide +kernel
theorem dX5_begin_12 : decode cX5_begin 12 = .ok (.iload_n 3, 1) := by decide +kernel
theorem dX5_begin_13 : decode cX5_begin 13 = .ok (.aload_n 1, 1) := by decide +kernel
theorem dX5_begin_14 : decode cX5_begin 14 = .ok (.iload_n 3, 1) := by decide +kernel
theorem dX5_begin_15 : decode cX5_begin 15 = .ok (.invokevirtual 25, 3) := by decide +kernel
theorem dX5_begin_18 : decode cX5_begin 18 = .ok (.iastore, 1) := by decide +kernel
theorem dX5_begin_19 : decode cX5_begin 19 = .ok (.iinc 3 1, 3) := by decide +kernel
theorem dX5_begin_22 : decode cX5_begin 22 = .ok (.goto (-20), 3) := by decide +kernel
theorem dX5_begin_25 : decode cX5_begin 25 = .ok (.aload_n 0, 1) := by decide +kernel
theorem dX5_begin_26 : decode cX5_begin 26 = .ok (.iload_n 2, 1) := by decide +kernel
theorem dX5_begin_27 : decode cX5_begin 27 = .ok (.putfield 31, 3) := by decide +kernel
theorem dX5_begin_30 : decode cX5_begin 30 = .ok (.aload_n 0, 1) := by decide +kernel
theorem dX5_begin_31 : decode cX5_begin 31 = .ok (.getfield 22, 3) := by decide +kernel
theorem dX5_begin_34 : decode cX5_begin 34 = .ok (.invokevirtual 35, 3) := by decide +kernel
theorem dX5_begin_37 : decode cX5_begin 37 = .ok (.return_, 1) := by decide +kernel
theorem dX5_judge_0 : decode cX5_judge 0 = .ok (.aload_n 0, 1) := by decide +kernel
theorem dX5_judge_1 : decode cX5_judge 1 = .ok (.aload_n 0, 1) := by decide +kernel
theorem dX5_judge_2 : decode cX5_judge 2 = .ok (.invokevirtual 38, 3) := by decide +kernel
theorem dX5_judge_5 : decode cX5_judge 5 = .ok (.putfield 42, 3) := by decide +kernel
theorem dX5_judge_8 : decode cX5_judge 8 = .ok (.aload_n 0, 1) := by decide +kernel
theorem dX5_judge_9 : decode cX5_judge 9 = .ok (.aload_n 1, 1) := by decide +kernel
theorem dX5_judge_10 : decode cX5_judge 10 = .ok (.aload_n 0, 1) := by decide +kernel
theorem dX5_judge_11 : decode cX5_judge 11 = .ok (.getfield 9, 3) := by decide +kernel
theorem dX5_judge_14 : decode cX5_judge 14 = .ok (.aload_n 0, 1) := by decide +kernel
theorem dX5_judge_15 : decode cX5_judge 15 = .ok (.getfield 18, 3) := by decide +kernel
theorem dX5_judge_18 : decode cX5_judge 18 = .ok (.invokevirtual 45, 3) := by decide +kernel
theorem dX5_judge_21 : decode cX5_judge 21 = .ok (.putfield 51, 3) := by decide +kernel
theorem dX5_judge_24 : decode cX5_judge 24 = .ok (.aload_n 0, 1) := by decide +kernel
theorem dX5_judge_25 : decode cX5_judge 25 = .ok (.getfield 42, 3) := by decide +kernel
theorem dX5_judge_28 : decode cX5_judge 28 = .ok (.istore 4, 2) := by decide +kernel
theorem dX5_judge_30 : decode cX5_judge 30 = .ok (.aload_n 0, 1) := by decide +kernel
theorem dX5_judge_31 : decode cX5_judge 31 = .ok (.getfield 31, 3) := by decide +kernel
theorem dX5_judge_34 : decode cX5_judge 34 = .ok (.ifCond .lt 69, 3) := by decide +kernel
theorem dX5_judge_37 : decode cX5_judge 37 = .ok (.aload_n 0, 1) := by decide +kernel
theorem dX5_judge_38 : decode cX5_judge 38 = .ok (.getfield 31, 3) := by decide +kernel
theorem dX5_judge_41 : decode cX5_judge 41 = .ok (.bipush 6, 2) := by decide +kernel
theorem dX5_judge_43 : decode cX5_judge 43 = .ok (.if_icmp .ge 60, 3) := by decide +kernel
theorem dX5_judge_46 : decode cX5_judge 46 = .ok (.aload_n 0, 1) := by decide +kernel
theorem dX5_judge_47 : decode cX5_judge 47 = .ok (.getfield 9, 3) := by decide +kernel
theorem dX5_judge_50 : decode cX5_judge 50 = .ok (.aload_n 0, 1) := by decide +kernel
theorem dX5_judge_51 : decode cX5_judge 51 = .ok (.getfield 31, 3) := by decide +kernel
theorem dX5_judge_54 : decode cX5_judge 54 = .ok (.dup2, 1) := by decide +kernel
theorem dX5_judge_55 : decode cX5_judge 55 = .ok (.iaload, 1) := by decide +kernel
theorem dX5_judge_56 : decode cX5_judge 56 = .ok (.iconst 1, 1) := by decide +kernel
theorem dX5_judge_57 : decode cX5_judge 57 = .ok (.iadd, 1) := by decide +kernel
theorem dX5_judge_58 : decode cX5_judge 58 = .ok (.iastore, 1) := by decide +kernel
theorem dX5_judge_59 : decode cX5_judge 59 = .ok (.iload 4, 2) := by decide +kernel
theorem dX5_judge_61 : decode cX5_judge 61 = .ok (.aload_n 0, 1) := by decide +kernel
theorem dX5_judge_62 : decode cX5_judge 62 = .ok (.invokevirtual 38, 3) := by decide +kernel
theorem dX5_judge_65 : decode cX5_judge 65 = .ok (.invokestatic 54, 3) := by decide +kernel
theorem dX5_judge_68 : decode cX5_judge 68 = .ok (.istore 4, 2) := by decide +kernel
theorem dX5_judge_70 : decode cX5_judge 70 = .ok (.aload_n 0, 1) := by decide +kernel
theorem dX5_judge_71 : decode cX5_judge 71 = .ok (.aload_n 0, 1) := by decide +kernel
theorem dX5_judge_72 : decode cX5_judge 72 = .ok (.getfield 51, 3) := by decide +kernel
theorem dX5_judge_75 : decode cX5_judge 75 = .ok (.aload_n 1, 1) := by decide +kernel
theorem dX5_judge_76 : decode cX5_judge 76 = .ok (.aload_n 0, 1) := by decide +kernel
theorem dX5_judge_77 : decode cX5_judge 77 = .ok (.getfield 9, 3) := by decide +kernel
theorem dX5_judge_80 : decode cX5_judge 80 = .ok (.aload_n 3, 1) := by decide +kernel
theorem dX5_judge_81 : decode cX5_judge 81 = .ok (.invokevirtual 45, 3) := by decide +kernel
theorem dX5_judge_84 : decode cX5_judge 84 = .ok (.invokestatic 54, 3) := by decide +kernel
theorem dX5_judge_87 : decode cX5_judge 87 = .ok (.putfield 51, 3) := by decide +kernel
theorem dX5_judge_90 : decode cX5_judge 90 = .ok (.aload_n 0, 1) := by decide +kernel
theorem dX5_judge_91 : decode cX5_judge 91 = .ok (.getfield 9, 3) := by decide +kernel
theorem dX5_judge_94 : decode cX5_judge 94 = .ok (.aload_n 0, 1) := by decide +kernel
theorem dX5_judge_95 : decode cX5_judge 95 = .ok (.getfield 31, 3) := by decide +kernel
theorem dX5_judge_98 : decode cX5_judge 98 = .ok (.dup2, 1) := by decide +kernel
theorem dX5_judge_99 : decode cX5_judge 99 = .ok (.iaload, 1) := by decide +kernel
theorem dX5_judge_100 : decode cX5_judge 100 = .ok (.iconst 1, 1) := by decide +kernel
theorem dX5_judge_101 : decode cX5_judge 101 = .ok (.isub, 1) := by decide +kernel
theorem dX5_judge_102 : decode cX5_judge 102 = .ok (.iastore, 1) := by decide +kernel
theorem dX5_judge_103 : decode cX5_judge 103 = .ok (.aload_n 0, 1) := by decide +kernel
theorem dX5_judge_104 : decode cX5_judge 104 = .ok (.iload 4, 2) := by decide +kernel
theorem dX5_judge_106 : decode cX5_judge 106 = .ok (.iload_n 2, 1) := by decide +kernel
theorem dX5_judge_107 : decode cX5_judge 107 = .ok (.isub, 1) := by decide +kernel
theorem dX5_judge_108 : decode cX5_judge 108 = .ok (.putfield 60, 3) := by decide +kernel
theorem dX5_judge_111 : decode cX5_judge 111 = .ok (.aload_n 0, 1) := by decide +kernel
theorem dX5_judge_112 : decode cX5_judge 112 = .ok (.getfield 51, 3) := by decide +kernel
theorem dX5_judge_115 : decode cX5_judge 115 = .ok (.ifCond .le 11, 3) := by decide +kernel
theorem dX5_judge_118 : decode cX5_judge 118 = .ok (.aload_n 0, 1) := by decide +kernel
theorem dX5_judge_119 : decode cX5_judge 119 = .ok (.iconst 3, 1) := by decide +kernel
theorem dX5_judge_120 : decode cX5_judge 120 = .ok (.putfield 63, 3) := by decide +kernel
theorem dX5_judge_123 : decode cX5_judge 123 = .ok (.goto 36, 3) := by decide +kernel
theorem dX5_judge_126 : decode cX5_judge 126 = .ok (.aload_n 0, 1) := by decide +kernel
theorem dX5_judge_127 : decode cX5_judge 127 = .ok (.getfield 60, 3) := by decide +kernel
theorem dX5_judge_130 : decode cX5_judge 130 = .ok (.ifCond .le 11, 3) := by decide +kernel
theorem dX5_judge_133 : decode cX5_judge 133 = .ok (.aload_n 0, 1) := by decide +kernel
theorem dX5_judge_134 : decode cX5_judge 134 = .ok (.iconst 2, 1) := by decide +kernel
theorem dX5_judge_135 : decode cX5_judge 135 = .ok (.putfield 63, 3) := by decide +kernel
theorem dX5_judge_138 : decode cX5_judge 138 = .ok (.goto 21, 3) := by decide +kernel
theorem dX5_judge_141 : decode cX5_judge 141 = .ok (.aload_n 0, 1) := by decide +kernel
theorem dX5_judge_142 : decode cX5_judge 142 = .ok (.aload_n 0, 1) := by decide +kernel
theorem dX5_judge_143 : decode cX5_judge 143 = .ok (.getfield 31, 3) := by decide +kernel
theorem dX5_judge_146 : decode cX5_judge 146 = .ok (.bipush (-9), 2) := by decide +kernel
theorem dX5_judge_148 : decode cX5_judge 148 = .ok (.if_icmp .ne 7, 3) := by decide +kernel
theorem dX5_judge_151 : decode cX5_judge 151 = .ok (.iconst 1, 1) := by decide +kernel
theorem dX5_judge_152 : decode cX5_judge 152 = .ok (.goto 4, 3) := by decide +kernel
theorem dX5_judge_155 : decode cX5_judge 155 = .ok (.iconst 4, 1) := by decide +kernel
theorem dX5_judge_156 : decode cX5_judge 156 = .ok (.putfield 63, 3) := by decide +kernel
theorem dX5_judge_159 : decode cX5_judge 159 = .ok (.return_, 1) := by decide +kernel
theorem dX5_weigh_0 : decode cX5_weigh 0 = .ok (.iconst 0, 1) := by decide +kernel
theorem dX5_weigh_1 : decode cX5_weigh 1 = .ok (.istore_n 1, 1) := by decide +kernel
theorem dX5_weigh_2 : decode cX5_weigh 2 = .ok (.iconst 0, 1) := by decide +kernel
theorem dX5_weigh_3 : decode cX5_weigh 3 = .ok (.istore_n 2, 1) := by decide +kernel
theorem dX5_weigh_4 : decode cX5_weigh 4 = .ok (.iload_n 2, 1) := by decide +kernel
theorem dX5_weigh_5 : decode cX5_weigh 5 = .ok (.bipush 6, 2) := by decide +kernel
theorem dX5_weigh_7 : decode cX5_weigh 7 = .ok (.if_icmp .ge 21, 3) := by decide +kernel
theorem dX5_weigh_10 : decode cX5_weigh 10 = .ok (.iload_n 1, 1) := by decide +kernel
theorem dX5_weigh_11 : decode cX5_weigh 11 = .ok (.aload_n 0, 1) := by decide +kernel
theorem dX5_weigh_12 : decode cX5_weigh 12 = .ok (.getfield 9, 3) := by decide +kernel
theorem dX5_weigh_15 : decode cX5_weigh 15 = .ok (.iload_n 2, 1) := by decide +kernel
theorem dX5_weigh_16 : decode cX5_weigh 16 = .ok (.iaload, 1) := by decide +kernel
theorem dX5_weigh_17 : decode cX5_weigh 17 = .ok (.invokestatic 66, 3) := by decide +kernel
theorem dX5_weigh_20 : decode cX5_weigh 20 = .ok (.iadd, 1) := by decide +kernel
theorem dX5_weigh_21 : decode cX5_weigh 21 = .ok (.istore_n 1, 1) := by decide +kernel
theorem dX5_weigh_22 : decode cX5_weigh 22 = .ok (.iinc 2 1, 3) := by decide +kernel
theorem dX5_weigh_25 : decode cX5_weigh 25 = .ok (.goto (-21), 3) := by decide +kernel
theorem dX5_weigh_28 : decode cX5_weigh 28 = .ok (.iload_n 1, 1) := by decide +kernel
theorem dX5_weigh_29 : decode cX5_weigh 29 = .ok (.ireturn, 1) := by decide +kernel
theorem dX5_isHeld_0 : decode cX5_isHeld 0 = .ok (.aload_n 0, 1) := by decide +kernel
theorem dX5_isHeld_1 : decode cX5_isHeld 1 = .ok (.getfield 63, 3) := by decide +kernel
theorem dX5_isHeld_4 : decode cX5_isHeld 4 = .ok (.iconst 1, 1) := by decide +kernel
theorem dX5_isHeld_5 : decode cX5_isHeld 5 = .ok (.if_icmp .eq 19, 3) := by decide +kernel
theorem dX5_isHeld_8 : decode cX5_isHeld 8 = .ok (.aload_n 0, 1) := by decide +kernel
theorem dX5_isHeld_9 : decode cX5_isHeld 9 = .ok (.getfield 63, 3) := by decide +kernel
theorem dX5_isHeld_12 : decode cX5_isHeld 12 = .ok (.iconst 4, 1) := by decide +kernel
theorem dX5_isHeld_13 : decode cX5_isHeld 13 = .ok (.if_icmp .eq 11, 3) := by decide +kernel
theorem dX5_isHeld_16 : decode cX5_isHeld 16 = .ok (.aload_n 0, 1) := by decide +kernel
theorem dX5_isHeld_17 : decode cX5_isHeld 17 = .ok (.getfield 63, 3) := by decide +kernel
theorem dX5_isHeld_20 : decode cX5_isHeld 20 = .ok (.iconst 5, 1) := by decide +kernel
theorem dX5_isHeld_21 : decode cX5_isHeld 21 = .ok (.if_icmp .ne 7, 3) := by decide +kernel
theorem dX5_isHeld_24 : decode cX5_isHeld 24 = .ok (.iconst 1, 1) := by decide +kernel
theorem dX5_isHeld_25 : decode cX5_isHeld 25 = .ok (.goto 4, 3) := by decide +kernel
theorem dX5_isHeld_28 : decode cX5_isHeld 28 = .ok (.iconst 0, 1) := by decide +kernel
theorem dX5_isHeld_29 : decode cX5_isHeld 29 = .ok (.ireturn, 1) := by decide +kernel
theorem dX5_shadow_0 : decode cX5_shadow 0 = .ok (.aload_n 1, 1) := by decide +kernel
theorem dX5_shadow_1 : decode cX5_shadow 1 = .ok (.aload_n 0, 1) := by decide +kernel
theorem dX5_shadow_2 : decode cX5_shadow 2 = .ok (.getfield 18, 3) := by decide +kernel
theorem dX5_shadow_5 : decode cX5_shadow 5 = .ok (.getfield 69, 3) := by decide +kernel
theorem dX5_shadow_8 : decode cX5_shadow 8 = .ok (.aload_n 0, 1) := by decide +kernel
theorem dX5_shadow_9 : decode cX5_shadow 9 = .ok (.getfield 18, 3) := by decide +kernel
theorem dX5_shadow_12 : decode cX5_shadow 12 = .ok (.getfield 73, 3) := by decide +kernel
theorem dX5_shadow_15 : decode cX5_shadow 15 = .ok (.aload_n 2, 1) := by decide +kernel
theorem dX5_shadow_16 : decode cX5_shadow 16 = .ok (.invokevirtual 76, 3) := by decide +kernel
theorem dX5_shadow_19 : decode cX5_shadow 19 = .ok (.aload_n 0, 1) := by decide +kernel
theorem dX5_shadow_20 : decode cX5_shadow 20 = .ok (.getfield 63, 3) := by decide +kernel
theorem dX5_shadow_23 : decode cX5_shadow 23 = .ok (.iconst 5, 1) := by decide +kernel
theorem dX5_shadow_24 : decode cX5_shadow 24 = .ok (.if_icmp .ne 21, 3) := by decide +kernel
theorem dX5_shadow_27 : decode cX5_shadow 27 = .ok (.aload_n 2, 1) := by decide +kernel
theorem dX5_shadow_28 : decode cX5_shadow 28 = .ok (.aload_n 0, 1) := by decide +kernel
theorem dX5_shadow_29 : decode cX5_shadow 29 = .ok (.getfield 22, 3) := by decide +kernel
theorem dX5_shadow_32 : decode cX5_shadow 32 = .ok (.getfield 69, 3) := by decide +kernel
theorem dX5_shadow_35 : decode cX5_shadow 35 = .ok (.aload_n 0, 1) := by decide +kernel
theorem dX5_shadow_36 : decode cX5_shadow 36 = .ok (.getfield 22, 3) := by decide +kernel
theorem dX5_shadow_39 : decode cX5_shadow 39 = .ok (.getfield 73, 3) := by decide +kernel
theorem dX5_shadow_42 : decode cX5_shadow 42 = .ok (.invokevirtual 82, 3) := by decide +kernel
theorem dX5_shadow_45 : decode cX5_shadow 45 = .ok (.return_, 1) := by decide +kernel
theorem dX6_init_0 : decode cX6_init 0 = .ok (.aload_n 0, 1) := by decide +kernel
theorem dX6_init_1 : decode cX6_init 1 = .ok (.invokespecial 3, 3) := by decide +kernel
theorem dX6_init_4 : decode cX6_init 4 = .ok (.aload_n 0, 1) := by decide +kernel
theorem dX6_init_5 : decode cX6_init 5 = .ok (.iconst 1, 1) := by decide +kernel
theorem dX6_init_6 : decode cX6_init 6 = .ok (.putfield 9, 3) := by decide +kernel
theorem dX6_init_9 : decode cX6_init 9 = .ok (.aload_n 0, 1) := by decide +kernel
theorem dX6_init_10 : decode cX6_init 10 = .ok (.bipush 6, 2) := by decide +kernel
theorem dX6_init_12 : decode cX6_init 12 = .ok (.newarray .int, 2) := by decide +kernel
theorem dX6_init_14 : decode cX6_init 14 = .ok (.putfield 15, 3) := by decide +kernel
theorem dX6_init_17 : decode cX6_init 17 = .ok (.aload_n 0, 1) := by decide +kernel
theorem dX6_init_18 : decode cX6_init 18 = .ok (.bipush 6, 2) := by decide +kernel
theorem dX6_init_20 : decode cX6_init 20 = .ok (.newarray .int, 2) := by decide +kernel
theorem dX6_init_22 : decode cX6_init 22 = .ok (.putfield 19, 3) := by decide +kernel
theorem dX6_init_25 : decode cX6_init 25 = .ok (.aload_n 0, 1) := by decide +kernel
theorem dX6_init_26 : decode cX6_init 26 = .ok (.sipush 4096, 3) := by decide +kernel
theorem dX6_init_29 : decode cX6_init 29 = .ok (.newarray .byte, 2) := by decide +kernel
theorem dX6_init_31 : decode cX6_init 31 = .ok (.putfield 22, 3) := by decide +kernel
theorem dX6_init_34 : decode cX6_init 34 = .ok (.aload_n 0, 1) := by decide +kernel
theorem dX6_init_35 : decode cX6_init 35 = .ok (.sipush 4096, 3) := by decide +kernel
theorem dX6_init_38 : decode cX6_init 38 = .ok (.newarray .long, 2) := by decide +kernel
theorem dX6_init_40 : decode cX6_init 40 = .ok (.putfield 26, 3) := by decide +kernel
theorem dX6_init_43 : decode cX6_init 43 = .ok (.aload_n 0, 1) := by decide +kernel
theorem dX6_init_44 : decode cX6_init 44 = .ok (.sipush 4096, 3) := by decide +kernel
theorem dX6_init_47 : decode cX6_init 47 = .ok (.newarray .long, 2) := by decide +kernel
theorem dX6_init_49 : decode cX6_init 49 = .ok (.putfield 30, 3) := by decide +kernel
theorem dX6_init_52 : decode cX6_init 52 = .ok (.aload_n 0, 1) := by decide +kernel
theorem dX6_init_53 : decode cX6_init 53 = .ok (.sipush 4096, 3) := by decide +kernel
theorem dX6_init_56 : decode cX6_init 56 = .ok (.newarray .long, 2) := by decide +kernel
theorem dX6_init_58 : decode cX6_init 58 = .ok (.putfield 33, 3) := by decide +kernel
theorem dX6_init_61 : decode cX6_init 61 = .ok (.aload_n 0, 1) := by decide +kernel
theorem dX6_init_62 : decode cX6_init 62 = .ok (.sipush 4096, 3) := by decide +kernel
theorem dX6_init_65 : decode cX6_init 65 = .ok (.newarray .long, 2) := by decide +kernel
theorem dX6_init_67 : decode cX6_init 67 = .ok (.putfield 36, 3) := by decide +kernel
theorem dX6_init_70 : decode cX6_init 70 = .ok (.aload_n 0, 1) := by decide +kernel
theorem dX6_init_71 : decode cX6_init 71 = .ok (.bipush 6, 2) := by decide +kernel
theorem dX6_init_73 : decode cX6_init 73 = .ok (.newarray .int, 2) := by decide +kernel
theorem dX6_init_75 : decode cX6_init 75 = .ok (.putfield 39, 3) := by decide +kernel
theorem dX6_init_78 : decode cX6_init 78 = .ok (.aload_n 0, 1) := by decide +kernel
theorem dX6_init_79 : decode cX6_init 79 = .ok (.sipush 750, 3) := by decide +kernel
theorem dX6_init_82 : decode cX6_init 82 = .ok (.newarray .byte, 2) := by decide +kernel
theorem dX6_init_84 : decode cX6_init 84 = .ok (.putfield 42, 3) := by decide +kernel
theorem dX6_init_87 : decode cX6_init 87 = .ok (.aload_n 0, 1) := by decide +kernel
theorem dX6_init_88 : decode cX6_init 88 = .ok (.sipush 750, 3) := by decide +kernel
theorem dX6_init_91 : decode cX6_init 91 = .ok (.newarray .long, 2) := by decide +kernel
theorem dX6_init_93 : decode cX6_init 93 = .ok (.putfield 45, 3) := by decide +kernel
theorem dX6_init_96 : decode cX6_init 96 = .ok (.aload_n 0, 1) := by decide +kernel
theorem dX6_init_97 : decode cX6_init 97 = .ok (.sipush 750, 3) := by decide +kernel
theorem dX6_init_100 : decode cX6_init 100 = .ok (.newarray .long, 2) := by decide +kernel
theorem dX6_init_102 : decode cX6_init 102 = .ok (.putfield 48, 3) := by decide +kernel
theorem dX6_init_105 : decode cX6_init 105 = .ok (.aload_n 0, 1) := by decide +kernel
theorem dX6_init_106 : decode cX6_init 106 = .ok (.bipush 125, 2) := by decide +kernel
theorem dX6_init_108 : decode cX6_init 108 = .ok (.newarray .long, 2) := by decide +kernel
theorem dX6_init_110 : decode cX6_init 110 = .ok (.putfield 51, 3) := by decide +kernel
theorem dX6_init_113 : decode cX6_init 113 = .ok (.aload_n 0, 1) := by decide +kernel
theorem dX6_init_114 : decode cX6_init 114 = .ok (.bipush 125, 2) := by decide +kernel
theorem dX6_init_116 : decode cX6_init 116 = .ok (.newarray .long, 2) := by decide +kernel
theorem dX6_init_118 : decode cX6_init 118 = .ok (.putfield 54, 3) := by decide +kernel
theorem dX6_init_121 : decode cX6_init 121 = .ok (.aload_n 0, 1) := by decide +kernel
theorem dX6_init_122 : decode cX6_init 122 = .ok (.bipush 6, 2) := by decide +kernel
theorem dX6_init_124 : decode cX6_init 124 = .ok (.newarray .int, 2) := by decide +kernel
theorem dX6_init_126 : decode cX6_init 126 = .ok (.putfield 57, 3) := by decide +kernel
theorem dX6_init_129 : decode cX6_init 129 = .ok (.aload_n 0, 1) := by decide +kernel
theorem dX6_init_130 : decode cX6_init 130 = .ok (.new 60, 3) := by decide +kernel
theorem dX6_init_133 : decode cX6_init 133 = .ok (.dup, 1) := by decide +kernel
theorem dX6_init_134 : decode cX6_init 134 = .ok (.invokespecial 62, 3) := by decide +kernel
theorem dX6_init_137 : decode cX6_init 137 = .ok (.putfield 63, 3) := by decide +kernel
theorem dX6_init_140 : decode cX6_init 140 = .ok (.return_, 1) := by decide +kernel
theorem dX6_learn_0 : decode cX6_learn 0 = .ok (.iconst 1, 1) := by decide +kernel
theorem dX6_learn_1 : decode cX6_learn 1 = .ok (.istore_n 2, 1) := by decide +kernel
theorem dX6_learn_2 : decode cX6_learn 2 = .ok (.aload_n 1, 1) := by decide +kernel
theorem dX6_learn_3 : decode cX6_learn 3 = .ok (.getfield 67, 3) := by decide +kernel
theorem dX6_learn_6 : decode cX6_learn 6 = .ok (.iconst 1, 1) := by decide +kernel
theorem dX6_learn_7 : decode cX6_learn 7 = .ok (.isub, 1) := by decide +kernel
theorem dX6_learn_8 : decode cX6_learn 8 = .ok (.istore_n 3, 1) := by decide +kernel
theorem dX6_learn_9 : decode cX6_learn 9 = .ok (.iload_n 3, 1) := by decide +kernel
theorem dX6_learn_10 : decode cX6_learn 10 = .ok (.ifCond .lt 36, 3) := by decide +kernel
theorem dX6_learn_13 : decode cX6_learn 13 = .ok (.aload_n 0, 1) := by decide +kernel
theorem dX6_learn_14 : decode cX6_learn 14 = .ok (.getfield 15, 3) := by decide +kernel
theorem dX6_learn_17 : decode cX6_learn 17 = .ok (.iload_n 3, 1) := by decide +kernel
theorem dX6_learn_18 : decode cX6_learn 18 = .ok (.iload_n 2, 1) := by decide +kernel
theorem dX6_learn_19 : decode cX6_learn 19 = .ok (.iastore, 1) := by decide +kernel
theorem dX6_learn_20 : decode cX6_learn 20 = .ok (.aload_n 0, 1) := by decide +kernel
theorem dX6_learn_21 : decode cX6_learn 21 = .ok (.getfield 19, 3) := by decide +kernel
theorem dX6_learn_24 : decode cX6_learn 24 = .ok (.iload_n 3, 1) := by decide +kernel
theorem dX6_learn_25 : decode cX6_learn 25 = .ok (.aload_n 1, 1) := by decide +kernel
theorem dX6_learn_26 : decode cX6_learn 26 = .ok (.iload_n 3, 1) := by decide +kernel
theorem dX6_learn_27 : decode cX6_learn 27 = .ok (.invokevirtual 72, 3) := by decide +kernel
theorem dX6_learn_30 : decode cX6_learn 30 = .ok (.iastore, 1) := by decide +kernel
theorem dX6_learn_31 : decode cX6_learn 31 = .ok (.iload_n 2, 1) := by decide +kernel
theorem dX6_learn_32 : decode cX6_learn 32 = .ok (.aload_n 0, 1) := by decide +kernel
theorem dX6_learn_33 : decode cX6_learn 33 = .ok (.getfield 19, 3) := by decide +kernel
theorem dX6_learn_36 : decode cX6_learn 36 = .ok (.iload_n 3, 1) := by decide +kernel
theorem dX6_learn_37 : decode cX6_learn 37 = .ok (.iaload, 1) := by decide +kernel
theorem dX6_learn_38 : decode cX6_learn 38 = .ok (.imul, 1) := by decide +kernel
theorem dX6_learn_39 : decode cX6_learn 39 = .ok (.istore_n 2, 1) := by decide +kernel
theorem dX6_learn_40 : decode cX6_learn 40 = .ok (.iinc 3 (-1), 3) := by decide +kernel
theorem dX6_learn_43 : decode cX6_learn 43 = .ok (.goto (-34), 3) := by decide +kernel
theorem dX6_learn_46 : decode cX6_learn 46 = .ok (.iconst 0, 1) := by decide +kernel
theorem dX6_learn_47 : decode cX6_learn 47 = .ok (.istore_n 3, 1) := by decide +kernel
theorem dX6_learn_48 : decode cX6_learn 48 = .ok (.iload_n 3, 1) := by decide +kernel
theorem dX6_learn_49 : decode cX6_learn 49 = .ok (.aload_n 1, 1) := by decide +kernel
theorem dX6_learn_50 : decode cX6_learn 50 = .ok (.getfield 75, 3) := by decide +kernel
theorem dX6_learn_53 : decode cX6_learn 53 = .ok (.if_icmp .ge 15, 3) := by decide +kernel
theorem dX6_learn_56 : decode cX6_learn 56 = .ok (.aload_n 0, 1) := by decide +kernel
theorem dX6_learn_57 : decode cX6_learn 57 = .ok (.aload_n 1, 1) := by decide +kernel
theorem dX6_learn_58 : decode cX6_learn 58 = .ok (.iload_n 3, 1) := by decide +kernel
theorem dX6_learn_59 : decode cX6_learn 59 = .ok (.invokevirtual 78, 3) := by decide +kernel
theorem dX6_learn_62 : decode cX6_learn 62 = .ok (.iinc 3 1, 3) := by decide +kernel
theorem dX6_learn_65 : decode cX6_learn 65 = .ok (.goto (-17), 3) := by decide +kernel
theorem dX6_learn_68 : decode cX6_learn 68 = .ok (.aload_n 0, 1) := by decide +kernel
theorem dX6_learn_69 : decode cX6_learn 69 = .ok (.iload_n 2, 1) := by decide +kernel
theorem dX6_learn_70 : decode cX6_learn 70 = .ok (.sipush 4096, 3) := by decide +kernel
theorem dX6_learn_73 : decode cX6_learn 73 = .ok (.if_icmp .le 7, 3) := by decide +kernel
theorem dX6_learn_76 : decode cX6_learn 76 = .ok (.iconst 1, 1) := by decide +kernel
theorem dX6_learn_77 : decode cX6_learn 77 = .ok (.goto 4, 3) := by decide +kernel
theorem dX6_learn_80 : decode cX6_learn 80 = .ok (.iconst 0, 1) := by decide +kernel
theorem dX6_learn_81 : decode cX6_learn 81 = .ok (.putfield 82, 3) := by decide +kernel
theorem dX6_learn_84 : decode cX6_learn 84 = .ok (.aload_n 0, 1) := by decide +kernel
theorem dX6_learn_85 : decode cX6_learn 85 = .ok (.getfield 82, 3) := by decide +kernel
theorem dX6_learn_88 : decode cX6_learn 88 = .ok (.ifCond .eq 11, 3) := by decide +kernel
theorem dX6_learn_91 : decode cX6_learn 91 = .ok (.aload_n 0, 1) := by decide +kernel
theorem dX6_learn_92 : decode cX6_learn 92 = .ok (.iconst 0, 1) := by decide +kernel
theorem dX6_learn_93 : decode cX6_learn 93 = .ok (.putfield 9, 3) := by decide +kernel
theorem dX6_learn_96 : decode cX6_learn 96 = .ok (.goto 9, 3) := by decide +kernel
theorem dX6_learn_99 : decode cX6_learn 99 = .ok (.aload_n 0, 1) := by decide +kernel
theorem dX6_learn_100 : decode cX6_learn 100 = .ok (.aload_n 1, 1) := by decide +kernel
theorem dX6_learn_101 : decode cX6_learn 101 = .ok (.iconst (-1), 1) := by decide +kernel
theorem dX6_learn_102 : decode cX6_learn 102 = .ok (.invokevirtual 86, 3) := by decide +kernel
theorem dX6_learn_105 : decode cX6_learn 105 = .ok (.return_, 1) := by decide +kernel
theorem dX6_learnFinger_0 : decode cX6_learnFinger 0 = .ok (.iconst 1, 1) := by decide +kernel
theorem dX6_learnFinger_1 : decode cX6_learnFinger 1 = .ok (.istore_n 3, 1) := by decide +kernel
theorem dX6_learnFinger_2 : decode cX6_learnFinger 2 = .ok (.iconst 0, 1) := by decide +kernel
theorem dX6_learnFinger_3 : decode cX6_learnFinger 3 = .ok (.istore 4, 2) := by decide +kernel
theorem dX6_learnFinger_5 : decode cX6_learnFinger 5 = .ok (.iload 4, 2) := by decide +kernel
theorem dX6_learnFinger_7 : decode cX6_learnFinger 7 = .ok (.aload_n 1, 1) := by decide +kernel
theorem dX6_learnFinger_8 : decode cX6_learnFinger 8 = .ok (.getfield 89, 3) := by decide +kernel
theorem dX6_learnFinger_11 : decode cX6_learnFinger 11 = .ok (.iload_n 2, 1) := by decide +kernel
theorem dX6_learnFinger_12 : decode cX6_learnFinger 12 = .ok (.iaload, 1) := by decide +kernel
theorem dX6_learnFinger_13 : decode cX6_learnFinger 13 = .ok (.if_icmp .ge 25, 3) := by decide +kernel
theorem dX6_learnFinger_16 : decode cX6_learnFinger 16 = .ok (.iload_n 3, 1) := by decide +kernel
theorem dX6_learnFinger_17 : decode cX6_learnFinger 17 = .ok (.aload_n 1, 1) := by decide +kernel
theorem dX6_learnFinger_18 : decode cX6_learnFinger 18 = .ok (.aload_n 1, 1) := by decide +kernel
theorem dX6_learnFinger_19 : decode cX6_learnFinger 19 = .ok (.getfield 92, 3) := by decide +kernel
theorem dX6_learnFinger_22 : decode cX6_learnFinger 22 = .ok (.iload_n 2, 1) := by decide +kernel
theorem dX6_learnFinger_23 : decode cX6_learnFinger 23 = .ok (.iaload, 1) := by decide +kernel
theorem dX6_learnFinger_24 : decode cX6_learnFinger 24 = .ok (.iload 4, 2) := by decide +kernel
theorem dX6_learnFinger_26 : decode cX6_learnFinger 26 = .ok (.iadd, 1) := by decide +kernel
theorem dX6_learnFinger_27 : decode cX6_learnFinger 27 = .ok (.invokevirtual 72, 3) := by decide +kernel
theorem dX6_learnFinger_30 : decode cX6_learnFinger 30 = .ok (.imul, 1) := by decide +kernel
theorem dX6_learnFinger_31 : decode cX6_learnFinger 31 = .ok (.istore_n 3, 1) := by decide +kernel
theorem dX6_learnFinger_32 : decode cX6_learnFinger 32 = .ok (.iinc 4 1, 3) := by decide +kernel
theorem dX6_learnFinger_35 : decode cX6_learnFinger 35 = .ok (.goto (-30), 3) := by decide +kernel
theorem dX6_learnFinger_38 : decode cX6_learnFinger 38 = .ok (.aload_n 0, 1) := by decide +kernel
theorem dX6_learnFinger_39 : decode cX6_learnFinger 39 = .ok (.getfield 39, 3) := by decide +kernel
theorem dX6_learnFinger_42 : decode cX6_learnFinger 42 = .ok (.iload_n 2, 1) := by decide +kernel
theorem dX6_learnFinger_43 : decode cX6_learnFinger 43 = .ok (.iload_n 3, 1) := by decide +kernel
theorem dX6_learnFinger_44 : decode cX6_learnFinger 44 = .ok (.bipush 125, 2) := by decide +kernel
theorem dX6_learnFinger_46 : decode cX6_learnFinger 46 = .ok (.invokestatic 95, 3) := by decide +kernel
theorem dX6_learnFinger_49 : decode cX6_learnFinger 49 = .ok (.iastore, 1) := by decide +kernel
theorem dX6_learnFinger_50 : decode cX6_learnFinger 50 = .ok (.iconst 0, 1) := by decide +kernel
theorem dX6_learnFinger_51 : decode cX6_learnFinger 51 = .ok (.istore 4, 2) := by decide +kernel
theorem dX6_learnFinger_53 : decode cX6_learnFinger 53 = .ok (.iload 4, 2) := by decide +kernel
theorem dX6_learnFinger_55 : decode cX6_learnFinger 55 = .ok (.aload_n 0, 1) := by decide +kernel
theorem dX6_learnFinger_56 : decode cX6_learnFinger 56 = .ok (.getfield 39, 3) := by decide +kernel
theorem dX6_learnFinger_59 : decode cX6_learnFinger 59 = .ok (.iload_n 2, 1) := by decide +kernel
theorem dX6_learnFinger_60 : decode cX6_learnFinger 60 = .ok (.iaload, 1) := by decide +kernel
theorem dX6_learnFinger_61 : decode cX6_learnFinger 61 = .ok (.if_icmp .ge 96, 3) := by decide +kernel
theorem dX6_learnFinger_64 : decode cX6_learnFinger 64 = .ok (.iload_n 2, 1) := by decide +kernel
theorem dX6_learnFinger_65 : decode cX6_learnFinger 65 = .ok (.bipush 125, 2) := by decide +kernel
theorem dX6_learnFinger_67 : decode cX6_learnFinger 67 = .ok (.imul, 1) := by decide +kernel
theorem dX6_learnFinger_68 : decode cX6_learnFinger 68 = .ok (.iload 4, 2) := by decide +kernel
theorem dX6_learnFinger_70 : decode cX6_learnFinger 70 = .ok (.iadd, 1) := by decide +kernel
theorem dX6_learnFinger_71 : decode cX6_learnFinger 71 = .ok (.istore 5, 2) := by decide +kernel
theorem dX6_learnFinger_73 : decode cX6_learnFinger 73 = .ok (.aload_n 0, 1) := by decide +kernel
theorem dX6_learnFinger_74 : decode cX6_learnFinger 74 = .ok (.getfield 42, 3) := by decide +kernel
theorem dX6_learnFinger_77 : decode cX6_learnFinger 77 = .ok (.iload 5, 2) := by decide +kernel
theorem dX6_learnFinger_79 : decode cX6_learnFinger 79 = .ok (.aload_n 1, 1) := by decide +kernel
theorem dX6_learnFinger_80 : decode cX6_learnFinger 80 = .ok (.iload_n 2, 1) := by decide +kernel
theorem dX6_learnFinger_81 : decode cX6_learnFinger 81 = .ok (.iload 4, 2) := by decide +kernel
theorem dX6_learnFinger_83 : decode cX6_learnFinger 83 = .ok (.aload_n 0, 1) := by decide +kernel
theorem dX6_learnFinger_84 : decode cX6_learnFinger 84 = .ok (.getfield 57, 3) := by decide +kernel
theorem dX6_learnFinger_87 : decode cX6_learnFinger 87 = .ok (.invokevirtual 101, 3) := by decide +kernel
theorem dX6_learnFinger_90 : decode cX6_learnFinger 90 = .ok (.i2b, 1) := by decide +kernel
theorem dX6_learnFinger_91 : decode cX6_learnFinger 91 = .ok (.bastore, 1) := by decide +kernel
theorem dX6_learnFinger_92 : decode cX6_learnFinger 92 = .ok (.aload_n 0, 1) := by decide +kernel
theorem dX6_learnFinger_93 : decode cX6_learnFinger 93 = .ok (.getfield 63, 3) := by decide +kernel
theorem dX6_learnFinger_96 : decode cX6_learnFinger 96 = .ok (.invokevirtual 105, 3) := by decide +kernel
theorem dX6_learnFinger_99 : decode cX6_learnFinger 99 = .ok (.aload_n 1, 1) := by decide +kernel
theorem dX6_learnFinger_100 : decode cX6_learnFinger 100 = .ok (.iload_n 2, 1) := by decide +kernel
theorem dX6_learnFinger_101 : decode cX6_learnFinger 101 = .ok (.aload_n 0, 1) := by decide +kernel
theorem dX6_learnFinger_102 : decode cX6_learnFinger 102 = .ok (.getfield 57, 3) := by decide +kernel
theorem dX6_learnFinger_105 : decode cX6_learnFinger 105 = .ok (.aload_n 0, 1) := by decide +kernel
theorem dX6_learnFinger_106 : decode cX6_learnFinger 106 = .ok (.getfield 63, 3) := by decide +kernel
theorem dX6_learnFinger_109 : decode cX6_learnFinger 109 = .ok (.invokevirtual 108, 3) := by decide +kernel
theorem dX6_learnFinger_112 : decode cX6_learnFinger 112 = .ok (.ifCond .le 11, 3) := by decide +kernel
theorem dX6_learnFinger_115 : decode cX6_learnFinger 115 = .ok (.aload_n 0, 1) := by decide +kernel
theorem dX6_learnFinger_116 : decode cX6_learnFinger 116 = .ok (.getfield 42, 3) := by decide +kernel
theorem dX6_learnFinger_119 : decode cX6_learnFinger 119 = .ok (.iload 5, 2) := by decide +kernel
theorem dX6_learnFinger_121 : decode cX6_learnFinger 121 = .ok (.iconst (-1), 1) := by decide +kernel
theorem dX6_learnFinger_122 : decode cX6_learnFinger 122 = .ok (.bastore, 1) := by decide +kernel
theorem dX6_learnFinger_123 : decode cX6_learnFinger 123 = .ok (.aload_n 0, 1) := by decide +kernel
theorem dX6_learnFinger_124 : decode cX6_learnFinger 124 = .ok (.getfield 45, 3) := by decide +kernel
theorem dX6_learnFinger_127 : decode cX6_learnFinger 127 = .ok (.iload 5, 2) := by decide +kernel
theorem dX6_learnFinger_129 : decode cX6_learnFinger 129 = .ok (.aload_n 0, 1) := by decide +kernel
theorem dX6_learnFinger_130 : decode cX6_learnFinger 130 = .ok (.getfield 63, 3) := by decide +kernel
theorem dX6_learnFinger_133 : decode cX6_learnFinger 133 = .ok (.getfield 112, 3) := by decide +kernel
theorem dX6_learnFinger_136 : decode cX6_learnFinger 136 = .ok (.lastore, 1) := by decide +kernel
theorem dX6_learnFinger_137 : decode cX6_learnFinger 137 = .ok (.aload_n 0, 1) := by decide +kernel
theorem dX6_learnFinger_138 : decode cX6_learnFinger 138 = .ok (.getfield 48, 3) := by decide +kernel
theorem dX6_learnFinger_141 : decode cX6_learnFinger 141 = .ok (.iload 5, 2) := by decide +kernel
theorem dX6_learnFinger_143 : decode cX6_learnFinger 143 = .ok (.aload_n 0, 1) := by decide +kernel
theorem dX6_learnFinger_144 : decode cX6_learnFinger 144 = .ok (.getfield 63, 3) := by decide +kernel
theorem dX6_learnFinger_147 : decode cX6_learnFinger 147 = .ok (.getfield 115, 3) := by decide +kernel
theorem dX6_learnFinger_150 : decode cX6_learnFinger 150 = .ok (.lastore, 1) := by decide +kernel
theorem dX6_learnFinger_151 : decode cX6_learnFinger 151 = .ok (.iinc 4 1, 3) := by decide +kernel
theorem dX6_learnFinger_154 : decode cX6_learnFinger 154 = .ok (.goto (-101), 3) := by decide +kernel
theorem dX6_learnFinger_157 : decode cX6_learnFinger 157 = .ok (.return_, 1) := by decide +kernel
theorem dX6_combine_0 : decode cX6_combine 0 = .ok (.aload_n 0, 1) := by decide +kernel
theorem dX6_combine_1 : decode cX6_combine 1 = .ok (.getfield 22, 3) := by decide +kernel
theorem dX6_combine_4 : decode cX6_combine 4 = .ok (.iconst 0, 1) := by decide +kernel
theorem dX6_combine_5 : decode cX6_combine 5 = .ok (.aload_n 1, 1) := by decide +kernel
theorem dX6_combine_6 : decode cX6_combine 6 = .ok (.iload_n 2, 1) := by decide +kernel
theorem dX6_combine_7 : decode cX6_combine 7 = .ok (.aload_n 0, 1) := by decide +kernel
theorem dX6_combine_8 : decode cX6_combine 8 = .ok (.getfield 63, 3) := by decide +kernel
theorem dX6_combine_11 : decode cX6_combine 11 = .ok (.invokevirtual 117, 3) := by decide +kernel
theorem dX6_combine_14 : decode cX6_combine 14 = .ok (.ifCond .le 7, 3) := by decide +kernel
theorem dX6_combine_17 : decode cX6_combine 17 = .ok (.iconst (-1), 1) := by decide +kernel
theorem dX6_combine_18 : decode cX6_combine 18 = .ok (.goto 4, 3) := by decide +kernel
theorem dX6_combine_21 : decode cX6_combine 21 = .ok (.iconst 0, 1) := by decide +kernel
theorem dX6_combine_22 : decode cX6_combine 22 = .ok (.bastore, 1) := by decide +kernel
theorem dX6_combine_23 : decode cX6_combine 23 = .ok (.aload_n 0, 1) := by decide +kernel
theorem dX6_combine_24 : decode cX6_combine 24 = .ok (.getfield 26, 3) := by decide +kernel
theorem dX6_combine_27 : decode cX6_combine 27 = .ok (.iconst 0, 1) := by decide +kernel
theorem dX6_combine_28 : decode cX6_combine 28 = .ok (.aload_n 0, 1) := by decide +kernel
theorem dX6_combine_29 : decode cX6_combine 29 = .ok (.getfield 63, 3) := by decide +kernel
theorem dX6_combine_32 : decode cX6_combine 32 = .ok (.getfield 112, 3) := by decide +kernel
theorem dX6_combine_35 : decode cX6_combine 35 = .ok (.lastore, 1) := by decide +kernel
theorem dX6_combine_36 : decode cX6_combine 36 = .ok (.aload_n 0, 1) := by decide +kernel
theorem dX6_combine_37 : decode cX6_combine 37 = .ok (.getfield 30, 3) := by decide +kernel
theorem dX6_combine_40 : decode cX6_combine 40 = .ok (.iconst 0, 1) := by decide +kernel
theorem dX6_combine_41 : decode cX6_combine 41 = .ok (.aload_n 0, 1) := by decide +kernel
theorem dX6_combine_42 : decode cX6_combine 42 = .ok (.getfield 63, 3) := by decide +kernel
theorem dX6_combine_45 : decode cX6_combine 45 = .ok (.getfield 115, 3) := by decide +kernel
theorem dX6_combine_48 : decode cX6_combine 48 = .ok (.lastore, 1) := by decide +kernel
theorem dX6_combine_49 : decode cX6_combine 49 = .ok (.aload_n 0, 1) := by decide +kernel
theorem dX6_combine_50 : decode cX6_combine 50 = .ok (.iconst 1, 1) := by decide +kernel
theorem dX6_combine_51 : decode cX6_combine 51 = .ok (.putfield 9, 3) := by decide +kernel
theorem dX6_combine_54 : decode cX6_combine 54 = .ok (.iconst 0, 1) := by decide +kernel
theorem dX6_combine_55 : decode cX6_combine 55 = .ok (.istore_n 3, 1) := by decide +kernel
theorem dX6_combine_56 : decode cX6_combine 56 = .ok (.iload_n 3, 1) := by decide +kernel
theorem dX6_combine_57 : decode cX6_combine 57 = .ok (.aload_n 1, 1) := by decide +kernel
theorem dX6_combine_58 : decode cX6_combine 58 = .ok (.getfield 75, 3) := by decide +kernel
theorem dX6_combine_61 : decode cX6_combine 61 = .ok (.if_icmp .ge 119, 3) := by decide +kernel
theorem dX6_combine_64 : decode cX6_combine 64 = .ok (.iload_n 2, 1) := by decide +kernel
theorem dX6_combine_65 : decode cX6_combine 65 = .ok (.iconst (-1), 1) := by decide +kernel
theorem dX6_combine_66 : decode cX6_combine 66 = .ok (.if_icmp .eq 16, 3) := by decide +kernel
theorem dX6_combine_69 : decode cX6_combine 69 = .ok (.aload_n 1, 1) := by decide +kernel
theorem dX6_combine_70 : decode cX6_combine 70 = .ok (.getfield 121, 3) := by decide +kernel
theorem dX6_combine_73 : decode cX6_combine 73 = .ok (.iload_n 3, 1) := by decide +kernel
theorem dX6_combine_74 : decode cX6_combine 74 = .ok (.iaload, 1) := by decide +kernel
theorem dX6_combine_75 : decode cX6_combine 75 = .ok (.iload_n 2, 1) := by decide +kernel
theorem dX6_combine_76 : decode cX6_combine 76 = .ok (.if_icmp .eq 6, 3) := by decide +kernel
theorem dX6_combine_79 : decode cX6_combine 79 = .ok (.goto 95, 3) := by decide +kernel
theorem dX6_combine_82 : decode cX6_combine 82 = .ok (.aload_n 0, 1) := by decide +kernel
theorem dX6_combine_83 : decode cX6_combine 83 = .ok (.getfield 9, 3) := by decide +kernel
theorem dX6_combine_86 : decode cX6_combine 86 = .ok (.aload_n 0, 1) := by decide +kernel
theorem dX6_combine_87 : decode cX6_combine 87 = .ok (.getfield 39, 3) := by decide +kernel
theorem dX6_combine_90 : decode cX6_combine 90 = .ok (.iload_n 3, 1) := by decide +kernel
theorem dX6_combine_91 : decode cX6_combine 91 = .ok (.iaload, 1) := by decide +kernel
theorem dX6_combine_92 : decode cX6_combine 92 = .ok (.imul, 1) := by decide +kernel
theorem dX6_combine_93 : decode cX6_combine 93 = .ok (.sipush 4096, 3) := by decide +kernel
theorem dX6_combine_96 : decode cX6_combine 96 = .ok (.if_icmp .le 4, 3) := by decide +kernel
theorem dX6_combine_99 : decode cX6_combine 99 = .ok (.return_, 1) := by decide +kernel
theorem dX6_combine_100 : decode cX6_combine 100 = .ok (.aload_n 0, 1) := by decide +kernel
theorem dX6_combine_101 : decode cX6_combine 101 = .ok (.aload_n 0, 1) := by decide +kernel
theorem dX6_combine_102 : decode cX6_combine 102 = .ok (.getfield 9, 3) := by decide +kernel
theorem dX6_combine_105 : decode cX6_combine 105 = .ok (.iload_n 3, 1) := by decide +kernel
theorem dX6_combine_106 : decode cX6_combine 106 = .ok (.invokevirtual 124, 3) := by decide +kernel
theorem dX6_combine_109 : decode cX6_combine 109 = .ok (.aload_n 0, 1) := by decide +kernel
theorem dX6_combine_110 : decode cX6_combine 110 = .ok (.getfield 26, 3) := by decide +kernel
theorem dX6_combine_113 : decode cX6_combine 113 = .ok (.aload_n 0, 1) := by decide +kernel
theorem dX6_combine_114 : decode cX6_combine 114 = .ok (.getfield 9, 3) := by decide +kernel
theorem dX6_combine_117 : decode cX6_combine 117 = .ok (.aload_n 0, 1) := by decide +kernel
theorem dX6_combine_118 : decode cX6_combine 118 = .ok (.getfield 45, 3) := by decide +kernel
theorem dX6_combine_121 : decode cX6_combine 121 = .ok (.iload_n 3, 1) := by decide +kernel
theorem dX6_combine_122 : decode cX6_combine 122 = .ok (.bipush 125, 2) := by decide +kernel
theorem dX6_combine_124 : decode cX6_combine 124 = .ok (.imul, 1) := by decide +kernel
theorem dX6_combine_125 : decode cX6_combine 125 = .ok (.aload_n 0, 1) := by decide +kernel
theorem dX6_combine_126 : decode cX6_combine 126 = .ok (.getfield 39, 3) := by decide +kernel
theorem dX6_combine_129 : decode cX6_combine 129 = .ok (.iload_n 3, 1) := by decide +kernel
theorem dX6_combine_130 : decode cX6_combine 130 = .ok (.iaload, 1) := by decide +kernel
theorem dX6_combine_131 : decode cX6_combine 131 = .ok (.invokestatic 128, 3) := by decide +kernel
theorem dX6_combine_134 : decode cX6_combine 134 = .ok (.aload_n 0, 1) := by decide +kernel
theorem dX6_combine_135 : decode cX6_combine 135 = .ok (.getfield 30, 3) := by decide +kernel
theorem dX6_combine_138 : decode cX6_combine 138 = .ok (.aload_n 0, 1) := by decide +kernel
theorem dX6_combine_139 : decode cX6_combine 139 = .ok (.getfield 9, 3) := by decide +kernel
theorem dX6_combine_142 : decode cX6_combine 142 = .ok (.aload_n 0, 1) := by decide +kernel
theorem dX6_combine_143 : decode cX6_combine 143 = .ok (.getfield 48, 3) := by decide +kernel
theorem dX6_combine_146 : decode cX6_combine 146 = .ok (.iload_n 3, 1) := by decide +kernel
theorem dX6_combine_147 : decode cX6_combine 147 = .ok (.bipush 125, 2) := by decide +kernel
theorem dX6_combine_149 : decode cX6_combine 149 = .ok (.imul, 1) := by decide +kernel
theorem dX6_combine_150 : decode cX6_combine 150 = .ok (.aload_n 0, 1) := by decide +kernel
theorem dX6_combine_151 : decode cX6_combine 151 = .ok (.getfield 39, 3) := by decide +kernel
theorem dX6_combine_154 : decode cX6_combine 154 = .ok (.iload_n 3, 1) := by decide +kernel
theorem dX6_combine_155 : decode cX6_combine 155 = .ok (.iaload, 1) := by decide +kernel
theorem dX6_combine_156 : decode cX6_combine 156 = .ok (.invokestatic 128, 3) := by decide +kernel
theorem dX6_combine_159 : decode cX6_combine 159 = .ok (.aload_n 0, 1) := by decide +kernel
theorem dX6_combine_160 : decode cX6_combine 160 = .ok (.dup, 1) := by decide +kernel
theorem dX6_combine_161 : decode cX6_combine 161 = .ok (.getfield 9, 3) := by decide +kernel
theorem dX6_combine_164 : decode cX6_combine 164 = .ok (.aload_n 0, 1) := by decide +kernel
theorem dX6_combine_165 : decode cX6_combine 165 = .ok (.getfield 39, 3) := by decide +kernel
theorem dX6_combine_168 : decode cX6_combine 168 = .ok (.iload_n 3, 1) := by decide +kernel
theorem dX6_combine_169 : decode cX6_combine 169 = .ok (.iaload, 1) := by decide +kernel
theorem dX6_combine_170 : decode cX6_combine 170 = .ok (.imul, 1) := by decide +kernel
theorem dX6_combine_171 : decode cX6_combine 171 = .ok (.putfield 9, 3) := by decide +kernel
theorem dX6_combine_174 : decode cX6_combine 174 = .ok (.iinc 3 1, 3) := by decide +kernel
theorem dX6_combine_177 : decode cX6_combine 177 = .ok (.goto (-121), 3) := by decide +kernel
theorem dX6_combine_180 : decode cX6_combine 180 = .ok (.return_, 1) := by decide +kernel
theorem dX6_shade_0 : decode cX6_shade 0 = .ok (.aload_n 1, 1) := by decide +kernel
theorem dX6_shade_1 : decode cX6_shade 1 = .ok (.iload_n 3, 1) := by decide +kernel
theorem dX6_shade_2 : decode cX6_shade 2 = .ok (.aload_n 0, 1) := by decide +kernel
theorem dX6_shade_3 : decode cX6_shade 3 = .ok (.getfield 63, 3) := by decide +kernel
theorem dX6_shade_6 : decode cX6_shade 6 = .ok (.invokevirtual 117, 3) := by decide +kernel
theorem dX6_shade_9 : decode cX6_shade 9 = .ok (.pop, 1) := by decide +kernel
theorem dX6_shade_10 : decode cX6_shade 10 = .ok (.aload_n 2, 1) := by decide +kernel
theorem dX6_shade_11 : decode cX6_shade 11 = .ok (.aload_n 0, 1) := by decide +kernel
theorem dX6_shade_12 : decode cX6_shade 12 = .ok (.getfield 63, 3) := by decide +kernel
theorem dX6_shade_15 : decode cX6_shade 15 = .ok (.getfield 112, 3) := by decide +kernel
theorem dX6_shade_18 : decode cX6_shade 18 = .ok (.aload_n 0, 1) := by decide +kernel
theorem dX6_shade_19 : decode cX6_shade 19 = .ok (.getfield 63, 3) := by decide +kernel
theorem dX6_shade_22 : decode cX6_shade 22 = .ok (.getfield 115, 3) := by decide +kernel
theorem dX6_shade_25 : decode cX6_shade 25 = .ok (.aload_n 0, 1) := by decide +kernel
theorem dX6_shade_26 : decode cX6_shade 26 = .ok (.getfield 63, 3) := by decide +kernel
theorem dX6_shade_29 : decode cX6_shade 29 = .ok (.invokevirtual 132, 3) := by decide +kernel
theorem dX6_shade_32 : decode cX6_shade 32 = .ok (.aload_n 0, 1) := by decide +kernel
theorem dX6_shade_33 : decode cX6_shade 33 = .ok (.getfield 33, 3) := by decide +kernel
theorem dX6_shade_36 : decode cX6_shade 36 = .ok (.iconst 0, 1) := by decide +kernel
theorem dX6_shade_37 : decode cX6_shade 37 = .ok (.aload_n 0, 1) := by decide +kernel
theorem dX6_shade_38 : decode cX6_shade 38 = .ok (.getfield 63, 3) := by decide +kernel
theorem dX6_shade_41 : decode cX6_shade 41 = .ok (.getfield 112, 3) := by decide +kernel
theorem dX6_shade_44 : decode cX6_shade 44 = .ok (.lastore, 1) := by decide +kernel
theorem dX6_shade_45 : decode cX6_shade 45 = .ok (.aload_n 0, 1) := by decide +kernel
theorem dX6_shade_46 : decode cX6_shade 46 = .ok (.getfield 36, 3) := by decide +kernel
theorem dX6_shade_49 : decode cX6_shade 49 = .ok (.iconst 0, 1) := by decide +kernel
theorem dX6_shade_50 : decode cX6_shade 50 = .ok (.aload_n 0, 1) := by decide +kernel
theorem dX6_shade_51 : decode cX6_shade 51 = .ok (.getfield 63, 3) := by decide +kernel
theorem dX6_shade_54 : decode cX6_shade 54 = .ok (.getfield 115, 3) := by decide +kernel
theorem dX6_shade_57 : decode cX6_shade 57 = .ok (.lastore, 1) := by decide +kernel
theorem dX6_shade_58 : decode cX6_shade 58 = .ok (.iconst 1, 1) := by decide +kernel
theorem dX6_shade_59 : decode cX6_shade 59 = .ok (.istore 4, 2) := by decide +kernel
theorem dX6_shade_61 : decode cX6_shade 61 = .ok (.iconst 0, 1) := by decide +kernel
theorem dX6_shade_62 : decode cX6_shade 62 = .ok (.istore 5, 2) := by decide +kernel
theorem dX6_shade_64 : decode cX6_shade 64 = .ok (.iload 5, 2) := by decide +kernel
theorem dX6_shade_66 : decode cX6_shade 66 = .ok (.aload_n 1, 1) := by decide +kernel
theorem dX6_shade_67 : decode cX6_shade 67 = .ok (.getfield 75, 3) := by decide +kernel
theorem dX6_shade_70 : decode cX6_shade 70 = .ok (.if_icmp .ge 165, 3) := by decide +kernel
theorem dX6_shade_73 : decode cX6_shade 73 = .ok (.iload_n 3, 1) := by decide +kernel
theorem dX6_shade_74 : decode cX6_shade 74 = .ok (.iconst (-1), 1) := by decide +kernel
theorem dX6_shade_75 : decode cX6_shade 75 = .ok (.if_icmp .eq 17, 3) := by decide +kernel
theorem dX6_shade_78 : decode cX6_shade 78 = .ok (.aload_n 1, 1) := by decide +kernel
theorem dX6_shade_79 : decode cX6_shade 79 = .ok (.getfield 121, 3) := by decide +kernel
theorem dX6_shade_82 : decode cX6_shade 82 = .ok (.iload 5, 2) := by decide +kernel
theorem dX6_shade_84 : decode cX6_shade 84 = .ok (.iaload, 1) := by decide +kernel
theorem dX6_shade_85 : decode cX6_shade 85 = .ok (.iload_n 3, 1) := by decide +kernel
theorem dX6_shade_86 : decode cX6_shade 86 = .ok (.if_icmp .eq 6, 3) := by decide +kernel
theorem dX6_shade_89 : decode cX6_shade 89 = .ok (.goto 140, 3) := by decide +kernel
theorem dX6_shade_92 : decode cX6_shade 92 = .ok (.iconst 0, 1) := by decide +kernel
theorem dX6_shade_93 : decode cX6_shade 93 = .ok (.istore 6, 2) := by decide +kernel
theorem dX6_shade_95 : decode cX6_shade 95 = .ok (.iload 6, 2) := by decide +kernel
theorem dX6_shade_97 : decode cX6_shade 97 = .ok (.aload_n 0, 1) := by decide +kernel
theorem dX6_shade_98 : decode cX6_shade 98 = .ok (.getfield 39, 3) := by decide +kernel
theorem dX6_shade_101 : decode cX6_shade 101 = .ok (.iload 5, 2) := by decide +kernel
theorem dX6_shade_103 : decode cX6_shade 103 = .ok (.iaload, 1) := by decide +kernel
theorem dX6_shade_104 : decode cX6_shade 104 = .ok (.if_icmp .ge 71, 3) := by decide +kernel
theorem dX6_shade_107 : decode cX6_shade 107 = .ok (.aload_n 2, 1) := by decide +kernel
theorem dX6_shade_108 : decode cX6_shade 108 = .ok (.aload_n 0, 1) := by decide +kernel
theorem dX6_shade_109 : decode cX6_shade 109 = .ok (.getfield 45, 3) := by decide +kernel
theorem dX6_shade_112 : decode cX6_shade 112 = .ok (.iload 5, 2) := by decide +kernel
theorem dX6_shade_114 : decode cX6_shade 114 = .ok (.bipush 125, 2) := by decide +kernel
theorem dX6_shade_116 : decode cX6_shade 116 = .ok (.imul, 1) := by decide +kernel
theorem dX6_shade_117 : decode cX6_shade 117 = .ok (.iload 6, 2) := by decide +kernel
theorem dX6_shade_119 : decode cX6_shade 119 = .ok (.iadd, 1) := by decide +kernel
theorem dX6_shade_120 : decode cX6_shade 120 = .ok (.laload, 1) := by decide +kernel
theorem dX6_shade_121 : decode cX6_shade 121 = .ok (.aload_n 0, 1) := by decide +kernel
theorem dX6_shade_122 : decode cX6_shade 122 = .ok (.getfield 48, 3) := by decide +kernel
theorem dX6_shade_125 : decode cX6_shade 125 = .ok (.iload 5, 2) := by decide +kernel
theorem dX6_shade_127 : decode cX6_shade 127 = .ok (.bipush 125, 2) := by decide +kernel
theorem dX6_shade_129 : decode cX6_shade 129 = .ok (.imul, 1) := by decide +kernel
theorem dX6_shade_130 : decode cX6_shade 130 = .ok (.iload 6, 2) := by decide +kernel
theorem dX6_shade_132 : decode cX6_shade 132 = .ok (.iadd, 1) := by decide +kernel
theorem dX6_shade_133 : decode cX6_shade 133 = .ok (.laload, 1) := by decide +kernel
theorem dX6_shade_134 : decode cX6_shade 134 = .ok (.aload_n 0, 1) := by decide +kernel
theorem dX6_shade_135 : decode cX6_shade 135 = .ok (.getfield 63, 3) := by decide +kernel
theorem dX6_shade_138 : decode cX6_shade 138 = .ok (.invokevirtual 132, 3) := by decide +kernel
theorem dX6_shade_141 : decode cX6_shade 141 = .ok (.aload_n 0, 1) := by decide +kernel
theorem dX6_shade_142 : decode cX6_shade 142 = .ok (.getfield 51, 3) := by decide +kernel
theorem dX6_shade_145 : decode cX6_shade 145 = .ok (.iload 6, 2) := by decide +kernel
theorem dX6_shade_147 : decode cX6_shade 147 = .ok (.aload_n 0, 1) := by decide +kernel
theorem dX6_shade_148 : decode cX6_shade 148 = .ok (.getfield 63, 3) := by decide +kernel
theorem dX6_shade_151 : decode cX6_shade 151 = .ok (.getfield 112, 3) := by decide +kernel
theorem dX6_shade_154 : decode cX6_shade 154 = .ok (.lastore, 1) := by decide +kernel
theorem dX6_shade_155 : decode cX6_shade 155 = .ok (.aload_n 0, 1) := by decide +kernel
theorem dX6_shade_156 : decode cX6_shade 156 = .ok (.getfield 54, 3) := by decide +kernel
theorem dX6_shade_159 : decode cX6_shade 159 = .ok (.iload 6, 2) := by decide +kernel
theorem dX6_shade_161 : decode cX6_shade 161 = .ok (.aload_n 0, 1) := by decide +kernel
theorem dX6_shade_162 : decode cX6_shade 162 = .ok (.getfield 63, 3) := by decide +kernel
theorem dX6_shade_165 : decode cX6_shade 165 = .ok (.getfield 115, 3) := by decide +kernel
theorem dX6_shade_168 : decode cX6_shade 168 = .ok (.lastore, 1) := by decide +kernel
theorem dX6_shade_169 : decode cX6_shade 169 = .ok (.iinc 6 1, 3) := by decide +kernel
theorem dX6_shade_172 : decode cX6_shade 172 = .ok (.goto (-77), 3) := by decide +kernel
theorem dX6_shade_175 : decode cX6_shade 175 = .ok (.aload_n 0, 1) := by decide +kernel
theorem dX6_shade_176 : decode cX6_shade 176 = .ok (.getfield 33, 3) := by decide +kernel
theorem dX6_shade_179 : decode cX6_shade 179 = .ok (.iload 4, 2) := by decide +kernel
theorem dX6_shade_181 : decode cX6_shade 181 = .ok (.aload_n 0, 1) := by decide +kernel
theorem dX6_shade_182 : decode cX6_shade 182 = .ok (.getfield 51, 3) := by decide +kernel
theorem dX6_shade_185 : decode cX6_shade 185 = .ok (.iconst 0, 1) := by decide +kernel
theorem dX6_shade_186 : decode cX6_shade 186 = .ok (.aload_n 0, 1) := by decide +kernel
theorem dX6_shade_187 : decode cX6_shade 187 = .ok (.getfield 39, 3) := by decide +kernel
theorem dX6_shade_190 : decode cX6_shade 190 = .ok (.iload 5, 2) := by decide +kernel
theorem dX6_shade_192 : decode cX6_shade 192 = .ok (.iaload, 1) := by decide +kernel
theorem dX6_shade_193 : decode cX6_shade 193 = .ok (.invokestatic 128, 3) := by decide +kernel
theorem dX6_shade_196 : decode cX6_shade 196 = .ok (.aload_n 0, 1) := by decide +kernel
theorem dX6_shade_197 : decode cX6_shade 197 = .ok (.getfield 36, 3) := by decide +kernel
theorem dX6_shade_200 : decode cX6_shade 200 = .ok (.iload 4, 2) := by decide +kernel
theorem dX6_shade_202 : decode cX6_shade 202 = .ok (.aload_n 0, 1) := by decide +kernel
theorem dX6_shade_203 : decode cX6_shade 203 = .ok (.getfield 54, 3) := by decide +kernel
theorem dX6_shade_206 : decode cX6_shade 206 = .ok (.iconst 0, 1) := by decide +kernel
theorem dX6_shade_207 : decode cX6_shade 207 = .ok (.aload_n 0, 1) := by decide +kernel
theorem dX6_shade_208 : decode cX6_shade 208 = .ok (.getfield 39, 3) := by decide +kernel
theorem dX6_shade_211 : decode cX6_shade 211 = .ok (.iload 5, 2) := by decide +kernel
theorem dX6_shade_213 : decode cX6_shade 213 = .ok (.iaload, 1) := by decide +kernel
theorem dX6_shade_214 : decode cX6_shade 214 = .ok (.invokestatic 128, 3) := by decide +kernel
theorem dX6_shade_217 : decode cX6_shade 217 = .ok (.iload 4, 2) := by decide +kernel
theorem dX6_shade_219 : decode cX6_shade 219 = .ok (.aload_n 0, 1) := by decide +kernel
theorem dX6_shade_220 : decode cX6_shade 220 = .ok (.getfield 39, 3) := by decide +kernel
theorem dX6_shade_223 : decode cX6_shade 223 = .ok (.iload 5, 2) := by decide +kernel
theorem dX6_shade_225 : decode cX6_shade 225 = .ok (.iaload, 1) := by decide +kernel
theorem dX6_shade_226 : decode cX6_shade 226 = .ok (.imul, 1) := by decide +kernel
theorem dX6_shade_227 : decode cX6_shade 227 = .ok (.istore 4, 2) := by decide +kernel
theorem dX6_shade_229 : decode cX6_shade 229 = .ok (.iinc 5 1, 3) := by decide +kernel
theorem dX6_shade_232 : decode cX6_shade 232 = .ok (.goto (-168), 3) := by decide +kernel
theorem dX6_shade_235 : decode cX6_shade 235 = .ok (.return_, 1) := by decide +kernel
theorem dX6_join_0 : decode cX6_join 0 = .ok (.iload_n 1, 1) := by decide +kernel
theorem dX6_join_1 : decode cX6_join 1 = .ok (.iload 4, 2) := by decide +kernel
theorem dX6_join_3 : decode cX6_join 3 = .ok (.imul, 1) := by decide +kernel
theorem dX6_join_4 : decode cX6_join 4 = .ok (.aload_n 0, 1) := by decide +kernel
theorem dX6_join_5 : decode cX6_join 5 = .ok (.arraylength, 1) := by decide +kernel
theorem dX6_join_6 : decode cX6_join 6 = .ok (.if_icmp .gt 16, 3) := by decide +kernel
theorem dX6_join_9 : decode cX6_join 9 = .ok (.iload_n 3, 1) := by decide +kernel
theorem dX6_join_10 : decode cX6_join 10 = .ok (.ifCond .lt 12, 3) := by decide +kernel
theorem dX6_join_13 : decode cX6_join 13 = .ok (.iload_n 3, 1) := by decide +kernel
theorem dX6_join_14 : decode cX6_join 14 = .ok (.iload 4, 2) := by decide +kernel
theorem dX6_join_16 : decode cX6_join 16 = .ok (.iadd, 1) := by decide +kernel
theorem dX6_join_17 : decode cX6_join 17 = .ok (.aload_n 2, 1) := by decide +kernel
theorem dX6_join_18 : decode cX6_join 18 = .ok (.arraylength, 1) := by decide +kernel
theorem dX6_join_19 : decode cX6_join 19 = .ok (.if_icmp .le 4, 3) := by decide +kernel
theorem dX6_join_22 : decode cX6_join 22 = .ok (.return_, 1) := by decide +kernel
theorem dX6_join_23 : decode cX6_join 23 = .ok (.iload_n 1, 1) := by decide +kernel
theorem dX6_join_24 : decode cX6_join 24 = .ok (.iconst 1, 1) := by decide +kernel
theorem dX6_join_25 : decode cX6_join 25 = .ok (.isub, 1) := by decide +kernel
theorem dX6_join_26 : decode cX6_join 26 = .ok (.istore 5, 2) := by decide +kernel
theorem dX6_join_28 : decode cX6_join 28 = .ok (.iload 5, 2) := by decide +kernel
theorem dX6_join_30 : decode cX6_join 30 = .ok (.ifCond .lt 51, 3) := by decide +kernel
theorem dX6_join_33 : decode cX6_join 33 = .ok (.aload_n 0, 1) := by decide +kernel
theorem dX6_join_34 : decode cX6_join 34 = .ok (.iload 5, 2) := by decide +kernel
theorem dX6_join_36 : decode cX6_join 36 = .ok (.laload, 1) := by decide +kernel
theorem dX6_join_37 : decode cX6_join 37 = .ok (.lstore 6, 2) := by decide +kernel
theorem dX6_join_39 : decode cX6_join 39 = .ok (.iload 4, 2) := by decide +kernel
theorem dX6_join_41 : decode cX6_join 41 = .ok (.iconst 1, 1) := by decide +kernel
theorem dX6_join_42 : decode cX6_join 42 = .ok (.isub, 1) := by decide +kernel
theorem dX6_join_43 : decode cX6_join 43 = .ok (.istore 8, 2) := by decide +kernel
theorem dX6_join_45 : decode cX6_join 45 = .ok (.iload 8, 2) := by decide +kernel
theorem dX6_join_47 : decode cX6_join 47 = .ok (.ifCond .lt 28, 3) := by decide +kernel
theorem dX6_join_50 : decode cX6_join 50 = .ok (.aload_n 0, 1) := by decide +kernel
theorem dX6_join_51 : decode cX6_join 51 = .ok (.iload 5, 2) := by decide +kernel
theorem dX6_join_53 : decode cX6_join 53 = .ok (.iload 4, 2) := by decide +kernel
theorem dX6_join_55 : decode cX6_join 55 = .ok (.imul, 1) := by decide +kernel
theorem dX6_join_56 : decode cX6_join 56 = .ok (.iload 8, 2) := by decide +kernel
theorem dX6_join_58 : decode cX6_join 58 = .ok (.iadd, 1) := by decide +kernel
theorem dX6_join_59 : decode cX6_join 59 = .ok (.lload 6, 2) := by decide +kernel
theorem dX6_join_61 : decode cX6_join 61 = .ok (.aload_n 2, 1) := by decide +kernel
theorem dX6_join_62 : decode cX6_join 62 = .ok (.iload_n 3, 1) := by decide +kernel
theorem dX6_join_63 : decode cX6_join 63 = .ok (.iload 8, 2) := by decide +kernel
theorem dX6_join_65 : decode cX6_join 65 = .ok (.iadd, 1) := by decide +kernel
theorem dX6_join_66 : decode cX6_join 66 = .ok (.laload, 1) := by decide +kernel
theorem dX6_join_67 : decode cX6_join 67 = .ok (.lor, 1) := by decide +kernel
theorem dX6_join_68 : decode cX6_join 68 = .ok (.lastore, 1) := by decide +kernel
theorem dX6_join_69 : decode cX6_join 69 = .ok (.iinc 8 (-1), 3) := by decide +kernel
theorem dX6_join_72 : decode cX6_join 72 = .ok (.goto (-27), 3) := by decide +kernel
theorem dX6_join_75 : decode cX6_join 75 = .ok (.iinc 5 (-1), 3) := by decide +kernel
theorem dX6_join_78 : decode cX6_join 78 = .ok (.goto (-50), 3) := by decide +kernel
theorem dX6_join_81 : decode cX6_join 81 = .ok (.return_, 1) := by decide +kernel
theorem dX6_joinLoads_0 : decode cX6_joinLoads 0 = .ok (.aload_n 0, 1) := by decide +kernel
theorem dX6_joinLoads_1 : decode cX6_joinLoads 1 = .ok (.getfield 39, 3) := by decide +kernel
theorem dX6_joinLoads_4 : decode cX6_joinLoads 4 = .ok (.iload_n 2, 1) := by decide +kernel
theorem dX6_joinLoads_5 : decode cX6_joinLoads 5 = .ok (.iaload, 1) := by decide +kernel
theorem dX6_joinLoads_6 : decode cX6_joinLoads 6 = .ok (.istore_n 3, 1) := by decide +kernel
theorem dX6_joinLoads_7 : decode cX6_joinLoads 7 = .ok (.iload_n 1, 1) := by decide +kernel
theorem dX6_joinLoads_8 : decode cX6_joinLoads 8 = .ok (.iload_n 3, 1) := by decide +kernel
theorem dX6_joinLoads_9 : decode cX6_joinLoads 9 = .ok (.imul, 1) := by decide +kernel
theorem dX6_joinLoads_10 : decode cX6_joinLoads 10 = .ok (.sipush 4096, 3) := by decide +kernel
theorem dX6_joinLoads_13 : decode cX6_joinLoads 13 = .ok (.if_icmp .le 4, 3) := by decide +kernel
theorem dX6_joinLoads_16 : decode cX6_joinLoads 16 = .ok (.return_, 1) := by decide +kernel
theorem dX6_joinLoads_17 : decode cX6_joinLoads 17 = .ok (.iload_n 1, 1) := by decide +kernel
theorem dX6_joinLoads_18 : decode cX6_joinLoads 18 = .ok (.iconst 1, 1) := by decide +kernel
theorem dX6_joinLoads_19 : decode cX6_joinLoads 19 = .ok (.isub, 1) := by decide +kernel
theorem dX6_joinLoads_20 : decode cX6_joinLoads 20 = .ok (.istore 4, 2) := by decide +kernel
theorem dX6_joinLoads_22 : decode cX6_joinLoads 22 = .ok (.iload 4, 2) := by decide +kernel
theorem dX6_joinLoads_24 : decode cX6_joinLoads 24 = .ok (.ifCond .lt 61, 3) := by decide +kernel
theorem dX6_joinLoads_27 : decode cX6_joinLoads 27 = .ok (.aload_n 0, 1) := by decide +kernel
theorem dX6_joinLoads_28 : decode cX6_joinLoads 28 = .ok (.getfield 22, 3) := by decide +kernel
theorem dX6_joinLoads_31 : decode cX6_joinLoads 31 = .ok (.iload 4, 2) := by decide +kernel
theorem dX6_joinLoads_33 : decode cX6_joinLoads 33 = .ok (.baload, 1) := by decide +kernel
theorem dX6_joinLoads_34 : decode cX6_joinLoads 34 = .ok (.istore 5, 2) := by decide +kernel
theorem dX6_joinLoads_36 : decode cX6_joinLoads 36 = .ok (.iload_n 3, 1) := by decide +kernel
theorem dX6_joinLoads_37 : decode cX6_joinLoads 37 = .ok (.iconst 1, 1) := by decide +kernel
theorem dX6_joinLoads_38 : decode cX6_joinLoads 38 = .ok (.isub, 1) := by decide +kernel
theorem dX6_joinLoads_39 : decode cX6_joinLoads 39 = .ok (.istore 6, 2) := by decide +kernel
theorem dX6_joinLoads_41 : decode cX6_joinLoads 41 = .ok (.iload 6, 2) := by decide +kernel
theorem dX6_joinLoads_43 : decode cX6_joinLoads 43 = .ok (.ifCond .lt 36, 3) := by decide +kernel
theorem dX6_joinLoads_46 : decode cX6_joinLoads 46 = .ok (.aload_n 0, 1) := by decide +kernel
theorem dX6_joinLoads_47 : decode cX6_joinLoads 47 = .ok (.getfield 22, 3) := by decide +kernel
theorem dX6_joinLoads_50 : decode cX6_joinLoads 50 = .ok (.iload 4, 2) := by decide +kernel
theorem dX6_joinLoads_52 : decode cX6_joinLoads 52 = .ok (.iload_n 3, 1) := by decide +kernel
theorem dX6_joinLoads_53 : decode cX6_joinLoads 53 = .ok (.imul, 1) := by decide +kernel
theorem dX6_joinLoads_54 : decode cX6_joinLoads 54 = .ok (.iload 6, 2) := by decide +kernel
theorem dX6_joinLoads_56 : decode cX6_joinLoads 56 = .ok (.iadd, 1) := by decide +kernel
theorem dX6_joinLoads_57 : decode cX6_joinLoads 57 = .ok (.aload_n 0, 1) := by decide +kernel
theorem dX6_joinLoads_58 : decode cX6_joinLoads 58 = .ok (.iload 5, 2) := by decide +kernel
theorem dX6_joinLoads_60 : decode cX6_joinLoads 60 = .ok (.iload 4, 2) := by decide +kernel
theorem dX6_joinLoads_62 : decode cX6_joinLoads 62 = .ok (.iload_n 2, 1) := by decide +kernel
theorem dX6_joinLoads_63 : decode cX6_joinLoads 63 = .ok (.bipush 125, 2) := by decide +kernel
theorem dX6_joinLoads_65 : decode cX6_joinLoads 65 = .ok (.imul, 1) := by decide +kernel
theorem dX6_joinLoads_66 : decode cX6_joinLoads 66 = .ok (.iload 6, 2) := by decide +kernel
theorem dX6_joinLoads_68 : decode cX6_joinLoads 68 = .ok (.iadd, 1) := by decide +kernel
theorem dX6_joinLoads_69 : decode cX6_joinLoads 69 = .ok (.invokevirtual 138, 3) := by decide +kernel
theorem dX6_joinLoads_72 : decode cX6_joinLoads 72 = .ok (.bastore, 1) := by decide +kernel
theorem dX6_joinLoads_73 : decode cX6_joinLoads 73 = .ok (.iinc 6 (-1), 3) := by decide +kernel
theorem dX6_joinLoads_76 : decode cX6_joinLoads 76 = .ok (.goto (-35), 3) := by decide +kernel
theorem dX6_joinLoads_79 : decode cX6_joinLoads 79 = .ok (.iinc 4 (-1), 3) := by decide +kernel
theorem dX6_joinLoads_82 : decode cX6_joinLoads 82 = .ok (.goto (-60), 3) := by decide +kernel
theorem dX6_joinLoads_85 : decode cX6_joinLoads 85 = .ok (.return_, 1) := by decide +kernel
theorem dX6_joinedLoad_0 : decode cX6_joinedLoad 0 = .ok (.iload_n 1, 1) := by decide +kernel
theorem dX6_joinedLoad_1 : decode cX6_joinedLoad 1 = .ok (.ifCond .lt 12, 3) := by decide +kernel
theorem dX6_joinedLoad_4 : decode cX6_joinedLoad 4 = .ok (.aload_n 0, 1) := by decide +kernel
theorem dX6_joinedLoad_5 : decode cX6_joinedLoad 5 = .ok (.getfield 42, 3) := by decide +kernel
theorem dX6_joinedLoad_8 : decode cX6_joinedLoad 8 = .ok (.iload_n 3, 1) := by decide +kernel
theorem dX6_joinedLoad_9 : decode cX6_joinedLoad 9 = .ok (.baload, 1) := by decide +kernel
theorem dX6_joinedLoad_10 : decode cX6_joinedLoad 10 = .ok (.ifCond .ge 5, 3) := by decide +kernel
theorem dX6_joinedLoad_13 : decode cX6_joinedLoad 13 = .ok (.iconst (-1), 1) := by decide +kernel
theorem dX6_joinedLoad_14 : decode cX6_joinedLoad 14 = .ok (.ireturn, 1) := by decide +kernel
theorem dX6_joinedLoad_15 : decode cX6_joinedLoad 15 = .ok (.aload_n 0, 1) := by decide +kernel
theorem dX6_joinedLoad_16 : decode cX6_joinedLoad 16 = .ok (.getfield 26, 3) := by decide +kernel
theorem dX6_joinedLoad_19 : decode cX6_joinedLoad 19 = .ok (.iload_n 2, 1) := by decide +kernel
theorem dX6_joinedLoad_20 : decode cX6_joinedLoad 20 = .ok (.laload, 1) := by decide +kernel
theorem dX6_joinedLoad_21 : decode cX6_joinedLoad 21 = .ok (.aload_n 0, 1) := by decide +kernel
theorem dX6_joinedLoad_22 : decode cX6_joinedLoad 22 = .ok (.getfield 45, 3) := by decide +kernel
theorem dX6_joinedLoad_25 : decode cX6_joinedLoad 25 = .ok (.iload_n 3, 1) := by decide +kernel
theorem dX6_joinedLoad_26 : decode cX6_joinedLoad 26 = .ok (.laload, 1) := by decide +kernel
theorem dX6_joinedLoad_27 : decode cX6_joinedLoad 27 = .ok (.land, 1) := by decide +kernel
theorem dX6_joinedLoad_28 : decode cX6_joinedLoad 28 = .ok (.lconst 0, 1) := by decide +kernel
theorem dX6_joinedLoad_29 : decode cX6_joinedLoad 29 = .ok (.lcmp, 1) := by decide +kernel
theorem dX6_joinedLoad_30 : decode cX6_joinedLoad 30 = .ok (.ifCond .ne 21, 3) := by decide +kernel
theorem dX6_joinedLoad_33 : decode cX6_joinedLoad 33 = .ok (.aload_n 0, 1) := by decide +kernel
theorem dX6_joinedLoad_34 : decode cX6_joinedLoad 34 = .ok (.getfield 30, 3) := by decide +kernel
theorem dX6_joinedLoad_37 : decode cX6_joinedLoad 37 = .ok (.iload_n 2, 1) := by decide +kernel
theorem dX6_joinedLoad_38 : decode cX6_joinedLoad 38 = .ok (.laload, 1) := by decide +kernel
theorem dX6_joinedLoad_39 : decode cX6_joinedLoad 39 = .ok (.aload_n 0, 1) := by decide +kernel
theorem dX6_joinedLoad_40 : decode cX6_joinedLoad 40 = .ok (.getfield 48, 3) := by decide +kernel
theorem dX6_joinedLoad_43 : decode cX6_joinedLoad 43 = .ok (.iload_n 3, 1) := by decide +kernel
theorem dX6_joinedLoad_44 : decode cX6_joinedLoad 44 = .ok (.laload, 1) := by decide +kernel
theorem dX6_joinedLoad_45 : decode cX6_joinedLoad 45 = .ok (.land, 1) := by decide +kernel
theorem dX6_joinedLoad_46 : decode cX6_joinedLoad 46 = .ok (.lconst 0, 1) := by decide +kernel
theorem dX6_joinedLoad_47 : decode cX6_joinedLoad 47 = .ok (.lcmp, 1) := by decide +kernel
theorem dX6_joinedLoad_48 : decode cX6_joinedLoad 48 = .ok (.ifCond .eq 5, 3) := by decide +kernel
theorem dX6_joinedLoad_51 : decode cX6_joinedLoad 51 = .ok (.iconst (-1), 1) := by decide +kernel
theorem dX6_joinedLoad_52 : decode cX6_joinedLoad 52 = .ok (.ireturn, 1) := by decide +kernel
theorem dX6_joinedLoad_53 : decode cX6_joinedLoad 53 = .ok (.iload_n 1, 1) := by decide +kernel
theorem dX6_joinedLoad_54 : decode cX6_joinedLoad 54 = .ok (.aload_n 0, 1) := by decide +kernel
theorem dX6_joinedLoad_55 : decode cX6_joinedLoad 55 = .ok (.getfield 42, 3) := by decide +kernel
theorem dX6_joinedLoad_58 : decode cX6_joinedLoad 58 = .ok (.iload_n 3, 1) := by decide +kernel
theorem dX6_joinedLoad_59 : decode cX6_joinedLoad 59 = .ok (.baload, 1) := by decide +kernel
theorem dX6_joinedLoad_60 : decode cX6_joinedLoad 60 = .ok (.iadd, 1) := by decide +kernel
theorem dX6_joinedLoad_61 : decode cX6_joinedLoad 61 = .ok (.i2b, 1) := by decide +kernel
theorem dX6_joinedLoad_62 : decode cX6_joinedLoad 62 = .ok (.ireturn, 1) := by decide +kernel
theorem dX6_isBarred_0 : decode cX6_isBarred 0 = .ok (.iload_n 1, 1) := by decide +kernel
theorem dX6_isBarred_1 : decode cX6_isBarred 1 = .ok (.ifCond .lt 20, 3) := by decide +kernel
theorem dX6_isBarred_4 : decode cX6_isBarred 4 = .ok (.iload_n 1, 1) := by decide +kernel
theorem dX6_isBarred_5 : decode cX6_isBarred 5 = .ok (.aload_n 0, 1) := by decide +kernel
theorem dX6_isBarred_6 : decode cX6_isBarred 6 = .ok (.getfield 9, 3) := by decide +kernel
theorem dX6_isBarred_9 : decode cX6_isBarred 9 = .ok (.if_icmp .ge 12, 3) := by decide +kernel
theorem dX6_isBarred_12 : decode cX6_isBarred 12 = .ok (.aload_n 0, 1) := by decide +kernel
theorem dX6_isBarred_13 : decode cX6_isBarred 13 = .ok (.getfield 22, 3) := by decide +kernel
theorem dX6_isBarred_16 : decode cX6_isBarred 16 = .ok (.iload_n 1, 1) := by decide +kernel
theorem dX6_isBarred_17 : decode cX6_isBarred 17 = .ok (.baload, 1) := by decide +kernel
theorem dX6_isBarred_18 : decode cX6_isBarred 18 = .ok (.ifCond .ge 7, 3) := by decide +kernel
theorem dX6_isBarred_21 : decode cX6_isBarred 21 = .ok (.iconst 1, 1) := by decide +kernel
theorem dX6_isBarred_22 : decode cX6_isBarred 22 = .ok (.goto 4, 3) := by decide +kernel
theorem dX6_isBarred_25 : decode cX6_isBarred 25 = .ok (.iconst 0, 1) := by decide +kernel
theorem dX6_isBarred_26 : decode cX6_isBarred 26 = .ok (.ireturn, 1) := by decide +kernel
theorem dX6_isHeld_0 : decode cX6_isHeld 0 = .ok (.aload_n 0, 1) := by decide +kernel
theorem dX6_isHeld_1 : decode cX6_isHeld 1 = .ok (.iload_n 1, 1) := by decide +kernel
theorem dX6_isHeld_2 : decode cX6_isHeld 2 = .ok (.invokevirtual 142, 3) := by decide +kernel
theorem dX6_isHeld_5 : decode cX6_isHeld 5 = .ok (.ifCond .ne 17, 3) := by decide +kernel
theorem dX6_isHeld_8 : decode cX6_isHeld 8 = .ok (.aload_n 0, 1) := by decide +kernel
theorem dX6_isHeld_9 : decode cX6_isHeld 9 = .ok (.getfield 22, 3) := by decide +kernel
theorem dX6_isHeld_12 : decode cX6_isHeld 12 = .ok (.iload_n 1, 1) := by decide +kernel
theorem dX6_isHeld_13 : decode cX6_isHeld 13 = .ok (.baload, 1) := by decide +kernel
theorem dX6_isHeld_14 : decode cX6_isHeld 14 = .ok (.iload_n 2, 1) := by decide +kernel
theorem dX6_isHeld_15 : decode cX6_isHeld 15 = .ok (.if_icmp .gt 7, 3) := by decide +kernel
theorem dX6_isHeld_18 : decode cX6_isHeld 18 = .ok (.iconst 1, 1) := by decide +kernel
theorem dX6_isHeld_19 : decode cX6_isHeld 19 = .ok (.goto 4, 3) := by decide +kernel
theorem dX6_isHeld_22 : decode cX6_isHeld 22 = .ok (.iconst 0, 1) := by decide +kernel
theorem dX6_isHeld_23 : decode cX6_isHeld 23 = .ok (.ireturn, 1) := by decide +kernel
theorem dX6_turnAt_0 : decode cX6_turnAt 0 = .ok (.iload_n 3, 1) := by decide +kernel
theorem dX6_turnAt_1 : decode cX6_turnAt 1 = .ok (.ifCond .lt 31, 3) := by decide +kernel
theorem dX6_turnAt_4 : decode cX6_turnAt 4 = .ok (.iload_n 3, 1) := by decide +kernel
theorem dX6_turnAt_5 : decode cX6_turnAt 5 = .ok (.aload_n 1, 1) := by decide +kernel
theorem dX6_turnAt_6 : decode cX6_turnAt 6 = .ok (.getfield 67, 3) := by decide +kernel
theorem dX6_turnAt_9 : decode cX6_turnAt 9 = .ok (.if_icmp .ge 23, 3) := by decide +kernel
theorem dX6_turnAt_12 : decode cX6_turnAt 12 = .ok (.aload_n 0, 1) := by decide +kernel
theorem dX6_turnAt_13 : decode cX6_turnAt 13 = .ok (.getfield 15, 3) := by decide +kernel
theorem dX6_turnAt_16 : decode cX6_turnAt 16 = .ok (.iload_n 3, 1) := by decide +kernel
theorem dX6_turnAt_17 : decode cX6_turnAt 17 = .ok (.iaload, 1) := by decide +kernel
theorem dX6_turnAt_18 : decode cX6_turnAt 18 = .ok (.iconst 1, 1) := by decide +kernel
theorem dX6_turnAt_19 : decode cX6_turnAt 19 = .ok (.if_icmp .lt 13, 3) := by decide +kernel
theorem dX6_turnAt_22 : decode cX6_turnAt 22 = .ok (.aload_n 0, 1) := by decide +kernel
theorem dX6_turnAt_23 : decode cX6_turnAt 23 = .ok (.getfield 19, 3) := by decide +kernel
theorem dX6_turnAt_26 : decode cX6_turnAt 26 = .ok (.iload_n 3, 1) := by decide +kernel
theorem dX6_turnAt_27 : decode cX6_turnAt 27 = .ok (.iaload, 1) := by decide +kernel
theorem dX6_turnAt_28 : decode cX6_turnAt 28 = .ok (.iconst 1, 1) := by decide +kernel
theorem dX6_turnAt_29 : decode cX6_turnAt 29 = .ok (.if_icmp .ge 5, 3) := by decide +kernel
theorem dX6_turnAt_32 : decode cX6_turnAt 32 = .ok (.iconst 0, 1) := by decide +kernel
theorem dX6_turnAt_33 : decode cX6_turnAt 33 = .ok (.ireturn, 1) := by decide +kernel
theorem dX6_turnAt_34 : decode cX6_turnAt 34 = .ok (.iload_n 2, 1) := by decide +kernel
theorem dX6_turnAt_35 : decode cX6_turnAt 35 = .ok (.aload_n 0, 1) := by decide +kernel
theorem dX6_turnAt_36 : decode cX6_turnAt 36 = .ok (.getfield 15, 3) := by decide +kernel
theorem dX6_turnAt_39 : decode cX6_turnAt 39 = .ok (.iload_n 3, 1) := by decide +kernel
theorem dX6_turnAt_40 : decode cX6_turnAt 40 = .ok (.iaload, 1) := by decide +kernel
theorem dX6_turnAt_41 : decode cX6_turnAt 41 = .ok (.idiv, 1) := by decide +kernel
theorem dX6_turnAt_42 : decode cX6_turnAt 42 = .ok (.aload_n 0, 1) := by decide +kernel
theorem dX6_turnAt_43 : decode cX6_turnAt 43 = .ok (.getfield 19, 3) := by decide +kernel
theorem dX6_turnAt_46 : decode cX6_turnAt 46 = .ok (.iload_n 3, 1) := by decide +kernel
theorem dX6_turnAt_47 : decode cX6_turnAt 47 = .ok (.iaload, 1) := by decide +kernel
theorem dX6_turnAt_48 : decode cX6_turnAt 48 = .ok (.irem, 1) := by decide +kernel
theorem dX6_turnAt_49 : decode cX6_turnAt 49 = .ok (.aload_n 1, 1) := by decide +kernel
theorem dX6_turnAt_50 : decode cX6_turnAt 50 = .ok (.getfield 146, 3) := by decide +kernel
theorem dX6_turnAt_53 : decode cX6_turnAt 53 = .ok (.iload_n 3, 1) := by decide +kernel
theorem dX6_turnAt_54 : decode cX6_turnAt 54 = .ok (.iaload, 1) := by decide +kernel
theorem dX6_turnAt_55 : decode cX6_turnAt 55 = .ok (.isub, 1) := by decide +kernel
theorem dX6_turnAt_56 : decode cX6_turnAt 56 = .ok (.ireturn, 1) := by decide +kernel
theorem dX6_placeOf_0 : decode cX6_placeOf 0 = .ok (.iconst 0, 1) := by decide +kernel
theorem dX6_placeOf_1 : decode cX6_placeOf 1 = .ok (.istore_n 3, 1) := by decide +kernel
theorem dX6_placeOf_2 : decode cX6_placeOf 2 = .ok (.iconst 0, 1) := by decide +kernel
theorem dX6_placeOf_3 : decode cX6_placeOf 3 = .ok (.istore 4, 2) := by decide +kernel
theorem dX6_placeOf_5 : decode cX6_placeOf 5 = .ok (.iload 4, 2) := by decide +kernel
theorem dX6_placeOf_7 : decode cX6_placeOf 7 = .ok (.aload_n 1, 1) := by decide +kernel
theorem dX6_placeOf_8 : decode cX6_placeOf 8 = .ok (.getfield 67, 3) := by decide +kernel
theorem dX6_placeOf_11 : decode cX6_placeOf 11 = .ok (.if_icmp .ge 39, 3) := by decide +kernel
theorem dX6_placeOf_14 : decode cX6_placeOf 14 = .ok (.iload 4, 2) := by decide +kernel
theorem dX6_placeOf_16 : decode cX6_placeOf 16 = .ok (.aload_n 2, 1) := by decide +kernel
theorem dX6_placeOf_17 : decode cX6_placeOf 17 = .ok (.arraylength, 1) := by decide +kernel
theorem dX6_placeOf_18 : decode cX6_placeOf 18 = .ok (.if_icmp .ge 32, 3) := by decide +kernel
theorem dX6_placeOf_21 : decode cX6_placeOf 21 = .ok (.iload_n 3, 1) := by decide +kernel
theorem dX6_placeOf_22 : decode cX6_placeOf 22 = .ok (.aload_n 2, 1) := by decide +kernel
theorem dX6_placeOf_23 : decode cX6_placeOf 23 = .ok (.iload 4, 2) := by decide +kernel
theorem dX6_placeOf_25 : decode cX6_placeOf 25 = .ok (.iaload, 1) := by decide +kernel
theorem dX6_placeOf_26 : decode cX6_placeOf 26 = .ok (.aload_n 1, 1) := by decide +kernel
theorem dX6_placeOf_27 : decode cX6_placeOf 27 = .ok (.getfield 146, 3) := by decide +kernel
theorem dX6_placeOf_30 : decode cX6_placeOf 30 = .ok (.iload 4, 2) := by decide +kernel
theorem dX6_placeOf_32 : decode cX6_placeOf 32 = .ok (.iaload, 1) := by decide +kernel
theorem dX6_placeOf_33 : decode cX6_placeOf 33 = .ok (.iadd, 1) := by decide +kernel
theorem dX6_placeOf_34 : decode cX6_placeOf 34 = .ok (.aload_n 0, 1) := by decide +kernel
theorem dX6_placeOf_35 : decode cX6_placeOf 35 = .ok (.getfield 15, 3) := by decide +kernel
theorem dX6_placeOf_38 : decode cX6_placeOf 38 = .ok (.iload 4, 2) := by decide +kernel
theorem dX6_placeOf_40 : decode cX6_placeOf 40 = .ok (.iaload, 1) := by decide +kernel
theorem dX6_placeOf_41 : decode cX6_placeOf 41 = .ok (.imul, 1) := by decide +kernel
theorem dX6_placeOf_42 : decode cX6_placeOf 42 = .ok (.iadd, 1) := by decide +kernel
theorem dX6_placeOf_43 : decode cX6_placeOf 43 = .ok (.istore_n 3, 1) := by decide +kernel
theorem dX6_placeOf_44 : decode cX6_placeOf 44 = .ok (.iinc 4 1, 3) := by decide +kernel
theorem dX6_placeOf_47 : decode cX6_placeOf 47 = .ok (.goto (-42), 3) := by decide +kernel
theorem dX6_placeOf_50 : decode cX6_placeOf 50 = .ok (.iload_n 3, 1) := by decide +kernel
theorem dX6_placeOf_51 : decode cX6_placeOf 51 = .ok (.ireturn, 1) := by decide +kernel
theorem dX6_offOf_0 : decode cX6_offOf 0 = .ok (.iload_n 2, 1) := by decide +kernel
theorem dX6_offOf_1 : decode cX6_offOf 1 = .ok (.ifCond .lt 11, 3) := by decide +kernel
theorem dX6_offOf_4 : decode cX6_offOf 4 = .ok (.iload_n 2, 1) := by decide +kernel
theorem dX6_offOf_5 : decode cX6_offOf 5 = .ok (.aload_n 0, 1) := by decide +kernel
theorem dX6_offOf_6 : decode cX6_offOf 6 = .ok (.getfield 9, 3) := by decide +kernel
theorem dX6_offOf_9 : decode cX6_offOf 9 = .ok (.if_icmp .lt 8, 3) := by decide +kernel
theorem dX6_offOf_12 : decode cX6_offOf 12 = .ok (.bipush (-9), 2) := by decide +kernel
theorem dX6_offOf_14 : decode cX6_offOf 14 = .ok (.goto 19, 3) := by decide +kernel
theorem dX6_offOf_17 : decode cX6_offOf 17 = .ok (.aload_n 1, 1) := by decide +kernel
theorem dX6_offOf_18 : decode cX6_offOf 18 = .ok (.aload_n 0, 1) := by decide +kernel
theorem dX6_offOf_19 : decode cX6_offOf 19 = .ok (.getfield 33, 3) := by decide +kernel
theorem dX6_offOf_22 : decode cX6_offOf 22 = .ok (.iload_n 2, 1) := by decide +kernel
theorem dX6_offOf_23 : decode cX6_offOf 23 = .ok (.laload, 1) := by decide +kernel
theorem dX6_offOf_24 : decode cX6_offOf 24 = .ok (.aload_n 0, 1) := by decide +kernel
theorem dX6_offOf_25 : decode cX6_offOf 25 = .ok (.getfield 36, 3) := by decide +kernel
theorem dX6_offOf_28 : decode cX6_offOf 28 = .ok (.iload_n 2, 1) := by decide +kernel
theorem dX6_offOf_29 : decode cX6_offOf 29 = .ok (.laload, 1) := by decide +kernel
theorem dX6_offOf_30 : decode cX6_offOf 30 = .ok (.invokevirtual 149, 3) := by decide +kernel
theorem dX6_offOf_33 : decode cX6_offOf 33 = .ok (.ireturn, 1) := by decide +kernel
theorem dX6_nearestTurns_0 : decode cX6_nearestTurns 0 = .ok (.bipush (-9), 2) := by decide +kernel
theorem dX6_nearestTurns_2 : decode cX6_nearestTurns 2 = .ok (.istore 5, 2) := by decide +kernel
theorem dX6_nearestTurns_4 : decode cX6_nearestTurns 4 = .ok (.iconst 0, 1) := by decide +kernel
theorem dX6_nearestTurns_5 : decode cX6_nearestTurns 5 = .ok (.istore 6, 2) := by decide +kernel
theorem dX6_nearestTurns_7 : decode cX6_nearestTurns 7 = .ok (.iconst 0, 1) := by decide +kernel
theorem dX6_nearestTurns_8 : decode cX6_nearestTurns 8 = .ok (.istore 7, 2) := by decide +kernel
theorem dX6_nearestTurns_10 : decode cX6_nearestTurns 10 = .ok (.iload 7, 2) := by decide +kernel
theorem dX6_nearestTurns_12 : decode cX6_nearestTurns 12 = .ok (.aload_n 0, 1) := by decide +kernel
theorem dX6_nearestTurns_13 : decode cX6_nearestTurns 13 = .ok (.getfield 9, 3) := by decide +kernel
theorem dX6_nearestTurns_16 : decode cX6_nearestTurns 16 = .ok (.if_icmp .ge 75, 3) := by decide +kernel
theorem dX6_nearestTurns_19 : decode cX6_nearestTurns 19 = .ok (.aload_n 0, 1) := by decide +kernel
theorem dX6_nearestTurns_20 : decode cX6_nearestTurns 20 = .ok (.iload 7, 2) := by decide +kernel
theorem dX6_nearestTurns_22 : decode cX6_nearestTurns 22 = .ok (.iload_n 3, 1) := by decide +kernel
theorem dX6_nearestTurns_23 : decode cX6_nearestTurns 23 = .ok (.invokevirtual 155, 3) := by decide +kernel
theorem dX6_nearestTurns_26 : decode cX6_nearestTurns 26 = .ok (.ifCond .ne 6, 3) := by decide +kernel
theorem dX6_nearestTurns_29 : decode cX6_nearestTurns 29 = .ok (.goto 56, 3) := by decide +kernel
theorem dX6_nearestTurns_32 : decode cX6_nearestTurns 32 = .ok (.iload 4, 2) := by decide +kernel
theorem dX6_nearestTurns_34 : decode cX6_nearestTurns 34 = .ok (.bipush (-9), 2) := by decide +kernel
theorem dX6_nearestTurns_36 : decode cX6_nearestTurns 36 = .ok (.if_icmp .eq 18, 3) := by decide +kernel
theorem dX6_nearestTurns_39 : decode cX6_nearestTurns 39 = .ok (.aload_n 0, 1) := by decide +kernel
theorem dX6_nearestTurns_40 : decode cX6_nearestTurns 40 = .ok (.aload_n 1, 1) := by decide +kernel
theorem dX6_nearestTurns_41 : decode cX6_nearestTurns 41 = .ok (.iload 7, 2) := by decide +kernel
theorem dX6_nearestTurns_43 : decode cX6_nearestTurns 43 = .ok (.iload 4, 2) := by decide +kernel
theorem dX6_nearestTurns_45 : decode cX6_nearestTurns 45 = .ok (.invokevirtual 159, 3) := by decide +kernel
theorem dX6_nearestTurns_48 : decode cX6_nearestTurns 48 = .ok (.ifCond .eq 6, 3) := by decide +kernel
theorem dX6_nearestTurns_51 : decode cX6_nearestTurns 51 = .ok (.goto 34, 3) := by decide +kernel
theorem dX6_nearestTurns_54 : decode cX6_nearestTurns 54 = .ok (.aload_n 0, 1) := by decide +kernel
theorem dX6_nearestTurns_55 : decode cX6_nearestTurns 55 = .ok (.aload_n 2, 1) := by decide +kernel
theorem dX6_nearestTurns_56 : decode cX6_nearestTurns 56 = .ok (.iload 7, 2) := by decide +kernel
theorem dX6_nearestTurns_58 : decode cX6_nearestTurns 58 = .ok (.invokevirtual 163, 3) := by decide +kernel
theorem dX6_nearestTurns_61 : decode cX6_nearestTurns 61 = .ok (.istore 8, 2) := by decide +kernel
theorem dX6_nearestTurns_63 : decode cX6_nearestTurns 63 = .ok (.iload 5, 2) := by decide +kernel
theorem dX6_nearestTurns_65 : decode cX6_nearestTurns 65 = .ok (.bipush (-9), 2) := by decide +kernel
theorem dX6_nearestTurns_67 : decode cX6_nearestTurns 67 = .ok (.if_icmp .eq 10, 3) := by decide +kernel
theorem dX6_nearestTurns_70 : decode cX6_nearestTurns 70 = .ok (.iload 8, 2) := by decide +kernel
theorem dX6_nearestTurns_72 : decode cX6_nearestTurns 72 = .ok (.iload 6, 2) := by decide +kernel
theorem dX6_nearestTurns_74 : decode cX6_nearestTurns 74 = .ok (.if_icmp .ge 11, 3) := by decide +kernel
theorem dX6_nearestTurns_77 : decode cX6_nearestTurns 77 = .ok (.iload 7, 2) := by decide +kernel
theorem dX6_nearestTurns_79 : decode cX6_nearestTurns 79 = .ok (.istore 5, 2) := by decide +kernel
theorem dX6_nearestTurns_81 : decode cX6_nearestTurns 81 = .ok (.iload 8, 2) := by decide +kernel
theorem dX6_nearestTurns_83 : decode cX6_nearestTurns 83 = .ok (.istore 6, 2) := by decide +kernel
theorem dX6_nearestTurns_85 : decode cX6_nearestTurns 85 = .ok (.iinc 7 1, 3) := by decide +kernel
theorem dX6_nearestTurns_88 : decode cX6_nearestTurns 88 = .ok (.goto (-78), 3) := by decide +kernel
theorem dX6_nearestTurns_91 : decode cX6_nearestTurns 91 = .ok (.iload 5, 2) := by decide +kernel
theorem dX6_nearestTurns_93 : decode cX6_nearestTurns 93 = .ok (.ireturn, 1) := by decide +kernel
theorem dX6_leastOff_0 : decode cX6_leastOff 0 = .ok (.aload_n 0, 1) := by decide +kernel
theorem dX6_leastOff_1 : decode cX6_leastOff 1 = .ok (.aload_n 2, 1) := by decide +kernel
theorem dX6_leastOff_2 : decode cX6_leastOff 2 = .ok (.aload_n 0, 1) := by decide +kernel
theorem dX6_leastOff_3 : decode cX6_leastOff 3 = .ok (.aload_n 1, 1) := by decide +kernel
theorem dX6_leastOff_4 : decode cX6_leastOff 4 = .ok (.aload_n 2, 1) := by decide +kernel
theorem dX6_leastOff_5 : decode cX6_leastOff 5 = .ok (.iload_n 3, 1) := by decide +kernel
theorem dX6_leastOff_6 : decode cX6_leastOff 6 = .ok (.iload 4, 2) := by decide +kernel
theorem dX6_leastOff_8 : decode cX6_leastOff 8 = .ok (.invokevirtual 166, 3) := by decide +kernel
theorem dX6_leastOff_11 : decode cX6_leastOff 11 = .ok (.invokevirtual 163, 3) := by decide +kernel
theorem dX6_leastOff_14 : decode cX6_leastOff 14 = .ok (.ireturn, 1) := by decide +kernel
theorem dX6_joinDark_0 : decode cX6_joinDark 0 = .ok (.aload_n 2, 1) := by decide +kernel
theorem dX6_joinDark_1 : decode cX6_joinDark 1 = .ok (.invokevirtual 105, 3) := by decide +kernel
theorem dX6_joinDark_4 : decode cX6_joinDark 4 = .ok (.iconst 0, 1) := by decide +kernel
theorem dX6_joinDark_5 : decode cX6_joinDark 5 = .ok (.istore_n 3, 1) := by decide +kernel
theorem dX6_joinDark_6 : decode cX6_joinDark 6 = .ok (.iload_n 3, 1) := by decide +kernel
theorem dX6_joinDark_7 : decode cX6_joinDark 7 = .ok (.aload_n 0, 1) := by decide +kernel
theorem dX6_joinDark_8 : decode cX6_joinDark 8 = .ok (.getfield 9, 3) := by decide +kernel
theorem dX6_joinDark_11 : decode cX6_joinDark 11 = .ok (.if_icmp .ge 34, 3) := by decide +kernel
theorem dX6_joinDark_14 : decode cX6_joinDark 14 = .ok (.aload_n 0, 1) := by decide +kernel
theorem dX6_joinDark_15 : decode cX6_joinDark 15 = .ok (.iload_n 3, 1) := by decide +kernel
theorem dX6_joinDark_16 : decode cX6_joinDark 16 = .ok (.iload_n 1, 1) := by decide +kernel
theorem dX6_joinDark_17 : decode cX6_joinDark 17 = .ok (.invokevirtual 155, 3) := by decide +kernel
theorem dX6_joinDark_20 : decode cX6_joinDark 20 = .ok (.ifCond .eq 19, 3) := by decide +kernel
theorem dX6_joinDark_23 : decode cX6_joinDark 23 = .ok (.aload_n 2, 1) := by decide +kernel
theorem dX6_joinDark_24 : decode cX6_joinDark 24 = .ok (.aload_n 0, 1) := by decide +kernel
theorem dX6_joinDark_25 : decode cX6_joinDark 25 = .ok (.getfield 26, 3) := by decide +kernel
theorem dX6_joinDark_28 : decode cX6_joinDark 28 = .ok (.iload_n 3, 1) := by decide +kernel
theorem dX6_joinDark_29 : decode cX6_joinDark 29 = .ok (.laload, 1) := by decide +kernel
theorem dX6_joinDark_30 : decode cX6_joinDark 30 = .ok (.aload_n 0, 1) := by decide +kernel
theorem dX6_joinDark_31 : decode cX6_joinDark 31 = .ok (.getfield 30, 3) := by decide +kernel
theorem dX6_joinDark_34 : decode cX6_joinDark 34 = .ok (.iload_n 3, 1) := by decide +kernel
theorem dX6_joinDark_35 : decode cX6_joinDark 35 = .ok (.laload, 1) := by decide +kernel
theorem dX6_joinDark_36 : decode cX6_joinDark 36 = .ok (.invokevirtual 170, 3) := by decide +kernel
theorem dX6_joinDark_39 : decode cX6_joinDark 39 = .ok (.iinc 3 1, 3) := by decide +kernel
theorem dX6_joinDark_42 : decode cX6_joinDark 42 = .ok (.goto (-36), 3) := by decide +kernel
theorem dX6_joinDark_45 : decode cX6_joinDark 45 = .ok (.return_, 1) := by decide +kernel
theorem dX6_throwsJust_0 : decode cX6_throwsJust 0 = .ok (.aload_n 0, 1) := by decide +kernel
theorem dX6_throwsJust_1 : decode cX6_throwsJust 1 = .ok (.iload_n 1, 1) := by decide +kernel
theorem dX6_throwsJust_2 : decode cX6_throwsJust 2 = .ok (.iload_n 3, 1) := by decide +kernel
theorem dX6_throwsJust_3 : decode cX6_throwsJust 3 = .ok (.invokevirtual 155, 3) := by decide +kernel
theorem dX6_throwsJust_6 : decode cX6_throwsJust 6 = .ok (.ifCond .eq 26, 3) := by decide +kernel
theorem dX6_throwsJust_9 : decode cX6_throwsJust 9 = .ok (.aload_n 2, 1) := by decide +kernel
theorem dX6_throwsJust_10 : decode cX6_throwsJust 10 = .ok (.aload_n 0, 1) := by decide +kernel
theorem dX6_throwsJust_11 : decode cX6_throwsJust 11 = .ok (.getfield 33, 3) := by decide +kernel
theorem dX6_throwsJust_14 : decode cX6_throwsJust 14 = .ok (.iload_n 1, 1) := by decide +kernel
theorem dX6_throwsJust_15 : decode cX6_throwsJust 15 = .ok (.laload, 1) := by decide +kernel
theorem dX6_throwsJust_16 : decode cX6_throwsJust 16 = .ok (.aload_n 0, 1) := by decide +kernel
theorem dX6_throwsJust_17 : decode cX6_throwsJust 17 = .ok (.getfield 36, 3) := by decide +kernel
theorem dX6_throwsJust_20 : decode cX6_throwsJust 20 = .ok (.iload_n 1, 1) := by decide +kernel
theorem dX6_throwsJust_21 : decode cX6_throwsJust 21 = .ok (.laload, 1) := by decide +kernel
theorem dX6_throwsJust_22 : decode cX6_throwsJust 22 = .ok (.invokevirtual 173, 3) := by decide +kernel
theorem dX6_throwsJust_25 : decode cX6_throwsJust 25 = .ok (.ifCond .eq 7, 3) := by decide +kernel
theorem dX6_throwsJust_28 : decode cX6_throwsJust 28 = .ok (.iconst 1, 1) := by decide +kernel
theorem dX6_throwsJust_29 : decode cX6_throwsJust 29 = .ok (.goto 4, 3) := by decide +kernel
theorem dX6_throwsJust_32 : decode cX6_throwsJust 32 = .ok (.iconst 0, 1) := by decide +kernel
theorem dX6_throwsJust_33 : decode cX6_throwsJust 33 = .ok (.ireturn, 1) := by decide +kernel
theorem dX6_numberThrowing_0 : decode cX6_numberThrowing 0 = .ok (.iconst 0, 1) := by decide +kernel
theorem dX6_numberThrowing_1 : decode cX6_numberThrowing 1 = .ok (.istore_n 3, 1) := by decide +kernel
theorem dX6_numberThrowing_2 : decode cX6_numberThrowing 2 = .ok (.iconst 0, 1) := by decide +kernel
theorem dX6_numberThrowing_3 : decode cX6_numberThrowing 3 = .ok (.istore 4, 2) := by decide +kernel
theorem dX6_numberThrowing_5 : decode cX6_numberThrowing 5 = .ok (.iload 4, 2) := by decide +kernel
theorem dX6_numberThrowing_7 : decode cX6_numberThrowing 7 = .ok (.aload_n 0, 1) := by decide +kernel
theorem dX6_numberThrowing_8 : decode cX6_numberThrowing 8 = .ok (.getfield 9, 3) := by decide +kernel
theorem dX6_numberThrowing_11 : decode cX6_numberThrowing 11 = .ok (.if_icmp .ge 23, 3) := by decide +kernel
theorem dX6_numberThrowing_14 : decode cX6_numberThrowing 14 = .ok (.aload_n 0, 1) := by decide +kernel
theorem dX6_numberThrowing_15 : decode cX6_numberThrowing 15 = .ok (.iload 4, 2) := by decide +kernel
theorem dX6_numberThrowing_17 : decode cX6_numberThrowing 17 = .ok (.aload_n 1, 1) := by decide +kernel
theorem dX6_numberThrowing_18 : decode cX6_numberThrowing 18 = .ok (.iload_n 2, 1) := by decide +kernel
theorem dX6_numberThrowing_19 : decode cX6_numberThrowing 19 = .ok (.invokevirtual 177, 3) := by decide +kernel
theorem dX6_numberThrowing_22 : decode cX6_numberThrowing 22 = .ok (.ifCond .eq 6, 3) := by decide +kernel
theorem dX6_numberThrowing_25 : decode cX6_numberThrowing 25 = .ok (.iinc 3 1, 3) := by decide +kernel
theorem dX6_numberThrowing_28 : decode cX6_numberThrowing 28 = .ok (.iinc 4 1, 3) := by decide +kernel
theorem dX6_numberThrowing_31 : decode cX6_numberThrowing 31 = .ok (.goto (-26), 3) := by decide +kernel
theorem dX6_numberThrowing_34 : decode cX6_numberThrowing 34 = .ok (.iload_n 3, 1) := by decide +kernel
theorem dX6_numberThrowing_35 : decode cX6_numberThrowing 35 = .ok (.ireturn, 1) := by decide +kernel
theorem dX6_alikeJoints_0 : decode cX6_alikeJoints 0 = .ok (.iconst 1, 1) := by decide +kernel
theorem dX6_alikeJoints_1 : decode cX6_alikeJoints 1 = .ok (.aload_n 1, 1) := by decide +kernel
theorem dX6_alikeJoints_2 : decode cX6_alikeJoints 2 = .ok (.getfield 67, 3) := by decide +kernel
theorem dX6_alikeJoints_5 : decode cX6_alikeJoints 5 = .ok (.ishl, 1) := by decide +kernel
theorem dX6_alikeJoints_6 : decode cX6_alikeJoints 6 = .ok (.iconst 1, 1) := by decide +kernel
theorem dX6_alikeJoints_7 : decode cX6_alikeJoints 7 = .ok (.isub, 1) := by decide +kernel
theorem dX6_alikeJoints_8 : decode cX6_alikeJoints 8 = .ok (.istore 4, 2) := by decide +kernel
theorem dX6_alikeJoints_10 : decode cX6_alikeJoints 10 = .ok (.bipush (-9), 2) := by decide +kernel
theorem dX6_alikeJoints_12 : decode cX6_alikeJoints 12 = .ok (.istore 5, 2) := by decide +kernel
theorem dX6_alikeJoints_14 : decode cX6_alikeJoints 14 = .ok (.iconst 0, 1) := by decide +kernel
theorem dX6_alikeJoints_15 : decode cX6_alikeJoints 15 = .ok (.istore 6, 2) := by decide +kernel
theorem dX6_alikeJoints_17 : decode cX6_alikeJoints 17 = .ok (.iload 6, 2) := by decide +kernel
theorem dX6_alikeJoints_19 : decode cX6_alikeJoints 19 = .ok (.aload_n 0, 1) := by decide +kernel
theorem dX6_alikeJoints_20 : decode cX6_alikeJoints 20 = .ok (.getfield 9, 3) := by decide +kernel
theorem dX6_alikeJoints_23 : decode cX6_alikeJoints 23 = .ok (.if_icmp .ge 84, 3) := by decide +kernel
theorem dX6_alikeJoints_26 : decode cX6_alikeJoints 26 = .ok (.aload_n 0, 1) := by decide +kernel
theorem dX6_alikeJoints_27 : decode cX6_alikeJoints 27 = .ok (.iload 6, 2) := by decide +kernel
theorem dX6_alikeJoints_29 : decode cX6_alikeJoints 29 = .ok (.aload_n 2, 1) := by decide +kernel
theorem dX6_alikeJoints_30 : decode cX6_alikeJoints 30 = .ok (.iload_n 3, 1) := by decide +kernel
theorem dX6_alikeJoints_31 : decode cX6_alikeJoints 31 = .ok (.invokevirtual 177, 3) := by decide +kernel
theorem dX6_alikeJoints_34 : decode cX6_alikeJoints 34 = .ok (.ifCond .ne 6, 3) := by decide +kernel
theorem dX6_alikeJoints_37 : decode cX6_alikeJoints 37 = .ok (.goto 64, 3) := by decide +kernel
theorem dX6_alikeJoints_40 : decode cX6_alikeJoints 40 = .ok (.iload 5, 2) := by decide +kernel
theorem dX6_alikeJoints_42 : decode cX6_alikeJoints 42 = .ok (.bipush (-9), 2) := by decide +kernel
theorem dX6_alikeJoints_44 : decode cX6_alikeJoints 44 = .ok (.if_icmp .ne 7, 3) := by decide +kernel
theorem dX6_alikeJoints_47 : decode cX6_alikeJoints 47 = .ok (.iload 6, 2) := by decide +kernel
theorem dX6_alikeJoints_49 : decode cX6_alikeJoints 49 = .ok (.istore 5, 2) := by decide +kernel
theorem dX6_alikeJoints_51 : decode cX6_alikeJoints 51 = .ok (.iconst 0, 1) := by decide +kernel
theorem dX6_alikeJoints_52 : decode cX6_alikeJoints 52 = .ok (.istore 7, 2) := by decide +kernel
theorem dX6_alikeJoints_54 : decode cX6_alikeJoints 54 = .ok (.iload 7, 2) := by decide +kernel
theorem dX6_alikeJoints_56 : decode cX6_alikeJoints 56 = .ok (.aload_n 1, 1) := by decide +kernel
theorem dX6_alikeJoints_57 : decode cX6_alikeJoints 57 = .ok (.getfield 67, 3) := by decide +kernel
theorem dX6_alikeJoints_60 : decode cX6_alikeJoints 60 = .ok (.if_icmp .ge 41, 3) := by decide +kernel
theorem dX6_alikeJoints_63 : decode cX6_alikeJoints 63 = .ok (.aload_n 0, 1) := by decide +kernel
theorem dX6_alikeJoints_64 : decode cX6_alikeJoints 64 = .ok (.aload_n 1, 1) := by decide +kernel
theorem dX6_alikeJoints_65 : decode cX6_alikeJoints 65 = .ok (.iload 6, 2) := by decide +kernel
theorem dX6_alikeJoints_67 : decode cX6_alikeJoints 67 = .ok (.iload 7, 2) := by decide +kernel
theorem dX6_alikeJoints_69 : decode cX6_alikeJoints 69 = .ok (.invokevirtual 159, 3) := by decide +kernel
theorem dX6_alikeJoints_72 : decode cX6_alikeJoints 72 = .ok (.aload_n 0, 1) := by decide +kernel
theorem dX6_alikeJoints_73 : decode cX6_alikeJoints 73 = .ok (.aload_n 1, 1) := by decide +kernel
theorem dX6_alikeJoints_74 : decode cX6_alikeJoints 74 = .ok (.iload 5, 2) := by decide +kernel
theorem dX6_alikeJoints_76 : decode cX6_alikeJoints 76 = .ok (.iload 7, 2) := by decide +kernel
theorem dX6_alikeJoints_78 : decode cX6_alikeJoints 78 = .ok (.invokevirtual 159, 3) := by decide +kernel
theorem dX6_alikeJoints_81 : decode cX6_alikeJoints 81 = .ok (.if_icmp .eq 14, 3) := by decide +kernel
theorem dX6_alikeJoints_84 : decode cX6_alikeJoints 84 = .ok (.iload 4, 2) := by decide +kernel
theorem dX6_alikeJoints_86 : decode cX6_alikeJoints 86 = .ok (.iconst 1, 1) := by decide +kernel
theorem dX6_alikeJoints_87 : decode cX6_alikeJoints 87 = .ok (.iload 7, 2) := by decide +kernel
theorem dX6_alikeJoints_89 : decode cX6_alikeJoints 89 = .ok (.ishl, 1) := by decide +kernel
theorem dX6_alikeJoints_90 : decode cX6_alikeJoints 90 = .ok (.iconst (-1), 1) := by decide +kernel
theorem dX6_alikeJoints_91 : decode cX6_alikeJoints 91 = .ok (.ixor, 1) := by decide +kernel
theorem dX6_alikeJoints_92 : decode cX6_alikeJoints 92 = .ok (.iand, 1) := by decide +kernel
theorem dX6_alikeJoints_93 : decode cX6_alikeJoints 93 = .ok (.istore 4, 2) := by decide +kernel
theorem dX6_alikeJoints_95 : decode cX6_alikeJoints 95 = .ok (.iinc 7 1, 3) := by decide +kernel
theorem dX6_alikeJoints_98 : decode cX6_alikeJoints 98 = .ok (.goto (-44), 3) := by decide +kernel
theorem dX6_alikeJoints_101 : decode cX6_alikeJoints 101 = .ok (.iinc 6 1, 3) := by decide +kernel
theorem dX6_alikeJoints_104 : decode cX6_alikeJoints 104 = .ok (.goto (-87), 3) := by decide +kernel
theorem dX6_alikeJoints_107 : decode cX6_alikeJoints 107 = .ok (.iload 4, 2) := by decide +kernel
theorem dX6_alikeJoints_109 : decode cX6_alikeJoints 109 = .ok (.ireturn, 1) := by decide +kernel
theorem dX7_init_0 : decode cX7_init 0 = .ok (.aload_n 0, 1) := by decide +kernel
theorem dX7_init_1 : decode cX7_init 1 = .ok (.invokespecial 3, 3) := by decide +kernel
theorem dX7_init_4 : decode cX7_init 4 = .ok (.return_, 1) := by decide +kernel
theorem dX7_read_0 : decode cX7_read 0 = .ok (.aload_n 0, 1) := by decide +kernel
theorem dX7_read_1 : decode cX7_read 1 = .ok (.aload_n 1, 1) := by decide +kernel
theorem dX7_read_2 : decode cX7_read 2 = .ok (.putfield 9, 3) := by decide +kernel
theorem dX7_read_5 : decode cX7_read 5 = .ok (.aload_n 0, 1) := by decide +kernel
theorem dX7_read_6 : decode cX7_read 6 = .ok (.aload_n 2, 1) := by decide +kernel
theorem dX7_read_7 : decode cX7_read 7 = .ok (.putfield 15, 3) := by decide +kernel
theorem dX7_read_10 : decode cX7_read 10 = .ok (.aload_n 0, 1) := by decide +kernel
theorem dX7_read_11 : decode cX7_read 11 = .ok (.iconst 0, 1) := by decide +kernel
theorem dX7_read_12 : decode cX7_read 12 = .ok (.putfield 19, 3) := by decide +kernel
theorem dX7_read_15 : decode cX7_read 15 = .ok (.aload_n 0, 1) := by decide +kernel
theorem dX7_read_16 : decode cX7_read 16 = .ok (.getfield 15, 3) := by decide +kernel
theorem dX7_read_19 : decode cX7_read 19 = .ok (.invokevirtual 23, 3) := by decide +kernel
theorem dX7_read_22 : decode cX7_read 22 = .ok (.iconst 0, 1) := by decide +kernel
theorem dX7_read_23 : decode cX7_read 23 = .ok (.istore_n 3, 1) := by decide +kernel
theorem dX7_read_24 : decode cX7_read 24 = .ok (.iload_n 3, 1) := by decide +kernel
theorem dX7_read_25 : decode cX7_read 25 = .ok (.bipush 80, 2) := by decide +kernel
theorem dX7_read_27 : decode cX7_read 27 = .ok (.if_icmp .gt 35, 3) := by decide +kernel
theorem dX7_read_30 : decode cX7_read 30 = .ok (.aload_n 0, 1) := by decide +kernel
theorem dX7_read_31 : decode cX7_read 31 = .ok (.getfield 19, 3) := by decide +kernel
theorem dX7_read_34 : decode cX7_read 34 = .ok (.aload_n 0, 1) := by decide +kernel
theorem dX7_read_35 : decode cX7_read 35 = .ok (.getfield 9, 3) := by decide +kernel
theorem dX7_read_38 : decode cX7_read 38 = .ok (.getfield 28, 3) := by decide +kernel
theorem dX7_read_41 : decode cX7_read 41 = .ok (.if_icmp .ge 21, 3) := by decide +kernel
theorem dX7_read_44 : decode cX7_read 44 = .ok (.aload_n 0, 1) := by decide +kernel
theorem dX7_read_45 : decode cX7_read 45 = .ok (.invokevirtual 33, 3) := by decide +kernel
theorem dX7_read_48 : decode cX7_read 48 = .ok (.ifCond .ne 8, 3) := by decide +kernel
theorem dX7_read_51 : decode cX7_read 51 = .ok (.aload_n 0, 1) := by decide +kernel
theorem dX7_read_52 : decode cX7_read 52 = .ok (.getfield 19, 3) := by decide +kernel
theorem dX7_read_55 : decode cX7_read 55 = .ok (.ireturn, 1) := by decide +kernel
theorem dX7_read_56 : decode cX7_read 56 = .ok (.iinc 3 1, 3) := by decide +kernel
theorem dX7_read_59 : decode cX7_read 59 = .ok (.goto (-35), 3) := by decide +kernel
theorem dX7_read_62 : decode cX7_read 62 = .ok (.bipush (-9), 2) := by decide +kernel
theorem dX7_read_64 : decode cX7_read 64 = .ok (.ireturn, 1) := by decide +kernel
theorem dX7_readOne_0 : decode cX7_readOne 0 = .ok (.aload_n 0, 1) := by decide +kernel
theorem dX7_readOne_1 : decode cX7_readOne 1 = .ok (.getfield 9, 3) := by decide +kernel
theorem dX7_readOne_4 : decode cX7_readOne 4 = .ok (.aload_n 0, 1) := by decide +kernel
theorem dX7_readOne_5 : decode cX7_readOne 5 = .ok (.getfield 19, 3) := by decide +kernel
theorem dX7_readOne_8 : decode cX7_readOne 8 = .ok (.invokevirtual 37, 3) := by decide +kernel
theorem dX7_readOne_11 : decode cX7_readOne 11 = .ok (.istore_n 1, 1) := by decide +kernel
theorem dX7_readOne_12 : decode cX7_readOne 12 = .ok (.iload_n 1, 1) := by decide +kernel
theorem dX7_readOne_13 : decode cX7_readOne 13 = .ok (.bipush 104, 2) := by decide +kernel
theorem dX7_readOne_15 : decode cX7_readOne 15 = .ok (.if_icmp .ne 8, 3) := by decide +kernel
theorem dX7_readOne_18 : decode cX7_readOne 18 = .ok (.aload_n 0, 1) := by decide +kernel
theorem dX7_readOne_19 : decode cX7_readOne 19 = .ok (.invokevirtual 41, 3) := by decide +kernel
theorem dX7_readOne_22 : decode cX7_readOne 22 = .ok (.ireturn, 1) := by decide +kernel
theorem dX7_readOne_23 : decode cX7_readOne 23 = .ok (.iload_n 1, 1) := by decide +kernel
theorem dX7_readOne_24 : decode cX7_readOne 24 = .ok (.bipush 102, 2) := by decide +kernel
theorem dX7_readOne_26 : decode cX7_readOne 26 = .ok (.if_icmp .ne 8, 3) := by decide +kernel
theorem dX7_readOne_29 : decode cX7_readOne 29 = .ok (.aload_n 0, 1) := by decide +kernel
theorem dX7_readOne_30 : decode cX7_readOne 30 = .ok (.invokevirtual 44, 3) := by decide +kernel
theorem dX7_readOne_33 : decode cX7_readOne 33 = .ok (.ireturn, 1) := by decide +kernel
theorem dX7_readOne_34 : decode cX7_readOne 34 = .ok (.iload_n 1, 1) := by decide +kernel
theorem dX7_readOne_35 : decode cX7_readOne 35 = .ok (.bipush 32, 2) := by decide +kernel
theorem dX7_readOne_37 : decode cX7_readOne 37 = .ok (.if_icmp .eq 5, 3) := by decide +kernel
theorem dX7_readOne_40 : decode cX7_readOne 40 = .ok (.iconst 0, 1) := by decide +kernel
theorem dX7_readOne_41 : decode cX7_readOne 41 = .ok (.ireturn, 1) := by decide +kernel
theorem dX7_readOne_42 : decode cX7_readOne 42 = .ok (.aload_n 0, 1) := by decide +kernel
theorem dX7_readOne_43 : decode cX7_readOne 43 = .ok (.dup, 1) := by decide +kernel
theorem dX7_readOne_44 : decode cX7_readOne 44 = .ok (.getfield 19, 3) := by decide +kernel
theorem dX7_readOne_47 : decode cX7_readOne 47 = .ok (.iconst 1, 1) := by decide +kernel
theorem dX7_readOne_48 : decode cX7_readOne 48 = .ok (.iadd, 1) := by decide +kernel
theorem dX7_readOne_49 : decode cX7_readOne 49 = .ok (.putfield 19, 3) := by decide +kernel
theorem dX7_readOne_52 : decode cX7_readOne 52 = .ok (.iconst 1, 1) := by decide +kernel
theorem dX7_readOne_53 : decode cX7_readOne 53 = .ok (.ireturn, 1) := by decide +kernel
theorem dX7_readHand_0 : decode cX7_readHand 0 = .ok (.aload_n 0, 1) := by decide +kernel
theorem dX7_readHand_1 : decode cX7_readHand 1 = .ok (.getfield 15, 3) := by decide +kernel
theorem dX7_readHand_4 : decode cX7_readHand 4 = .ok (.getfield 47, 3) := by decide +kernel
theorem dX7_readHand_7 : decode cX7_readHand 7 = .ok (.iconst 2, 1) := by decide +kernel
theorem dX7_readHand_8 : decode cX7_readHand 8 = .ok (.if_icmp .lt 5, 3) := by decide +kernel
theorem dX7_readHand_11 : decode cX7_readHand 11 = .ok (.iconst 0, 1) := by decide +kernel
theorem dX7_readHand_12 : decode cX7_readHand 12 = .ok (.ireturn, 1) := by decide +kernel
theorem dX7_readHand_13 : decode cX7_readHand 13 = .ok (.aload_n 0, 1) := by decide +kernel
theorem dX7_readHand_14 : decode cX7_readHand 14 = .ok (.dup, 1) := by decide +kernel
theorem dX7_readHand_15 : decode cX7_readHand 15 = .ok (.getfield 19, 3) := by decide +kernel
theorem dX7_readHand_18 : decode cX7_readHand 18 = .ok (.iconst 1, 1) := by decide +kernel
theorem dX7_readHand_19 : decode cX7_readHand 19 = .ok (.iadd, 1) := by decide +kernel
theorem dX7_readHand_20 : decode cX7_readHand 20 = .ok (.putfield 19, 3) := by decide +kernel
theorem dX7_readHand_23 : decode cX7_readHand 23 = .ok (.iconst 0, 1) := by decide +kernel
theorem dX7_readHand_24 : decode cX7_readHand 24 = .ok (.istore_n 1, 1) := by decide +kernel
theorem dX7_readHand_25 : decode cX7_readHand 25 = .ok (.iconst 0, 1) := by decide +kernel
theorem dX7_readHand_26 : decode cX7_readHand 26 = .ok (.istore_n 2, 1) := by decide +kernel
theorem dX7_readHand_27 : decode cX7_readHand 27 = .ok (.iconst 0, 1) := by decide +kernel
theorem dX7_readHand_28 : decode cX7_readHand 28 = .ok (.istore_n 3, 1) := by decide +kernel
theorem dX7_readHand_29 : decode cX7_readHand 29 = .ok (.iload_n 3, 1) := by decide +kernel
theorem dX7_readHand_30 : decode cX7_readHand 30 = .ok (.iconst 3, 1) := by decide +kernel
theorem dX7_readHand_31 : decode cX7_readHand 31 = .ok (.if_icmp .ge 40, 3) := by decide +kernel
theorem dX7_readHand_34 : decode cX7_readHand 34 = .ok (.aload_n 0, 1) := by decide +kernel
theorem dX7_readHand_35 : decode cX7_readHand 35 = .ok (.invokevirtual 50, 3) := by decide +kernel
theorem dX7_readHand_38 : decode cX7_readHand 38 = .ok (.iconst (-1), 1) := by decide +kernel
theorem dX7_readHand_39 : decode cX7_readHand 39 = .ok (.if_icmp .eq 32, 3) := by decide +kernel
theorem dX7_readHand_42 : decode cX7_readHand 42 = .ok (.bipush 10, 2) := by decide +kernel
theorem dX7_readHand_44 : decode cX7_readHand 44 = .ok (.iload_n 1, 1) := by decide +kernel
theorem dX7_readHand_45 : decode cX7_readHand 45 = .ok (.imul, 1) := by decide +kernel
theorem dX7_readHand_46 : decode cX7_readHand 46 = .ok (.aload_n 0, 1) := by decide +kernel
theorem dX7_readHand_47 : decode cX7_readHand 47 = .ok (.invokevirtual 50, 3) := by decide +kernel
theorem dX7_readHand_50 : decode cX7_readHand 50 = .ok (.iadd, 1) := by decide +kernel
theorem dX7_readHand_51 : decode cX7_readHand 51 = .ok (.istore_n 1, 1) := by decide +kernel
theorem dX7_readHand_52 : decode cX7_readHand 52 = .ok (.iinc 2 1, 3) := by decide +kernel
theorem dX7_readHand_55 : decode cX7_readHand 55 = .ok (.aload_n 0, 1) := by decide +kernel
theorem dX7_readHand_56 : decode cX7_readHand 56 = .ok (.dup, 1) := by decide +kernel
theorem dX7_readHand_57 : decode cX7_readHand 57 = .ok (.getfield 19, 3) := by decide +kernel
theorem dX7_readHand_60 : decode cX7_readHand 60 = .ok (.iconst 1, 1) := by decide +kernel
theorem dX7_readHand_61 : decode cX7_readHand 61 = .ok (.iadd, 1) := by decide +kernel
theorem dX7_readHand_62 : decode cX7_readHand 62 = .ok (.putfield 19, 3) := by decide +kernel
theorem dX7_readHand_65 : decode cX7_readHand 65 = .ok (.iinc 3 1, 3) := by decide +kernel
theorem dX7_readHand_68 : decode cX7_readHand 68 = .ok (.goto (-39), 3) := by decide +kernel
theorem dX7_readHand_71 : decode cX7_readHand 71 = .ok (.iload_n 2, 1) := by decide +kernel
theorem dX7_readHand_72 : decode cX7_readHand 72 = .ok (.ifCond .le 18, 3) := by decide +kernel
theorem dX7_readHand_75 : decode cX7_readHand 75 = .ok (.aload_n 0, 1) := by decide +kernel
theorem dX7_readHand_76 : decode cX7_readHand 76 = .ok (.getfield 15, 3) := by decide +kernel
theorem dX7_readHand_79 : decode cX7_readHand 79 = .ok (.iload_n 1, 1) := by decide +kernel
theorem dX7_readHand_80 : decode cX7_readHand 80 = .ok (.invokevirtual 54, 3) := by decide +kernel
theorem dX7_readHand_83 : decode cX7_readHand 83 = .ok (.ifCond .eq 7, 3) := by decide +kernel
theorem dX7_readHand_86 : decode cX7_readHand 86 = .ok (.iconst 1, 1) := by decide +kernel
theorem dX7_readHand_87 : decode cX7_readHand 87 = .ok (.goto 4, 3) := by decide +kernel
theorem dX7_readHand_90 : decode cX7_readHand 90 = .ok (.iconst 0, 1) := by decide +kernel
theorem dX7_readHand_91 : decode cX7_readHand 91 = .ok (.ireturn, 1) := by decide +kernel
theorem dX7_readFinger_0 : decode cX7_readFinger 0 = .ok (.aload_n 0, 1) := by decide +kernel
theorem dX7_readFinger_1 : decode cX7_readFinger 1 = .ok (.getfield 15, 3) := by decide +kernel
theorem dX7_readFinger_4 : decode cX7_readFinger 4 = .ok (.getfield 47, 3) := by decide +kernel
theorem dX7_readFinger_7 : decode cX7_readFinger 7 = .ok (.iconst 1, 1) := by decide +kernel
theorem dX7_readFinger_8 : decode cX7_readFinger 8 = .ok (.if_icmp .lt 15, 3) := by decide +kernel
theorem dX7_readFinger_11 : decode cX7_readFinger 11 = .ok (.aload_n 0, 1) := by decide +kernel
theorem dX7_readFinger_12 : decode cX7_readFinger 12 = .ok (.getfield 15, 3) := by decide +kernel
theorem dX7_readFinger_15 : decode cX7_readFinger 15 = .ok (.getfield 58, 3) := by decide +kernel
theorem dX7_readFinger_18 : decode cX7_readFinger 18 = .ok (.bipush 6, 2) := by decide +kernel
theorem dX7_readFinger_20 : decode cX7_readFinger 20 = .ok (.if_icmp .lt 5, 3) := by decide +kernel
theorem dX7_readFinger_23 : decode cX7_readFinger 23 = .ok (.iconst 0, 1) := by decide +kernel
theorem dX7_readFinger_24 : decode cX7_readFinger 24 = .ok (.ireturn, 1) := by decide +kernel
theorem dX7_readFinger_25 : decode cX7_readFinger 25 = .ok (.aload_n 0, 1) := by decide +kernel
theorem dX7_readFinger_26 : decode cX7_readFinger 26 = .ok (.dup, 1) := by decide +kernel
theorem dX7_readFinger_27 : decode cX7_readFinger 27 = .ok (.getfield 19, 3) := by decide +kernel
theorem dX7_readFinger_30 : decode cX7_readFinger 30 = .ok (.iconst 1, 1) := by decide +kernel
theorem dX7_readFinger_31 : decode cX7_readFinger 31 = .ok (.iadd, 1) := by decide +kernel
theorem dX7_readFinger_32 : decode cX7_readFinger 32 = .ok (.putfield 19, 3) := by decide +kernel
theorem dX7_readFinger_35 : decode cX7_readFinger 35 = .ok (.aload_n 0, 1) := by decide +kernel
theorem dX7_readFinger_36 : decode cX7_readFinger 36 = .ok (.invokevirtual 50, 3) := by decide +kernel
theorem dX7_readFinger_39 : decode cX7_readFinger 39 = .ok (.iconst (-1), 1) := by decide +kernel
theorem dX7_readFinger_40 : decode cX7_readFinger 40 = .ok (.if_icmp .eq 12, 3) := by decide +kernel
theorem dX7_readFinger_43 : decode cX7_readFinger 43 = .ok (.aload_n 0, 1) := by decide +kernel
theorem dX7_readFinger_44 : decode cX7_readFinger 44 = .ok (.invokevirtual 50, 3) := by decide +kernel
theorem dX7_readFinger_47 : decode cX7_readFinger 47 = .ok (.bipush 7, 2) := by decide +kernel
theorem dX7_readFinger_49 : decode cX7_readFinger 49 = .ok (.if_icmp .le 5, 3) := by decide +kernel
theorem dX7_readFinger_52 : decode cX7_readFinger 52 = .ok (.iconst 0, 1) := by decide +kernel
theorem dX7_readFinger_53 : decode cX7_readFinger 53 = .ok (.ireturn, 1) := by decide +kernel
theorem dX7_readFinger_54 : decode cX7_readFinger 54 = .ok (.aload_n 0, 1) := by decide +kernel
theorem dX7_readFinger_55 : decode cX7_readFinger 55 = .ok (.getfield 15, 3) := by decide +kernel
theorem dX7_readFinger_58 : decode cX7_readFinger 58 = .ok (.aload_n 0, 1) := by decide +kernel
theorem dX7_readFinger_59 : decode cX7_readFinger 59 = .ok (.invokevirtual 50, 3) := by decide +kernel
theorem dX7_readFinger_62 : decode cX7_readFinger 62 = .ok (.invokevirtual 61, 3) := by decide +kernel
theorem dX7_readFinger_65 : decode cX7_readFinger 65 = .ok (.pop, 1) := by decide +kernel
theorem dX7_readFinger_66 : decode cX7_readFinger 66 = .ok (.aload_n 0, 1) := by decide +kernel
theorem dX7_readFinger_67 : decode cX7_readFinger 67 = .ok (.dup, 1) := by decide +kernel
theorem dX7_readFinger_68 : decode cX7_readFinger 68 = .ok (.getfield 19, 3) := by decide +kernel
theorem dX7_readFinger_71 : decode cX7_readFinger 71 = .ok (.iconst 1, 1) := by decide +kernel
theorem dX7_readFinger_72 : decode cX7_readFinger 72 = .ok (.iadd, 1) := by decide +kernel
theorem dX7_readFinger_73 : decode cX7_readFinger 73 = .ok (.putfield 19, 3) := by decide +kernel
theorem dX7_readFinger_76 : decode cX7_readFinger 76 = .ok (.iconst 0, 1) := by decide +kernel
theorem dX7_readFinger_77 : decode cX7_readFinger 77 = .ok (.istore_n 1, 1) := by decide +kernel
theorem dX7_readFinger_78 : decode cX7_readFinger 78 = .ok (.iload_n 1, 1) := by decide +kernel
theorem dX7_readFinger_79 : decode cX7_readFinger 79 = .ok (.iconst 3, 1) := by decide +kernel
theorem dX7_readFinger_80 : decode cX7_readFinger 80 = .ok (.if_icmp .ge 26, 3) := by decide +kernel
theorem dX7_readFinger_83 : decode cX7_readFinger 83 = .ok (.aload_n 0, 1) := by decide +kernel
theorem dX7_readFinger_84 : decode cX7_readFinger 84 = .ok (.invokevirtual 50, 3) := by decide +kernel
theorem dX7_readFinger_87 : decode cX7_readFinger 87 = .ok (.iconst (-1), 1) := by decide +kernel
theorem dX7_readFinger_88 : decode cX7_readFinger 88 = .ok (.if_icmp .eq 18, 3) := by decide +kernel
theorem dX7_readFinger_91 : decode cX7_readFinger 91 = .ok (.aload_n 0, 1) := by decide +kernel
theorem dX7_readFinger_92 : decode cX7_readFinger 92 = .ok (.invokevirtual 64, 3) := by decide +kernel
theorem dX7_readFinger_95 : decode cX7_readFinger 95 = .ok (.ifCond .ne 5, 3) := by decide +kernel
theorem dX7_readFinger_98 : decode cX7_readFinger 98 = .ok (.iconst 0, 1) := by decide +kernel
theorem dX7_readFinger_99 : decode cX7_readFinger 99 = .ok (.ireturn, 1) := by decide +kernel
theorem dX7_readFinger_100 : decode cX7_readFinger 100 = .ok (.iinc 1 1, 3) := by decide +kernel
theorem dX7_readFinger_103 : decode cX7_readFinger 103 = .ok (.goto (-25), 3) := by decide +kernel
theorem dX7_readFinger_106 : decode cX7_readFinger 106 = .ok (.iconst 1, 1) := by decide +kernel
theorem dX7_readFinger_107 : decode cX7_readFinger 107 = .ok (.ireturn, 1) := by decide +kernel
theorem dX7_readJoint_0 : decode cX7_readJoint 0 = .ok (.aload_n 0, 1) := by decide +kernel
theorem dX7_readJoint_1 : decode cX7_readJoint 1 = .ok (.getfield 15, 3) := by decide +kernel
theorem dX7_readJoint_4 : decode cX7_readJoint 4 = .ok (.getfield 67, 3) := by decide +kernel
theorem dX7_readJoint_7 : decode cX7_readJoint 7 = .ok (.bipush 6, 2) := by decide +kernel
theorem dX7_readJoint_9 : decode cX7_readJoint 9 = .ok (.if_icmp .ge 13, 3) := by decide +kernel
theorem dX7_readJoint_12 : decode cX7_readJoint 12 = .ok (.aload_n 0, 1) := by decide +kernel
theorem dX7_readJoint_13 : decode cX7_readJoint 13 = .ok (.invokevirtual 50, 3) := by decide +kernel
theorem dX7_readJoint_16 : decode cX7_readJoint 16 = .ok (.invokestatic 70, 3) := by decide +kernel
theorem dX7_readJoint_19 : decode cX7_readJoint 19 = .ok (.ifCond .ne 5, 3) := by decide +kernel
theorem dX7_readJoint_22 : decode cX7_readJoint 22 = .ok (.iconst 0, 1) := by decide +kernel
theorem dX7_readJoint_23 : decode cX7_readJoint 23 = .ok (.ireturn, 1) := by decide +kernel
theorem dX7_readJoint_24 : decode cX7_readJoint 24 = .ok (.aload_n 0, 1) := by decide +kernel
theorem dX7_readJoint_25 : decode cX7_readJoint 25 = .ok (.invokevirtual 50, 3) := by decide +kernel
theorem dX7_readJoint_28 : decode cX7_readJoint 28 = .ok (.istore_n 1, 1) := by decide +kernel
theorem dX7_readJoint_29 : decode cX7_readJoint 29 = .ok (.aload_n 0, 1) := by decide +kernel
theorem dX7_readJoint_30 : decode cX7_readJoint 30 = .ok (.dup, 1) := by decide +kernel
theorem dX7_readJoint_31 : decode cX7_readJoint 31 = .ok (.getfield 19, 3) := by decide +kernel
theorem dX7_readJoint_34 : decode cX7_readJoint 34 = .ok (.iconst 1, 1) := by decide +kernel
theorem dX7_readJoint_35 : decode cX7_readJoint 35 = .ok (.iadd, 1) := by decide +kernel
theorem dX7_readJoint_36 : decode cX7_readJoint 36 = .ok (.putfield 19, 3) := by decide +kernel
theorem dX7_readJoint_39 : decode cX7_readJoint 39 = .ok (.aload_n 0, 1) := by decide +kernel
theorem dX7_readJoint_40 : decode cX7_readJoint 40 = .ok (.invokevirtual 50, 3) := by decide +kernel
theorem dX7_readJoint_43 : decode cX7_readJoint 43 = .ok (.invokestatic 70, 3) := by decide +kernel
theorem dX7_readJoint_46 : decode cX7_readJoint 46 = .ok (.ifCond .ne 5, 3) := by decide +kernel
theorem dX7_readJoint_49 : decode cX7_readJoint 49 = .ok (.iconst 0, 1) := by decide +kernel
theorem dX7_readJoint_50 : decode cX7_readJoint 50 = .ok (.ireturn, 1) := by decide +kernel
theorem dX7_readJoint_51 : decode cX7_readJoint 51 = .ok (.aload_n 0, 1) := by decide +kernel
theorem dX7_readJoint_52 : decode cX7_readJoint 52 = .ok (.getfield 15, 3) := by decide +kernel
theorem dX7_readJoint_55 : decode cX7_readJoint 55 = .ok (.iload_n 1, 1) := by decide +kernel
theorem dX7_readJoint_56 : decode cX7_readJoint 56 = .ok (.aload_n 0, 1) := by decide +kernel
theorem dX7_readJoint_57 : decode cX7_readJoint 57 = .ok (.invokevirtual 50, 3) := by decide +kernel
theorem dX7_readJoint_60 : decode cX7_readJoint 60 = .ok (.invokevirtual 73, 3) := by decide +kernel
theorem dX7_readJoint_63 : decode cX7_readJoint 63 = .ok (.pop, 1) := by decide +kernel
theorem dX7_readJoint_64 : decode cX7_readJoint 64 = .ok (.aload_n 0, 1) := by decide +kernel
theorem dX7_readJoint_65 : decode cX7_readJoint 65 = .ok (.dup, 1) := by decide +kernel
theorem dX7_readJoint_66 : decode cX7_readJoint 66 = .ok (.getfield 19, 3) := by decide +kernel
theorem dX7_readJoint_69 : decode cX7_readJoint 69 = .ok (.iconst 1, 1) := by decide +kernel
theorem dX7_readJoint_70 : decode cX7_readJoint 70 = .ok (.iadd, 1) := by decide +kernel
theorem dX7_readJoint_71 : decode cX7_readJoint 71 = .ok (.putfield 19, 3) := by decide +kernel
theorem dX7_readJoint_74 : decode cX7_readJoint 74 = .ok (.iconst 1, 1) := by decide +kernel
theorem dX7_readJoint_75 : decode cX7_readJoint 75 = .ok (.ireturn, 1) := by decide +kernel
theorem dX7_isTurn_0 : decode cX7_isTurn 0 = .ok (.iload_n 0, 1) := by decide +kernel
theorem dX7_isTurn_1 : decode cX7_isTurn 1 = .ok (.ifCond .lt 12, 3) := by decide +kernel
theorem dX7_isTurn_4 : decode cX7_isTurn 4 = .ok (.iload_n 0, 1) := by decide +kernel
theorem dX7_isTurn_5 : decode cX7_isTurn 5 = .ok (.iconst 2, 1) := by decide +kernel
theorem dX7_isTurn_6 : decode cX7_isTurn 6 = .ok (.if_icmp .gt 7, 3) := by decide +kernel
theorem dX7_isTurn_9 : decode cX7_isTurn 9 = .ok (.iconst 1, 1) := by decide +kernel
theorem dX7_isTurn_10 : decode cX7_isTurn 10 = .ok (.goto 4, 3) := by decide +kernel
theorem dX7_isTurn_13 : decode cX7_isTurn 13 = .ok (.iconst 0, 1) := by decide +kernel
theorem dX7_isTurn_14 : decode cX7_isTurn 14 = .ok (.ireturn, 1) := by decide +kernel
theorem dX7_figure_0 : decode cX7_figure 0 = .ok (.aload_n 0, 1) := by decide +kernel
theorem dX7_figure_1 : decode cX7_figure 1 = .ok (.getfield 9, 3) := by decide +kernel
theorem dX7_figure_4 : decode cX7_figure 4 = .ok (.aload_n 0, 1) := by decide +kernel
theorem dX7_figure_5 : decode cX7_figure 5 = .ok (.getfield 19, 3) := by decide +kernel
theorem dX7_figure_8 : decode cX7_figure 8 = .ok (.invokevirtual 77, 3) := by decide +kernel
theorem dX7_figure_11 : decode cX7_figure 11 = .ok (.ifCond .ne 5, 3) := by decide +kernel
theorem dX7_figure_14 : decode cX7_figure 14 = .ok (.iconst (-1), 1) := by decide +kernel
theorem dX7_figure_15 : decode cX7_figure 15 = .ok (.ireturn, 1) := by decide +kernel
theorem dX7_figure_16 : decode cX7_figure 16 = .ok (.aload_n 0, 1) := by decide +kernel
theorem dX7_figure_17 : decode cX7_figure 17 = .ok (.getfield 9, 3) := by decide +kernel
theorem dX7_figure_20 : decode cX7_figure 20 = .ok (.aload_n 0, 1) := by decide +kernel
theorem dX7_figure_21 : decode cX7_figure 21 = .ok (.getfield 19, 3) := by decide +kernel
theorem dX7_figure_24 : decode cX7_figure 24 = .ok (.invokevirtual 37, 3) := by decide +kernel
theorem dX7_figure_27 : decode cX7_figure 27 = .ok (.istore_n 1, 1) := by decide +kernel
theorem dX7_figure_28 : decode cX7_figure 28 = .ok (.iload_n 1, 1) := by decide +kernel
theorem dX7_figure_29 : decode cX7_figure 29 = .ok (.bipush 48, 2) := by decide +kernel
theorem dX7_figure_31 : decode cX7_figure 31 = .ok (.if_icmp .lt 16, 3) := by decide +kernel
theorem dX7_figure_34 : decode cX7_figure 34 = .ok (.iload_n 1, 1) := by decide +kernel
theorem dX7_figure_35 : decode cX7_figure 35 = .ok (.bipush 57, 2) := by decide +kernel
theorem dX7_figure_37 : decode cX7_figure 37 = .ok (.if_icmp .gt 10, 3) := by decide +kernel
theorem dX7_figure_40 : decode cX7_figure 40 = .ok (.iload_n 1, 1) := by decide +kernel
theorem dX7_figure_41 : decode cX7_figure 41 = .ok (.bipush 48, 2) := by decide +kernel
theorem dX7_figure_43 : decode cX7_figure 43 = .ok (.isub, 1) := by decide +kernel
theorem dX7_figure_44 : decode cX7_figure 44 = .ok (.goto 4, 3) := by decide +kernel
theorem dX7_figure_47 : decode cX7_figure 47 = .ok (.iconst (-1), 1) := by decide +kernel
theorem dX7_figure_48 : decode cX7_figure 48 = .ok (.ireturn, 1) := by decide +kernel
theorem dX8_init_0 : decode cX8_init 0 = .ok (.aload_n 0, 1) := by decide +kernel
theorem dX8_init_1 : decode cX8_init 1 = .ok (.invokespecial 3, 3) := by decide +kernel
theorem dX8_init_4 : decode cX8_init 4 = .ok (.aload_n 0, 1) := by decide +kernel
theorem dX8_init_5 : decode cX8_init 5 = .ok (.iconst (-1), 1) := by decide +kernel
theorem dX8_init_6 : decode cX8_init 6 = .ok (.putfield 11, 3) := by decide +kernel
theorem dX8_init_9 : decode cX8_init 9 = .ok (.aload_n 0, 1) := by decide +kernel
theorem dX8_init_10 : decode cX8_init 10 = .ok (.iload_n 1, 1) := by decide +kernel
theorem dX8_init_11 : decode cX8_init 11 = .ok (.iconst 0, 1) := by decide +kernel
theorem dX8_init_12 : decode cX8_init 12 = .ok (.invokestatic 15, 3) := by decide +kernel
theorem dX8_init_15 : decode cX8_init 15 = .ok (.newarray .int, 2) := by decide +kernel
theorem dX8_init_17 : decode cX8_init 17 = .ok (.putfield 21, 3) := by decide +kernel
theorem dX8_init_20 : decode cX8_init 20 = .ok (.return_, 1) := by decide +kernel
theorem dX8_isThere_0 : decode cX8_isThere 0 = .ok (.aload_n 0, 1) := by decide +kernel
theorem dX8_isThere_1 : decode cX8_isThere 1 = .ok (.getfield 11, 3) := by decide +kernel
theorem dX8_isThere_4 : decode cX8_isThere 4 = .ok (.ifCond .lt 7, 3) := by decide +kernel
theorem dX8_isThere_7 : decode cX8_isThere 7 = .ok (.iconst 1, 1) := by decide +kernel
theorem dX8_isThere_8 : decode cX8_isThere 8 = .ok (.goto 4, 3) := by decide +kernel
theorem dX8_isThere_11 : decode cX8_isThere 11 = .ok (.iconst 0, 1) := by decide +kernel
theorem dX8_isThere_12 : decode cX8_isThere 12 = .ok (.ireturn, 1) := by decide +kernel
theorem dX8_renew_0 : decode cX8_renew 0 = .ok (.iload_n 1, 1) := by decide +kernel
theorem dX8_renew_1 : decode cX8_renew 1 = .ok (.ifCond .lt 12, 3) := by decide +kernel
theorem dX8_renew_4 : decode cX8_renew 4 = .ok (.iload_n 1, 1) := by decide +kernel
theorem dX8_renew_5 : decode cX8_renew 5 = .ok (.aload_n 0, 1) := by decide +kernel
theorem dX8_renew_6 : decode cX8_renew 6 = .ok (.getfield 21, 3) := by decide +kernel
theorem dX8_renew_9 : decode cX8_renew 9 = .ok (.arraylength, 1) := by decide +kernel
theorem dX8_renew_10 : decode cX8_renew 10 = .ok (.if_icmp .le 4, 3) := by decide +kernel
theorem dX8_renew_13 : decode cX8_renew 13 = .ok (.return_, 1) := by decide +kernel
theorem dX8_renew_14 : decode cX8_renew 14 = .ok (.aload_n 0, 1) := by decide +kernel
theorem dX8_renew_15 : decode cX8_renew 15 = .ok (.iload_n 1, 1) := by decide +kernel
theorem dX8_renew_16 : decode cX8_renew 16 = .ok (.putfield 11, 3) := by decide +kernel
theorem dX8_renew_19 : decode cX8_renew 19 = .ok (.iconst 0, 1) := by decide +kernel
theorem dX8_renew_20 : decode cX8_renew 20 = .ok (.istore_n 3, 1) := by decide +kernel
theorem dX8_renew_21 : decode cX8_renew 21 = .ok (.iload_n 3, 1) := by decide +kernel
theorem dX8_renew_22 : decode cX8_renew 22 = .ok (.iload_n 1, 1) := by decide +kernel
theorem dX8_renew_23 : decode cX8_renew 23 = .ok (.if_icmp .ge 16, 3) := by decide +kernel
theorem dX8_renew_26 : decode cX8_renew 26 = .ok (.aload_n 0, 1) := by decide +kernel
theorem dX8_renew_27 : decode cX8_renew 27 = .ok (.getfield 21, 3) := by decide +kernel
theorem dX8_renew_30 : decode cX8_renew 30 = .ok (.iload_n 3, 1) := by decide +kernel
theorem dX8_renew_31 : decode cX8_renew 31 = .ok (.iload_n 2, 1) := by decide +kernel
theorem dX8_renew_32 : decode cX8_renew 32 = .ok (.iastore, 1) := by decide +kernel
theorem dX8_renew_33 : decode cX8_renew 33 = .ok (.iinc 3 1, 3) := by decide +kernel
theorem dX8_renew_36 : decode cX8_renew 36 = .ok (.goto (-15), 3) := by decide +kernel
theorem dX8_renew_39 : decode cX8_renew 39 = .ok (.return_, 1) := by decide +kernel
theorem dX8_holds_0 : decode cX8_holds 0 = .ok (.iload_n 1, 1) := by decide +kernel
theorem dX8_holds_1 : decode cX8_holds 1 = .ok (.ifCond .lt 15, 3) := by decide +kernel
theorem dX8_holds_4 : decode cX8_holds 4 = .ok (.iload_n 1, 1) := by decide +kernel
theorem dX8_holds_5 : decode cX8_holds 5 = .ok (.aload_n 0, 1) := by decide +kernel
theorem dX8_holds_6 : decode cX8_holds 6 = .ok (.getfield 11, 3) := by decide +kernel
theorem dX8_holds_9 : decode cX8_holds 9 = .ok (.if_icmp .ge 7, 3) := by decide +kernel
theorem dX8_holds_12 : decode cX8_holds 12 = .ok (.iconst 1, 1) := by decide +kernel
theorem dX8_holds_13 : decode cX8_holds 13 = .ok (.goto 4, 3) := by decide +kernel
theorem dX8_holds_16 : decode cX8_holds 16 = .ok (.iconst 0, 1) := by decide +kernel
theorem dX8_holds_17 : decode cX8_holds 17 = .ok (.ireturn, 1) := by decide +kernel
theorem dX8_get_0 : decode cX8_get 0 = .ok (.aload_n 0, 1) := by decide +kernel
theorem dX8_get_1 : decode cX8_get 1 = .ok (.iload_n 1, 1) := by decide +kernel
theorem dX8_get_2 : decode cX8_get 2 = .ok (.invokevirtual 25, 3) := by decide +kernel
theorem dX8_get_5 : decode cX8_get 5 = .ok (.ifCond .eq 12, 3) := by decide +kernel
theorem dX8_get_8 : decode cX8_get 8 = .ok (.aload_n 0, 1) := by decide +kernel
theorem dX8_get_9 : decode cX8_get 9 = .ok (.getfield 21, 3) := by decide +kernel
theorem dX8_get_12 : decode cX8_get 12 = .ok (.iload_n 1, 1) := by decide +kernel
theorem dX8_get_13 : decode cX8_get 13 = .ok (.iaload, 1) := by decide +kernel
theorem dX8_get_14 : decode cX8_get 14 = .ok (.goto 4, 3) := by decide +kernel
theorem dX8_get_17 : decode cX8_get 17 = .ok (.iconst 0, 1) := by decide +kernel
theorem dX8_get_18 : decode cX8_get 18 = .ok (.ireturn, 1) := by decide +kernel
theorem dX8_set_0 : decode cX8_set 0 = .ok (.aload_n 0, 1) := by decide +kernel
theorem dX8_set_1 : decode cX8_set 1 = .ok (.iload_n 1, 1) := by decide +kernel
theorem dX8_set_2 : decode cX8_set 2 = .ok (.invokevirtual 25, 3) := by decide +kernel
theorem dX8_set_5 : decode cX8_set 5 = .ok (.ifCond .eq 10, 3) := by decide +kernel
theorem dX8_set_8 : decode cX8_set 8 = .ok (.aload_n 0, 1) := by decide +kernel
theorem dX8_set_9 : decode cX8_set 9 = .ok (.getfield 21, 3) := by decide +kernel
theorem dX8_set_12 : decode cX8_set 12 = .ok (.iload_n 1, 1) := by decide +kernel
theorem dX8_set_13 : decode cX8_set 13 = .ok (.iload_n 2, 1) := by decide +kernel
theorem dX8_set_14 : decode cX8_set 14 = .ok (.iastore, 1) := by decide +kernel
theorem dX8_set_15 : decode cX8_set 15 = .ok (.return_, 1) := by decide +kernel
theorem dX8_hasLines_0 : decode cX8_hasLines 0 = .ok (.iconst 0, 1) := by decide +kernel
theorem dX8_hasLines_1 : decode cX8_hasLines 1 = .ok (.istore_n 1, 1) := by decide +kernel
theorem dX8_hasLines_2 : decode cX8_hasLines 2 = .ok (.iload_n 1, 1) := by decide +kernel
theorem dX8_hasLines_3 : decode cX8_hasLines 3 = .ok (.aload_n 0, 1) := by decide +kernel
theorem dX8_hasLines_4 : decode cX8_hasLines 4 = .ok (.getfield 11, 3) := by decide +kernel
theorem dX8_hasLines_7 : decode cX8_hasLines 7 = .ok (.if_icmp .ge 30, 3) := by decide +kernel
theorem dX8_hasLines_10 : decode cX8_hasLines 10 = .ok (.aload_n 0, 1) := by decide +kernel
theorem dX8_hasLines_11 : decode cX8_hasLines 11 = .ok (.iload_n 1, 1) := by decide +kernel
theorem dX8_hasLines_12 : decode cX8_hasLines 12 = .ok (.invokevirtual 39, 3) := by decide +kernel
theorem dX8_hasLines_15 : decode cX8_hasLines 15 = .ok (.ifCond .lt 14, 3) := by decide +kernel
theorem dX8_hasLines_18 : decode cX8_hasLines 18 = .ok (.aload_n 0, 1) := by decide +kernel
theorem dX8_hasLines_19 : decode cX8_hasLines 19 = .ok (.iload_n 1, 1) := by decide +kernel
theorem dX8_hasLines_20 : decode cX8_hasLines 20 = .ok (.invokevirtual 39, 3) := by decide +kernel
theorem dX8_hasLines_23 : decode cX8_hasLines 23 = .ok (.sipush 4095, 3) := by decide +kernel
theorem dX8_hasLines_26 : decode cX8_hasLines 26 = .ok (.if_icmp .le 5, 3) := by decide +kernel
theorem dX8_hasLines_29 : decode cX8_hasLines 29 = .ok (.iconst 0, 1) := by decide +kernel
theorem dX8_hasLines_30 : decode cX8_hasLines 30 = .ok (.ireturn, 1) := by decide +kernel
theorem dX8_hasLines_31 : decode cX8_hasLines 31 = .ok (.iinc 1 1, 3) := by decide +kernel
theorem dX8_hasLines_34 : decode cX8_hasLines 34 = .ok (.goto (-32), 3) := by decide +kernel
theorem dX8_hasLines_37 : decode cX8_hasLines 37 = .ok (.iconst 1, 1) := by decide +kernel
theorem dX8_hasLines_38 : decode cX8_hasLines 38 = .ok (.ireturn, 1) := by decide +kernel
theorem dX8_showCells_0 : decode cX8_showCells 0 = .ok (.aload_n 0, 1) := by decide +kernel
theorem dX8_showCells_1 : decode cX8_showCells 1 = .ok (.bipush 10, 2) := by decide +kernel
theorem dX8_showCells_3 : decode cX8_showCells 3 = .ok (.iconst 0, 1) := by decide +kernel
theorem dX8_showCells_4 : decode cX8_showCells 4 = .ok (.invokevirtual 43, 3) := by decide +kernel
theorem dX8_showCells_7 : decode cX8_showCells 7 = .ok (.iconst 0, 1) := by decide +kernel
theorem dX8_showCells_8 : decode cX8_showCells 8 = .ok (.istore_n 2, 1) := by decide +kernel
theorem dX8_showCells_9 : decode cX8_showCells 9 = .ok (.iload_n 2, 1) := by decide +kernel
theorem dX8_showCells_10 : decode cX8_showCells 10 = .ok (.bipush 10, 2) := by decide +kernel
theorem dX8_showCells_12 : decode cX8_showCells 12 = .ok (.if_icmp .ge 19, 3) := by decide +kernel
theorem dX8_showCells_15 : decode cX8_showCells 15 = .ok (.aload_n 0, 1) := by decide +kernel
theorem dX8_showCells_16 : decode cX8_showCells 16 = .ok (.iload_n 2, 1) := by decide +kernel
theorem dX8_showCells_17 : decode cX8_showCells 17 = .ok (.aload_n 1, 1) := by decide +kernel
theorem dX8_showCells_18 : decode cX8_showCells 18 = .ok (.iload_n 2, 1) := by decide +kernel
theorem dX8_showCells_19 : decode cX8_showCells 19 = .ok (.invokevirtual 47, 3) := by decide +kernel
theorem dX8_showCells_22 : decode cX8_showCells 22 = .ok (.invokevirtual 52, 3) := by decide +kernel
theorem dX8_showCells_25 : decode cX8_showCells 25 = .ok (.iinc 2 1, 3) := by decide +kernel
theorem dX8_showCells_28 : decode cX8_showCells 28 = .ok (.goto (-19), 3) := by decide +kernel
theorem dX8_showCells_31 : decode cX8_showCells 31 = .ok (.return_, 1) := by decide +kernel
theorem dX8_showTo_0 : decode cX8_showTo 0 = .ok (.aload_n 1, 1) := by decide +kernel
theorem dX8_showTo_1 : decode cX8_showTo 1 = .ok (.invokevirtual 55, 3) := by decide +kernel
theorem dX8_showTo_4 : decode cX8_showTo 4 = .ok (.iconst 0, 1) := by decide +kernel
theorem dX8_showTo_5 : decode cX8_showTo 5 = .ok (.istore_n 2, 1) := by decide +kernel
theorem dX8_showTo_6 : decode cX8_showTo 6 = .ok (.iload_n 2, 1) := by decide +kernel
theorem dX8_showTo_7 : decode cX8_showTo 7 = .ok (.bipush 10, 2) := by decide +kernel
theorem dX8_showTo_9 : decode cX8_showTo 9 = .ok (.if_icmp .ge 19, 3) := by decide +kernel
theorem dX8_showTo_12 : decode cX8_showTo 12 = .ok (.aload_n 1, 1) := by decide +kernel
theorem dX8_showTo_13 : decode cX8_showTo 13 = .ok (.iload_n 2, 1) := by decide +kernel
theorem dX8_showTo_14 : decode cX8_showTo 14 = .ok (.aload_n 0, 1) := by decide +kernel
theorem dX8_showTo_15 : decode cX8_showTo 15 = .ok (.iload_n 2, 1) := by decide +kernel
theorem dX8_showTo_16 : decode cX8_showTo 16 = .ok (.invokevirtual 39, 3) := by decide +kernel
theorem dX8_showTo_19 : decode cX8_showTo 19 = .ok (.invokevirtual 58, 3) := by decide +kernel
theorem dX8_showTo_22 : decode cX8_showTo 22 = .ok (.iinc 2 1, 3) := by decide +kernel
theorem dX8_showTo_25 : decode cX8_showTo 25 = .ok (.goto (-19), 3) := by decide +kernel
theorem dX8_showTo_28 : decode cX8_showTo 28 = .ok (.return_, 1) := by decide +kernel
theorem dX9_init_0 : decode cX9_init 0 = .ok (.aload_n 0, 1) := by decide +kernel
theorem dX9_init_1 : decode cX9_init 1 = .ok (.invokespecial 3, 3) := by decide +kernel
theorem dX9_init_4 : decode cX9_init 4 = .ok (.aload_n 0, 1) := by decide +kernel
theorem dX9_init_5 : decode cX9_init 5 = .ok (.lconst 1, 1) := by decide +kernel
theorem dX9_init_6 : decode cX9_init 6 = .ok (.putfield 9, 3) := by decide +kernel
theorem dX9_init_9 : decode cX9_init 9 = .ok (.aload_n 0, 1) := by decide +kernel
theorem dX9_init_10 : decode cX9_init 10 = .ok (.bipush 6, 2) := by decide +kernel
theorem dX9_init_12 : decode cX9_init 12 = .ok (.newarray .int, 2) := by decide +kernel
theorem dX9_init_14 : decode cX9_init 14 = .ok (.putfield 15, 3) := by decide +kernel
theorem dX9_init_17 : decode cX9_init 17 = .ok (.return_, 1) := by decide +kernel
theorem dX9_tell_0 : decode cX9_tell 0 = .ok (.aload_n 0, 1) := by decide +kernel
theorem dX9_tell_1 : decode cX9_tell 1 = .ok (.iload_n 1, 1) := by decide +kernel
theorem dX9_tell_2 : decode cX9_tell 2 = .ok (.putfield 19, 3) := by decide +kernel
theorem dX9_tell_5 : decode cX9_tell 5 = .ok (.iconst 1, 1) := by decide +kernel
theorem dX9_tell_6 : decode cX9_tell 6 = .ok (.ireturn, 1) := by decide +kernel
theorem dX9_find_0 : decode cX9_find 0 = .ok (.iload_n 1, 1) := by decide +kernel
theorem dX9_find_1 : decode cX9_find 1 = .ok (.iconst 1, 1) := by decide +kernel
theorem dX9_find_2 : decode cX9_find 2 = .ok (.if_icmp .lt 23, 3) := by decide +kernel
theorem dX9_find_5 : decode cX9_find 5 = .ok (.iload_n 1, 1) := by decide +kernel
theorem dX9_find_6 : decode cX9_find 6 = .ok (.iconst 5, 1) := by decide +kernel
theorem dX9_find_7 : decode cX9_find 7 = .ok (.if_icmp .gt 18, 3) := by decide +kernel
theorem dX9_find_10 : decode cX9_find 10 = .ok (.aload_n 0, 1) := by decide +kernel
theorem dX9_find_11 : decode cX9_find 11 = .ok (.iload_n 1, 1) := by decide +kernel
theorem dX9_find_12 : decode cX9_find 12 = .ok (.putfield 23, 3) := by decide +kernel
theorem dX9_find_15 : decode cX9_find 15 = .ok (.aload_n 0, 1) := by decide +kernel
theorem dX9_find_16 : decode cX9_find 16 = .ok (.getfield 15, 3) := by decide +kernel
theorem dX9_find_19 : decode cX9_find 19 = .ok (.iload_n 1, 1) := by decide +kernel
theorem dX9_find_20 : decode cX9_find 20 = .ok (.dup2, 1) := by decide +kernel
theorem dX9_find_21 : decode cX9_find 21 = .ok (.iaload, 1) := by decide +kernel
theorem dX9_find_22 : decode cX9_find 22 = .ok (.iconst 1, 1) := by decide +kernel
theorem dX9_find_23 : decode cX9_find 23 = .ok (.iadd, 1) := by decide +kernel
theorem dX9_find_24 : decode cX9_find 24 = .ok (.iastore, 1) := by decide +kernel
theorem dX9_find_25 : decode cX9_find 25 = .ok (.bipush (-3), 2) := by decide +kernel
theorem dX9_find_27 : decode cX9_find 27 = .ok (.ireturn, 1) := by decide +kernel
theorem dX10_init_0 : decode cX10_init 0 = .ok (.aload_n 0, 1) := by decide +kernel
theorem dX10_init_1 : decode cX10_init 1 = .ok (.invokespecial 3, 3) := by decide +kernel
theorem dX10_init_4 : decode cX10_init 4 = .ok (.aload_n 0, 1) := by decide +kernel
theorem dX10_init_5 : decode cX10_init 5 = .ok (.sipush 4096, 3) := by decide +kernel
theorem dX10_init_8 : decode cX10_init 8 = .ok (.newarray .int, 2) := by decide +kernel
theorem dX10_init_10 : decode cX10_init 10 = .ok (.putfield 9, 3) := by decide +kernel
theorem dX10_init_13 : decode cX10_init 13 = .ok (.aload_n 0, 1) := by decide +kernel
theorem dX10_init_14 : decode cX10_init 14 = .ok (.sipush 4096, 3) := by decide +kernel
theorem dX10_init_17 : decode cX10_init 17 = .ok (.newarray .int, 2) := by decide +kernel
theorem dX10_init_19 : decode cX10_init 19 = .ok (.putfield 15, 3) := by decide +kernel
theorem dX10_init_22 : decode cX10_init 22 = .ok (.aload_n 0, 1) := by decide +kernel
theorem dX10_init_23 : decode cX10_init 23 = .ok (.bipush 8, 2) := by decide +kernel
theorem dX10_init_25 : decode cX10_init 25 = .ok (.newarray .int, 2) := by decide +kernel
theorem dX10_init_27 : decode cX10_init 27 = .ok (.putfield 18, 3) := by decide +kernel
theorem dX10_init_30 : decode cX10_init 30 = .ok (.aload_n 0, 1) := by decide +kernel
theorem dX10_init_31 : decode cX10_init 31 = .ok (.bipush 8, 2) := by decide +kernel
theorem dX10_init_33 : decode cX10_init 33 = .ok (.newarray .int, 2) := by decide +kernel
theorem dX10_init_35 : decode cX10_init 35 = .ok (.putfield 21, 3) := by decide +kernel
theorem dX10_init_38 : decode cX10_init 38 = .ok (.aload_n 0, 1) := by decide +kernel
theorem dX10_init_39 : decode cX10_init 39 = .ok (.bipush 8, 2) := by decide +kernel
theorem dX10_init_41 : decode cX10_init 41 = .ok (.bipush 8, 2) := by decide +kernel
theorem dX10_init_43 : decode cX10_init 43 = .ok (.multianewarray 24 2, 4) := by decide +kernel
theorem dX10_init_47 : decode cX10_init 47 = .ok (.putfield 26, 3) := by decide +kernel
theorem dX10_init_50 : decode cX10_init 50 = .ok (.aload_n 0, 1) := by decide +kernel
theorem dX10_init_51 : decode cX10_init 51 = .ok (.sipush 2048, 3) := by decide +kernel
theorem dX10_init_54 : decode cX10_init 54 = .ok (.newarray .int, 2) := by decide +kernel
theorem dX10_init_56 : decode cX10_init 56 = .ok (.putfield 29, 3) := by decide +kernel
theorem dX10_init_59 : decode cX10_init 59 = .ok (.aload_n 0, 1) := by decide +kernel
theorem dX10_init_60 : decode cX10_init 60 = .ok (.bipush 8, 2) := by decide +kernel
theorem dX10_init_62 : decode cX10_init 62 = .ok (.newarray .int, 2) := by decide +kernel
theorem dX10_init_64 : decode cX10_init 64 = .ok (.putfield 32, 3) := by decide +kernel
theorem dX10_init_67 : decode cX10_init 67 = .ok (.return_, 1) := by decide +kernel
theorem dX10_openHeld_0 : decode cX10_openHeld 0 = .ok (.iconst 0, 1) := by decide +kernel
theorem dX10_openHeld_1 : decode cX10_openHeld 1 = .ok (.istore_n 3, 1) := by decide +kernel
theorem dX10_openHeld_2 : decode cX10_openHeld 2 = .ok (.iload_n 3, 1) := by decide +kernel
theorem dX10_openHeld_3 : decode cX10_openHeld 3 = .ok (.sipush 4096, 3) := by decide +kernel
theorem dX10_openHeld_6 : decode cX10_openHeld 6 = .ok (.if_icmp .ge 30, 3) := by decide +kernel
theorem dX10_openHeld_9 : decode cX10_openHeld 9 = .ok (.aload_n 0, 1) := by decide +kernel
theorem dX10_openHeld_10 : decode cX10_openHeld 10 = .ok (.getfield 9, 3) := by decide +kernel
theorem dX10_openHeld_13 : decode cX10_openHeld 13 = .ok (.iload_n 3, 1) := by decide +kernel
theorem dX10_openHeld_14 : decode cX10_openHeld 14 = .ok (.aload_n 1, 1) := by decide +kernel
theorem dX10_openHeld_15 : decode cX10_openHeld 15 = .ok (.iload_n 3, 1) := by decide +kernel
theorem dX10_openHeld_16 : decode cX10_openHeld 16 = .ok (.iload_n 2, 1) := by decide +kernel
theorem dX10_openHeld_17 : decode cX10_openHeld 17 = .ok (.invokevirtual 35, 3) := by decide +kernel
theorem dX10_openHeld_20 : decode cX10_openHeld 20 = .ok (.ifCond .eq 7, 3) := by decide +kernel
theorem dX10_openHeld_23 : decode cX10_openHeld 23 = .ok (.iconst (-1), 1) := by decide +kernel
theorem dX10_openHeld_24 : decode cX10_openHeld 24 = .ok (.goto 5, 3) := by decide +kernel
theorem dX10_openHeld_27 : decode cX10_openHeld 27 = .ok (.bipush (-2), 2) := by decide +kernel
theorem dX10_openHeld_29 : decode cX10_openHeld 29 = .ok (.iastore, 1) := by decide +kernel
theorem dX10_openHeld_30 : decode cX10_openHeld 30 = .ok (.iinc 3 1, 3) := by decide +kernel
theorem dX10_openHeld_33 : decode cX10_openHeld 33 = .ok (.goto (-31), 3) := by decide +kernel
theorem dX10_openHeld_36 : decode cX10_openHeld 36 = .ok (.return_, 1) := by decide +kernel
theorem dX10_closeSeen_0 : decode cX10_closeSeen 0 = .ok (.iconst 0, 1) := by decide +kernel
theorem dX10_closeSeen_1 : decode cX10_closeSeen 1 = .ok (.istore 6, 2) := by decide +kernel
theorem dX10_closeSeen_3 : decode cX10_closeSeen 3 = .ok (.iload 6, 2) := by decide +kernel
theorem dX10_closeSeen_5 : decode cX10_closeSeen 5 = .ok (.sipush 4096, 3) := by decide +kernel
theorem dX10_closeSeen_8 : decode cX10_closeSeen 8 = .ok (.if_icmp .ge 54, 3) := by decide +kernel
theorem dX10_closeSeen_11 : decode cX10_closeSeen 11 = .ok (.aload_n 0, 1) := by decide +kernel
theorem dX10_closeSeen_12 : decode cX10_closeSeen 12 = .ok (.getfield 9, 3) := by decide +kernel
theorem dX10_closeSeen_15 : decode cX10_closeSeen 15 = .ok (.iload 6, 2) := by decide +kernel
theorem dX10_closeSeen_17 : decode cX10_closeSeen 17 = .ok (.iaload, 1) := by decide +kernel
theorem dX10_closeSeen_18 : decode cX10_closeSeen 18 = .ok (.iconst (-1), 1) := by decide +kernel
theorem dX10_closeSeen_19 : decode cX10_closeSeen 19 = .ok (.if_icmp .ne 37, 3) := by decide +kernel
theorem dX10_closeSeen_22 : decode cX10_closeSeen 22 = .ok (.iload 6, 2) := by decide +kernel
theorem dX10_closeSeen_24 : decode cX10_closeSeen 24 = .ok (.iload 4, 2) := by decide +kernel
theorem dX10_closeSeen_26 : decode cX10_closeSeen 26 = .ok (.if_icmp .eq 30, 3) := by decide +kernel
theorem dX10_closeSeen_29 : decode cX10_closeSeen 29 = .ok (.iload 6, 2) := by decide +kernel
theorem dX10_closeSeen_31 : decode cX10_closeSeen 31 = .ok (.iload 5, 2) := by decide +kernel
theorem dX10_closeSeen_33 : decode cX10_closeSeen 33 = .ok (.if_icmp .eq 23, 3) := by decide +kernel
theorem dX10_closeSeen_36 : decode cX10_closeSeen 36 = .ok (.aload_n 1, 1) := by decide +kernel
theorem dX10_closeSeen_37 : decode cX10_closeSeen 37 = .ok (.aload_n 2, 1) := by decide +kernel
theorem dX10_closeSeen_38 : decode cX10_closeSeen 38 = .ok (.iload 6, 2) := by decide +kernel
theorem dX10_closeSeen_40 : decode cX10_closeSeen 40 = .ok (.invokevirtual 41, 3) := by decide +kernel
theorem dX10_closeSeen_43 : decode cX10_closeSeen 43 = .ok (.iload_n 3, 1) := by decide +kernel
theorem dX10_closeSeen_44 : decode cX10_closeSeen 44 = .ok (.if_icmp .gt 12, 3) := by decide +kernel
theorem dX10_closeSeen_47 : decode cX10_closeSeen 47 = .ok (.aload_n 0, 1) := by decide +kernel
theorem dX10_closeSeen_48 : decode cX10_closeSeen 48 = .ok (.getfield 9, 3) := by decide +kernel
theorem dX10_closeSeen_51 : decode cX10_closeSeen 51 = .ok (.iload 6, 2) := by decide +kernel
theorem dX10_closeSeen_53 : decode cX10_closeSeen 53 = .ok (.bipush (-2), 2) := by decide +kernel
theorem dX10_closeSeen_55 : decode cX10_closeSeen 55 = .ok (.iastore, 1) := by decide +kernel
theorem dX10_closeSeen_56 : decode cX10_closeSeen 56 = .ok (.iinc 6 1, 3) := by decide +kernel
theorem dX10_closeSeen_59 : decode cX10_closeSeen 59 = .ok (.goto (-56), 3) := by decide +kernel
theorem dX10_closeSeen_62 : decode cX10_closeSeen 62 = .ok (.return_, 1) := by decide +kernel
theorem dX10_length_0 : decode cX10_length 0 = .ok (.aload_n 0, 1) := by decide +kernel
theorem dX10_length_1 : decode cX10_length 1 = .ok (.aload_n 1, 1) := by decide +kernel
theorem dX10_length_2 : decode cX10_length 2 = .ok (.aload_n 2, 1) := by decide +kernel
theorem dX10_length_3 : decode cX10_length 3 = .ok (.iload_n 3, 1) := by decide +kernel
theorem dX10_length_4 : decode cX10_length 4 = .ok (.iload 4, 2) := by decide +kernel
theorem dX10_length_6 : decode cX10_length 6 = .ok (.invokevirtual 45, 3) := by decide +kernel
theorem dX10_length_9 : decode cX10_length 9 = .ok (.aload_n 0, 1) := by decide +kernel
theorem dX10_length_10 : decode cX10_length 10 = .ok (.iload 4, 2) := by decide +kernel
theorem dX10_length_12 : decode cX10_length 12 = .ok (.invokevirtual 49, 3) := by decide +kernel
theorem dX10_length_15 : decode cX10_length 15 = .ok (.ifCond .ge 8, 3) := by decide +kernel
theorem dX10_length_18 : decode cX10_length 18 = .ok (.bipush (-9), 2) := by decide +kernel
theorem dX10_length_20 : decode cX10_length 20 = .ok (.goto 9, 3) := by decide +kernel
theorem dX10_length_23 : decode cX10_length 23 = .ok (.aload_n 0, 1) := by decide +kernel
theorem dX10_length_24 : decode cX10_length 24 = .ok (.iload 4, 2) := by decide +kernel
theorem dX10_length_26 : decode cX10_length 26 = .ok (.invokevirtual 49, 3) := by decide +kernel
theorem dX10_length_29 : decode cX10_length 29 = .ok (.ireturn, 1) := by decide +kernel
theorem dX10_farOf_0 : decode cX10_farOf 0 = .ok (.iload_n 1, 1) := by decide +kernel
theorem dX10_farOf_1 : decode cX10_farOf 1 = .ok (.ifCond .lt 10, 3) := by decide +kernel
theorem dX10_farOf_4 : decode cX10_farOf 4 = .ok (.iload_n 1, 1) := by decide +kernel
theorem dX10_farOf_5 : decode cX10_farOf 5 = .ok (.sipush 4096, 3) := by decide +kernel
theorem dX10_farOf_8 : decode cX10_farOf 8 = .ok (.if_icmp .lt 8, 3) := by decide +kernel
theorem dX10_farOf_11 : decode cX10_farOf 11 = .ok (.bipush (-2), 2) := by decide +kernel
theorem dX10_farOf_13 : decode cX10_farOf 13 = .ok (.goto 9, 3) := by decide +kernel
theorem dX10_farOf_16 : decode cX10_farOf 16 = .ok (.aload_n 0, 1) := by decide +kernel
theorem dX10_farOf_17 : decode cX10_farOf 17 = .ok (.getfield 9, 3) := by decide +kernel
theorem dX10_farOf_20 : decode cX10_farOf 20 = .ok (.iload_n 1, 1) := by decide +kernel
theorem dX10_farOf_21 : decode cX10_farOf 21 = .ok (.iaload, 1) := by decide +kernel
theorem dX10_farOf_22 : decode cX10_farOf 22 = .ok (.ireturn, 1) := by decide +kernel
theorem dX10_walk_0 : decode cX10_walk 0 = .ok (.aload_n 0, 1) := by decide +kernel
theorem dX10_walk_1 : decode cX10_walk 1 = .ok (.iconst 0, 1) := by decide +kernel
theorem dX10_walk_2 : decode cX10_walk 2 = .ok (.putfield 53, 3) := by decide +kernel
theorem dX10_walk_5 : decode cX10_walk 5 = .ok (.aload_n 0, 1) := by decide +kernel
theorem dX10_walk_6 : decode cX10_walk 6 = .ok (.iload_n 3, 1) := by decide +kernel
theorem dX10_walk_7 : decode cX10_walk 7 = .ok (.iconst 0, 1) := by decide +kernel
theorem dX10_walk_8 : decode cX10_walk 8 = .ok (.invokevirtual 57, 3) := by decide +kernel
theorem dX10_walk_11 : decode cX10_walk 11 = .ok (.iconst 0, 1) := by decide +kernel
theorem dX10_walk_12 : decode cX10_walk 12 = .ok (.istore 5, 2) := by decide +kernel
theorem dX10_walk_14 : decode cX10_walk 14 = .ok (.iload 5, 2) := by decide +kernel
theorem dX10_walk_16 : decode cX10_walk 16 = .ok (.aload_n 0, 1) := by decide +kernel
theorem dX10_walk_17 : decode cX10_walk 17 = .ok (.getfield 53, 3) := by decide +kernel
theorem dX10_walk_20 : decode cX10_walk 20 = .ok (.if_icmp .ge 143, 3) := by decide +kernel
theorem dX10_walk_23 : decode cX10_walk 23 = .ok (.iload 5, 2) := by decide +kernel
theorem dX10_walk_25 : decode cX10_walk 25 = .ok (.sipush 4096, 3) := by decide +kernel
theorem dX10_walk_28 : decode cX10_walk 28 = .ok (.if_icmp .ge 135, 3) := by decide +kernel
theorem dX10_walk_31 : decode cX10_walk 31 = .ok (.aload_n 0, 1) := by decide +kernel
theorem dX10_walk_32 : decode cX10_walk 32 = .ok (.iload 4, 2) := by decide +kernel
theorem dX10_walk_34 : decode cX10_walk 34 = .ok (.invokevirtual 49, 3) := by decide +kernel
theorem dX10_walk_37 : decode cX10_walk 37 = .ok (.ifCond .ge 126, 3) := by decide +kernel
theorem dX10_walk_40 : decode cX10_walk 40 = .ok (.aload_n 0, 1) := by decide +kernel
theorem dX10_walk_41 : decode cX10_walk 41 = .ok (.getfield 15, 3) := by decide +kernel
theorem dX10_walk_44 : decode cX10_walk 44 = .ok (.iload 5, 2) := by decide +kernel
theorem dX10_walk_46 : decode cX10_walk 46 = .ok (.iaload, 1) := by decide +kernel
theorem dX10_walk_47 : decode cX10_walk 47 = .ok (.istore 6, 2) := by decide +kernel
theorem dX10_walk_49 : decode cX10_walk 49 = .ok (.aload_n 0, 1) := by decide +kernel
theorem dX10_walk_50 : decode cX10_walk 50 = .ok (.getfield 9, 3) := by decide +kernel
theorem dX10_walk_53 : decode cX10_walk 53 = .ok (.iload 6, 2) := by decide +kernel
theorem dX10_walk_55 : decode cX10_walk 55 = .ok (.iaload, 1) := by decide +kernel
theorem dX10_walk_56 : decode cX10_walk 56 = .ok (.iconst 1, 1) := by decide +kernel
theorem dX10_walk_57 : decode cX10_walk 57 = .ok (.iadd, 1) := by decide +kernel
theorem dX10_walk_58 : decode cX10_walk 58 = .ok (.istore 7, 2) := by decide +kernel
theorem dX10_walk_60 : decode cX10_walk 60 = .ok (.iconst 0, 1) := by decide +kernel
theorem dX10_walk_61 : decode cX10_walk 61 = .ok (.istore 8, 2) := by decide +kernel
theorem dX10_walk_63 : decode cX10_walk 63 = .ok (.iload 8, 2) := by decide +kernel
theorem dX10_walk_65 : decode cX10_walk 65 = .ok (.aload_n 2, 1) := by decide +kernel
theorem dX10_walk_66 : decode cX10_walk 66 = .ok (.getfield 61, 3) := by decide +kernel
theorem dX10_walk_69 : decode cX10_walk 69 = .ok (.if_icmp .ge 88, 3) := by decide +kernel
theorem dX10_walk_72 : decode cX10_walk 72 = .ok (.aload_n 1, 1) := by decide +kernel
theorem dX10_walk_73 : decode cX10_walk 73 = .ok (.getfield 66, 3) := by decide +kernel
theorem dX10_walk_76 : decode cX10_walk 76 = .ok (.iload 8, 2) := by decide +kernel
theorem dX10_walk_78 : decode cX10_walk 78 = .ok (.iaload, 1) := by decide +kernel
theorem dX10_walk_79 : decode cX10_walk 79 = .ok (.istore 9, 2) := by decide +kernel
theorem dX10_walk_81 : decode cX10_walk 81 = .ok (.aload_n 1, 1) := by decide +kernel
theorem dX10_walk_82 : decode cX10_walk 82 = .ok (.getfield 69, 3) := by decide +kernel
theorem dX10_walk_85 : decode cX10_walk 85 = .ok (.iload 8, 2) := by decide +kernel
theorem dX10_walk_87 : decode cX10_walk 87 = .ok (.iaload, 1) := by decide +kernel
theorem dX10_walk_88 : decode cX10_walk 88 = .ok (.istore 10, 2) := by decide +kernel
theorem dX10_walk_90 : decode cX10_walk 90 = .ok (.iload 9, 2) := by decide +kernel
theorem dX10_walk_92 : decode cX10_walk 92 = .ok (.iconst 1, 1) := by decide +kernel
theorem dX10_walk_93 : decode cX10_walk 93 = .ok (.if_icmp .lt 58, 3) := by decide +kernel
theorem dX10_walk_96 : decode cX10_walk 96 = .ok (.iload 10, 2) := by decide +kernel
theorem dX10_walk_98 : decode cX10_walk 98 = .ok (.iconst 1, 1) := by decide +kernel
theorem dX10_walk_99 : decode cX10_walk 99 = .ok (.if_icmp .ge 6, 3) := by decide +kernel
theorem dX10_walk_102 : decode cX10_walk 102 = .ok (.goto 49, 3) := by decide +kernel
theorem dX10_walk_105 : decode cX10_walk 105 = .ok (.iload 6, 2) := by decide +kernel
theorem dX10_walk_107 : decode cX10_walk 107 = .ok (.iload 9, 2) := by decide +kernel
theorem dX10_walk_109 : decode cX10_walk 109 = .ok (.idiv, 1) := by decide +kernel
theorem dX10_walk_110 : decode cX10_walk 110 = .ok (.iload 10, 2) := by decide +kernel
theorem dX10_walk_112 : decode cX10_walk 112 = .ok (.irem, 1) := by decide +kernel
theorem dX10_walk_113 : decode cX10_walk 113 = .ok (.istore 11, 2) := by decide +kernel
theorem dX10_walk_115 : decode cX10_walk 115 = .ok (.iload 11, 2) := by decide +kernel
theorem dX10_walk_117 : decode cX10_walk 117 = .ok (.ifCond .le 14, 3) := by decide +kernel
theorem dX10_walk_120 : decode cX10_walk 120 = .ok (.aload_n 0, 1) := by decide +kernel
theorem dX10_walk_121 : decode cX10_walk 121 = .ok (.iload 6, 2) := by decide +kernel
theorem dX10_walk_123 : decode cX10_walk 123 = .ok (.iload 9, 2) := by decide +kernel
theorem dX10_walk_125 : decode cX10_walk 125 = .ok (.isub, 1) := by decide +kernel
theorem dX10_walk_126 : decode cX10_walk 126 = .ok (.iload 7, 2) := by decide +kernel
theorem dX10_walk_128 : decode cX10_walk 128 = .ok (.invokevirtual 57, 3) := by decide +kernel
theorem dX10_walk_131 : decode cX10_walk 131 = .ok (.iload 11, 2) := by decide +kernel
theorem dX10_walk_133 : decode cX10_walk 133 = .ok (.iload 10, 2) := by decide +kernel
theorem dX10_walk_135 : decode cX10_walk 135 = .ok (.iconst 1, 1) := by decide +kernel
theorem dX10_walk_136 : decode cX10_walk 136 = .ok (.isub, 1) := by decide +kernel
theorem dX10_walk_137 : decode cX10_walk 137 = .ok (.if_icmp .ge 14, 3) := by decide +kernel
theorem dX10_walk_140 : decode cX10_walk 140 = .ok (.aload_n 0, 1) := by decide +kernel
theorem dX10_walk_141 : decode cX10_walk 141 = .ok (.iload 6, 2) := by decide +kernel
theorem dX10_walk_143 : decode cX10_walk 143 = .ok (.iload 9, 2) := by decide +kernel
theorem dX10_walk_145 : decode cX10_walk 145 = .ok (.iadd, 1) := by decide +kernel
theorem dX10_walk_146 : decode cX10_walk 146 = .ok (.iload 7, 2) := by decide +kernel
theorem dX10_walk_148 : decode cX10_walk 148 = .ok (.invokevirtual 57, 3) := by decide +kernel
theorem dX10_walk_151 : decode cX10_walk 151 = .ok (.iinc 8 1, 3) := by decide +kernel
theorem dX10_walk_154 : decode cX10_walk 154 = .ok (.goto (-91), 3) := by decide +kernel
theorem dX10_walk_157 : decode cX10_walk 157 = .ok (.iinc 5 1, 3) := by decide +kernel
theorem dX10_walk_160 : decode cX10_walk 160 = .ok (.goto (-146), 3) := by decide +kernel
theorem dX10_walk_163 : decode cX10_walk 163 = .ok (.return_, 1) := by decide +kernel
theorem dX10_come_0 : decode cX10_come 0 = .ok (.aload_n 0, 1) := by decide +kernel
theorem dX10_come_1 : decode cX10_come 1 = .ok (.iload_n 1, 1) := by decide +kernel
theorem dX10_come_2 : decode cX10_come 2 = .ok (.invokevirtual 49, 3) := by decide +kernel
theorem dX10_come_5 : decode cX10_come 5 = .ok (.iconst (-1), 1) := by decide +kernel
theorem dX10_come_6 : decode cX10_come 6 = .ok (.if_icmp .ne 13, 3) := by decide +kernel
theorem dX10_come_9 : decode cX10_come 9 = .ok (.aload_n 0, 1) := by decide +kernel
theorem dX10_come_10 : decode cX10_come 10 = .ok (.getfield 53, 3) := by decide +kernel
theorem dX10_come_13 : decode cX10_come 13 = .ok (.sipush 4096, 3) := by decide +kernel
theorem dX10_come_16 : decode cX10_come 16 = .ok (.if_icmp .lt 4, 3) := by decide +kernel
theorem dX10_come_19 : decode cX10_come 19 = .ok (.return_, 1) := by decide +kernel
theorem dX10_come_20 : decode cX10_come 20 = .ok (.aload_n 0, 1) := by decide +kernel
theorem dX10_come_21 : decode cX10_come 21 = .ok (.getfield 9, 3) := by decide +kernel
theorem dX10_come_24 : decode cX10_come 24 = .ok (.iload_n 1, 1) := by decide +kernel
theorem dX10_come_25 : decode cX10_come 25 = .ok (.iload_n 2, 1) := by decide +kernel
theorem dX10_come_26 : decode cX10_come 26 = .ok (.iastore, 1) := by decide +kernel
theorem dX10_come_27 : decode cX10_come 27 = .ok (.aload_n 0, 1) := by decide +kernel
theorem dX10_come_28 : decode cX10_come 28 = .ok (.getfield 15, 3) := by decide +kernel
theorem dX10_come_31 : decode cX10_come 31 = .ok (.aload_n 0, 1) := by decide +kernel
theorem dX10_come_32 : decode cX10_come 32 = .ok (.getfield 53, 3) := by decide +kernel
theorem dX10_come_35 : decode cX10_come 35 = .ok (.iload_n 1, 1) := by decide +kernel
theorem dX10_come_36 : decode cX10_come 36 = .ok (.iastore, 1) := by decide +kernel
theorem dX10_come_37 : decode cX10_come 37 = .ok (.aload_n 0, 1) := by decide +kernel
theorem dX10_come_38 : decode cX10_come 38 = .ok (.dup, 1) := by decide +kernel
theorem dX10_come_39 : decode cX10_come 39 = .ok (.getfield 53, 3) := by decide +kernel
theorem dX10_come_42 : decode cX10_come 42 = .ok (.iconst 1, 1) := by decide +kernel
theorem dX10_come_43 : decode cX10_come 43 = .ok (.iadd, 1) := by decide +kernel
theorem dX10_come_44 : decode cX10_come 44 = .ok (.putfield 53, 3) := by decide +kernel
theorem dX10_come_47 : decode cX10_come 47 = .ok (.return_, 1) := by decide +kernel
theorem dX11_init_0 : decode cX11_init 0 = .ok (.aload_n 0, 1) := by decide +kernel
theorem dX11_init_1 : decode cX11_init 1 = .ok (.invokespecial 3, 3) := by decide +kernel
theorem dX11_init_4 : decode cX11_init 4 = .ok (.aload_n 0, 1) := by decide +kernel
theorem dX11_init_5 : decode cX11_init 5 = .ok (.new 9, 3) := by decide +kernel
theorem dX11_init_8 : decode cX11_init 8 = .ok (.dup, 1) := by decide +kernel
theorem dX11_init_9 : decode cX11_init 9 = .ok (.invokespecial 11, 3) := by decide +kernel
theorem dX11_init_12 : decode cX11_init 12 = .ok (.putfield 12, 3) := by decide +kernel
theorem dX11_init_15 : decode cX11_init 15 = .ok (.aload_n 0, 1) := by decide +kernel
theorem dX11_init_16 : decode cX11_init 16 = .ok (.bipush 6, 2) := by decide +kernel
theorem dX11_init_18 : decode cX11_init 18 = .ok (.anewarray 16, 3) := by decide +kernel
theorem dX11_init_21 : decode cX11_init 21 = .ok (.putfield 18, 3) := by decide +kernel
theorem dX11_init_24 : decode cX11_init 24 = .ok (.iconst 0, 1) := by decide +kernel
theorem dX11_init_25 : decode cX11_init 25 = .ok (.istore_n 1, 1) := by decide +kernel
theorem dX11_init_26 : decode cX11_init 26 = .ok (.iload_n 1, 1) := by decide +kernel
theorem dX11_init_27 : decode cX11_init 27 = .ok (.bipush 6, 2) := by decide +kernel
theorem dX11_init_29 : decode cX11_init 29 = .ok (.if_icmp .ge 24, 3) := by decide +kernel
theorem dX11_init_32 : decode cX11_init 32 = .ok (.aload_n 0, 1) := by decide +kernel
theorem dX11_init_33 : decode cX11_init 33 = .ok (.getfield 18, 3) := by decide +kernel
theorem dX11_init_36 : decode cX11_init 36 = .ok (.iload_n 1, 1) := by decide +kernel
theorem dX11_init_37 : decode cX11_init 37 = .ok (.new 16, 3) := by decide +kernel
theorem dX11_init_40 : decode cX11_init 40 = .ok (.dup, 1) := by decide +kernel
theorem dX11_init_41 : decode cX11_init 41 = .ok (.bipush 40, 2) := by decide +kernel
theorem dX11_init_43 : decode cX11_init 43 = .ok (.invokespecial 22, 3) := by decide +kernel
theorem dX11_init_46 : decode cX11_init 46 = .ok (.aastore, 1) := by decide +kernel
theorem dX11_init_47 : decode cX11_init 47 = .ok (.iinc 1 1, 3) := by decide +kernel
theorem dX11_init_50 : decode cX11_init 50 = .ok (.goto (-24), 3) := by decide +kernel
theorem dX11_init_53 : decode cX11_init 53 = .ok (.aload_n 0, 1) := by decide +kernel
theorem dX11_init_54 : decode cX11_init 54 = .ok (.iconst 4, 1) := by decide +kernel
theorem dX11_init_55 : decode cX11_init 55 = .ok (.anewarray 16, 3) := by decide +kernel
theorem dX11_init_58 : decode cX11_init 58 = .ok (.putfield 25, 3) := by decide +kernel
theorem dX11_init_61 : decode cX11_init 61 = .ok (.iconst 0, 1) := by decide +kernel
theorem dX11_init_62 : decode cX11_init 62 = .ok (.istore_n 1, 1) := by decide +kernel
theorem dX11_init_63 : decode cX11_init 63 = .ok (.iload_n 1, 1) := by decide +kernel
theorem dX11_init_64 : decode cX11_init 64 = .ok (.iconst 4, 1) := by decide +kernel
theorem dX11_init_65 : decode cX11_init 65 = .ok (.if_icmp .ge 24, 3) := by decide +kernel
theorem dX11_init_68 : decode cX11_init 68 = .ok (.aload_n 0, 1) := by decide +kernel
theorem dX11_init_69 : decode cX11_init 69 = .ok (.getfield 25, 3) := by decide +kernel
theorem dX11_init_72 : decode cX11_init 72 = .ok (.iload_n 1, 1) := by decide +kernel
theorem dX11_init_73 : decode cX11_init 73 = .ok (.new 16, 3) := by decide +kernel
theorem dX11_init_76 : decode cX11_init 76 = .ok (.dup, 1) := by decide +kernel
theorem dX11_init_77 : decode cX11_init 77 = .ok (.bipush 80, 2) := by decide +kernel
theorem dX11_init_79 : decode cX11_init 79 = .ok (.invokespecial 22, 3) := by decide +kernel
theorem dX11_init_82 : decode cX11_init 82 = .ok (.aastore, 1) := by decide +kernel
theorem dX11_init_83 : decode cX11_init 83 = .ok (.iinc 1 1, 3) := by decide +kernel
theorem dX11_init_86 : decode cX11_init 86 = .ok (.goto (-23), 3) := by decide +kernel
theorem dX11_init_89 : decode cX11_init 89 = .ok (.aload_n 0, 1) := by decide +kernel
theorem dX11_init_90 : decode cX11_init 90 = .ok (.new 28, 3) := by decide +kernel
theorem dX11_init_93 : decode cX11_init 93 = .ok (.dup, 1) := by decide +kernel
theorem dX11_init_94 : decode cX11_init 94 = .ok (.invokespecial 30, 3) := by decide +kernel
theorem dX11_init_97 : decode cX11_init 97 = .ok (.putfield 31, 3) := by decide +kernel
theorem dX11_init_100 : decode cX11_init 100 = .ok (.aload_n 0, 1) := by decide +kernel
theorem dX11_init_101 : decode cX11_init 101 = .ok (.new 35, 3) := by decide +kernel
theorem dX11_init_104 : decode cX11_init 104 = .ok (.dup, 1) := by decide +kernel
theorem dX11_init_105 : decode cX11_init 105 = .ok (.invokespecial 37, 3) := by decide +kernel
theorem dX11_init_108 : decode cX11_init 108 = .ok (.putfield 38, 3) := by decide +kernel
theorem dX11_init_111 : decode cX11_init 111 = .ok (.aload_n 0, 1) := by decide +kernel
theorem dX11_init_112 : decode cX11_init 112 = .ok (.new 35, 3) := by decide +kernel
theorem dX11_init_115 : decode cX11_init 115 = .ok (.dup, 1) := by decide +kernel
theorem dX11_init_116 : decode cX11_init 116 = .ok (.invokespecial 37, 3) := by decide +kernel
theorem dX11_init_119 : decode cX11_init 119 = .ok (.putfield 42, 3) := by decide +kernel
theorem dX11_init_122 : decode cX11_init 122 = .ok (.aload_n 0, 1) := by decide +kernel
theorem dX11_init_123 : decode cX11_init 123 = .ok (.new 45, 3) := by decide +kernel
theorem dX11_init_126 : decode cX11_init 126 = .ok (.dup, 1) := by decide +kernel
theorem dX11_init_127 : decode cX11_init 127 = .ok (.invokespecial 47, 3) := by decide +kernel
theorem dX11_init_130 : decode cX11_init 130 = .ok (.putfield 48, 3) := by decide +kernel
theorem dX11_init_133 : decode cX11_init 133 = .ok (.aload_n 0, 1) := by decide +kernel
theorem dX11_init_134 : decode cX11_init 134 = .ok (.new 45, 3) := by decide +kernel
theorem dX11_init_137 : decode cX11_init 137 = .ok (.dup, 1) := by decide +kernel
theorem dX11_init_138 : decode cX11_init 138 = .ok (.invokespecial 47, 3) := by decide +kernel
theorem dX11_init_141 : decode cX11_init 141 = .ok (.putfield 52, 3) := by decide +kernel
theorem dX11_init_144 : decode cX11_init 144 = .ok (.aload_n 0, 1) := by decide +kernel
theorem dX11_init_145 : decode cX11_init 145 = .ok (.bipush 99, 2) := by decide +kernel
theorem dX11_init_147 : decode cX11_init 147 = .ok (.putfield 55, 3) := by decide +kernel
theorem dX11_init_150 : decode cX11_init 150 = .ok (.aload_n 0, 1) := by decide +kernel
theorem dX11_init_151 : decode cX11_init 151 = .ok (.bipush 12, 2) := by decide +kernel
theorem dX11_init_153 : decode cX11_init 153 = .ok (.anewarray 59, 3) := by decide +kernel
theorem dX11_init_156 : decode cX11_init 156 = .ok (.putfield 61, 3) := by decide +kernel
theorem dX11_init_159 : decode cX11_init 159 = .ok (.iconst 0, 1) := by decide +kernel
theorem dX11_init_160 : decode cX11_init 160 = .ok (.istore_n 1, 1) := by decide +kernel
theorem dX11_init_161 : decode cX11_init 161 = .ok (.iload_n 1, 1) := by decide +kernel
theorem dX11_init_162 : decode cX11_init 162 = .ok (.bipush 12, 2) := by decide +kernel
theorem dX11_init_164 : decode cX11_init 164 = .ok (.if_icmp .ge 22, 3) := by decide +kernel
theorem dX11_init_167 : decode cX11_init 167 = .ok (.aload_n 0, 1) := by decide +kernel
theorem dX11_init_168 : decode cX11_init 168 = .ok (.getfield 61, 3) := by decide +kernel
theorem dX11_init_171 : decode cX11_init 171 = .ok (.iload_n 1, 1) := by decide +kernel
theorem dX11_init_172 : decode cX11_init 172 = .ok (.new 59, 3) := by decide +kernel
theorem dX11_init_175 : decode cX11_init 175 = .ok (.dup, 1) := by decide +kernel
theorem dX11_init_176 : decode cX11_init 176 = .ok (.invokespecial 65, 3) := by decide +kernel
theorem dX11_init_179 : decode cX11_init 179 = .ok (.aastore, 1) := by decide +kernel
theorem dX11_init_180 : decode cX11_init 180 = .ok (.iinc 1 1, 3) := by decide +kernel
theorem dX11_init_183 : decode cX11_init 183 = .ok (.goto (-22), 3) := by decide +kernel
theorem dX11_init_186 : decode cX11_init 186 = .ok (.aload_n 0, 1) := by decide +kernel
theorem dX11_init_187 : decode cX11_init 187 = .ok (.bipush 6, 2) := by decide +kernel
theorem dX11_init_189 : decode cX11_init 189 = .ok (.anewarray 66, 3) := by decide +kernel
theorem dX11_init_192 : decode cX11_init 192 = .ok (.putfield 68, 3) := by decide +kernel
theorem dX11_init_195 : decode cX11_init 195 = .ok (.iconst 0, 1) := by decide +kernel
theorem dX11_init_196 : decode cX11_init 196 = .ok (.istore_n 1, 1) := by decide +kernel
theorem dX11_init_197 : decode cX11_init 197 = .ok (.iload_n 1, 1) := by decide +kernel
theorem dX11_init_198 : decode cX11_init 198 = .ok (.bipush 6, 2) := by decide +kernel
theorem dX11_init_200 : decode cX11_init 200 = .ok (.if_icmp .ge 22, 3) := by decide +kernel
theorem dX11_init_203 : decode cX11_init 203 = .ok (.aload_n 0, 1) := by decide +kernel
theorem dX11_init_204 : decode cX11_init 204 = .ok (.getfield 68, 3) := by decide +kernel
theorem dX11_init_207 : decode cX11_init 207 = .ok (.iload_n 1, 1) := by decide +kernel
theorem dX11_init_208 : decode cX11_init 208 = .ok (.new 66, 3) := by decide +kernel
theorem dX11_init_211 : decode cX11_init 211 = .ok (.dup, 1) := by decide +kernel
theorem dX11_init_212 : decode cX11_init 212 = .ok (.invokespecial 72, 3) := by decide +kernel
theorem dX11_init_215 : decode cX11_init 215 = .ok (.aastore, 1) := by decide +kernel
theorem dX11_init_216 : decode cX11_init 216 = .ok (.iinc 1 1, 3) := by decide +kernel
theorem dX11_init_219 : decode cX11_init 219 = .ok (.goto (-22), 3) := by decide +kernel
theorem dX11_init_222 : decode cX11_init 222 = .ok (.aload_n 0, 1) := by decide +kernel
theorem dX11_init_223 : decode cX11_init 223 = .ok (.new 73, 3) := by decide +kernel
theorem dX11_init_226 : decode cX11_init 226 = .ok (.dup, 1) := by decide +kernel
theorem dX11_init_227 : decode cX11_init 227 = .ok (.invokespecial 75, 3) := by decide +kernel
theorem dX11_init_230 : decode cX11_init 230 = .ok (.putfield 76, 3) := by decide +kernel
theorem dX11_init_233 : decode cX11_init 233 = .ok (.aload_n 0, 1) := by decide +kernel
theorem dX11_init_234 : decode cX11_init 234 = .ok (.new 80, 3) := by decide +kernel
theorem dX11_init_237 : decode cX11_init 237 = .ok (.dup, 1) := by decide +kernel
theorem dX11_init_238 : decode cX11_init 238 = .ok (.invokespecial 82, 3) := by decide +kernel
theorem dX11_init_241 : decode cX11_init 241 = .ok (.putfield 83, 3) := by decide +kernel
theorem dX11_init_244 : decode cX11_init 244 = .ok (.aload_n 0, 1) := by decide +kernel
theorem dX11_init_245 : decode cX11_init 245 = .ok (.new 87, 3) := by decide +kernel
theorem dX11_init_248 : decode cX11_init 248 = .ok (.dup, 1) := by decide +kernel
theorem dX11_init_249 : decode cX11_init 249 = .ok (.invokespecial 89, 3) := by decide +kernel
theorem dX11_init_252 : decode cX11_init 252 = .ok (.putfield 90, 3) := by decide +kernel
theorem dX11_init_255 : decode cX11_init 255 = .ok (.aload_n 0, 1) := by decide +kernel
theorem dX11_init_256 : decode cX11_init 256 = .ok (.new 94, 3) := by decide +kernel
theorem dX11_init_259 : decode cX11_init 259 = .ok (.dup, 1) := by decide +kernel
theorem dX11_init_260 : decode cX11_init 260 = .ok (.invokespecial 96, 3) := by decide +kernel
theorem dX11_init_263 : decode cX11_init 263 = .ok (.putfield 97, 3) := by decide +kernel
theorem dX11_init_266 : decode cX11_init 266 = .ok (.aload_n 0, 1) := by decide +kernel
theorem dX11_init_267 : decode cX11_init 267 = .ok (.new 94, 3) := by decide +kernel
theorem dX11_init_270 : decode cX11_init 270 = .ok (.dup, 1) := by decide +kernel
theorem dX11_init_271 : decode cX11_init 271 = .ok (.invokespecial 96, 3) := by decide +kernel
theorem dX11_init_274 : decode cX11_init 274 = .ok (.putfield 101, 3) := by decide +kernel
theorem dX11_init_277 : decode cX11_init 277 = .ok (.aload_n 0, 1) := by decide +kernel
theorem dX11_init_278 : decode cX11_init 278 = .ok (.new 94, 3) := by decide +kernel
theorem dX11_init_281 : decode cX11_init 281 = .ok (.dup, 1) := by decide +kernel
theorem dX11_init_282 : decode cX11_init 282 = .ok (.invokespecial 96, 3) := by decide +kernel
theorem dX11_init_285 : decode cX11_init 285 = .ok (.putfield 104, 3) := by decide +kernel
theorem dX11_init_288 : decode cX11_init 288 = .ok (.return_, 1) := by decide +kernel
theorem dX11_row_0 : decode cX11_row 0 = .ok (.iload_n 1, 1) := by decide +kernel
theorem dX11_row_1 : decode cX11_row 1 = .ok (.invokestatic 107, 3) := by decide +kernel
theorem dX11_row_4 : decode cX11_row 4 = .ok (.ifCond .eq 9, 3) := by decide +kernel
theorem dX11_row_7 : decode cX11_row 7 = .ok (.iload_n 2, 1) := by decide +kernel
theorem dX11_row_8 : decode cX11_row 8 = .ok (.bipush 40, 2) := by decide +kernel
theorem dX11_row_10 : decode cX11_row 10 = .ok (.if_icmp .le 5, 3) := by decide +kernel
theorem dX11_row_13 : decode cX11_row 13 = .ok (.iconst (-1), 1) := by decide +kernel
theorem dX11_row_14 : decode cX11_row 14 = .ok (.ireturn, 1) := by decide +kernel
theorem dX11_row_15 : decode cX11_row 15 = .ok (.iload_n 2, 1) := by decide +kernel
theorem dX11_row_16 : decode cX11_row 16 = .ok (.ifCond .ge 12, 3) := by decide +kernel
theorem dX11_row_19 : decode cX11_row 19 = .ok (.aload_n 0, 1) := by decide +kernel
theorem dX11_row_20 : decode cX11_row 20 = .ok (.getfield 12, 3) := by decide +kernel
theorem dX11_row_23 : decode cX11_row 23 = .ok (.iconst 5, 1) := by decide +kernel
theorem dX11_row_24 : decode cX11_row 24 = .ok (.invokevirtual 111, 3) := by decide +kernel
theorem dX11_row_27 : decode cX11_row 27 = .ok (.ireturn, 1) := by decide +kernel
theorem dX11_row_28 : decode cX11_row 28 = .ok (.aload_n 0, 1) := by decide +kernel
theorem dX11_row_29 : decode cX11_row 29 = .ok (.getfield 18, 3) := by decide +kernel
theorem dX11_row_32 : decode cX11_row 32 = .ok (.iload_n 1, 1) := by decide +kernel
theorem dX11_row_33 : decode cX11_row 33 = .ok (.aaload, 1) := by decide +kernel
theorem dX11_row_34 : decode cX11_row 34 = .ok (.iload_n 2, 1) := by decide +kernel
theorem dX11_row_35 : decode cX11_row 35 = .ok (.iconst 0, 1) := by decide +kernel
theorem dX11_row_36 : decode cX11_row 36 = .ok (.invokevirtual 115, 3) := by decide +kernel
theorem dX11_row_39 : decode cX11_row 39 = .ok (.iload_n 2, 1) := by decide +kernel
theorem dX11_row_40 : decode cX11_row 40 = .ok (.ireturn, 1) := by decide +kernel
theorem dX11_lay_0 : decode cX11_lay 0 = .ok (.iload_n 1, 1) := by decide +kernel
theorem dX11_lay_1 : decode cX11_lay 1 = .ok (.invokestatic 107, 3) := by decide +kernel
theorem dX11_lay_4 : decode cX11_lay 4 = .ok (.ifCond .ne 5, 3) := by decide +kernel
theorem dX11_lay_7 : decode cX11_lay 7 = .ok (.iconst (-1), 1) := by decide +kernel
theorem dX11_lay_8 : decode cX11_lay 8 = .ok (.ireturn, 1) := by decide +kernel
theorem dX11_lay_9 : decode cX11_lay 9 = .ok (.aload_n 0, 1) := by decide +kernel
theorem dX11_lay_10 : decode cX11_lay 10 = .ok (.getfield 18, 3) := by decide +kernel
theorem dX11_lay_13 : decode cX11_lay 13 = .ok (.iload_n 1, 1) := by decide +kernel
theorem dX11_lay_14 : decode cX11_lay 14 = .ok (.aaload, 1) := by decide +kernel
theorem dX11_lay_15 : decode cX11_lay 15 = .ok (.astore 4, 2) := by decide +kernel
theorem dX11_lay_17 : decode cX11_lay 17 = .ok (.aload 4, 2) := by decide +kernel
theorem dX11_lay_19 : decode cX11_lay 19 = .ok (.invokevirtual 119, 3) := by decide +kernel
theorem dX11_lay_22 : decode cX11_lay 22 = .ok (.ifCond .ne 12, 3) := by decide +kernel
theorem dX11_lay_25 : decode cX11_lay 25 = .ok (.aload_n 0, 1) := by decide +kernel
theorem dX11_lay_26 : decode cX11_lay 26 = .ok (.getfield 12, 3) := by decide +kernel
theorem dX11_lay_29 : decode cX11_lay 29 = .ok (.iconst 1, 1) := by decide +kernel
theorem dX11_lay_30 : decode cX11_lay 30 = .ok (.invokevirtual 111, 3) := by decide +kernel
theorem dX11_lay_33 : decode cX11_lay 33 = .ok (.ireturn, 1) := by decide +kernel
theorem dX11_lay_34 : decode cX11_lay 34 = .ok (.aload 4, 2) := by decide +kernel
theorem dX11_lay_36 : decode cX11_lay 36 = .ok (.iload_n 2, 1) := by decide +kernel
theorem dX11_lay_37 : decode cX11_lay 37 = .ok (.invokevirtual 123, 3) := by decide +kernel
theorem dX11_lay_40 : decode cX11_lay 40 = .ok (.ifCond .ne 12, 3) := by decide +kernel
theorem dX11_lay_43 : decode cX11_lay 43 = .ok (.aload_n 0, 1) := by decide +kernel
theorem dX11_lay_44 : decode cX11_lay 44 = .ok (.getfield 12, 3) := by decide +kernel
theorem dX11_lay_47 : decode cX11_lay 47 = .ok (.iconst 2, 1) := by decide +kernel
theorem dX11_lay_48 : decode cX11_lay 48 = .ok (.invokevirtual 111, 3) := by decide +kernel
theorem dX11_lay_51 : decode cX11_lay 51 = .ok (.ireturn, 1) := by decide +kernel
theorem dX11_lay_52 : decode cX11_lay 52 = .ok (.aload 4, 2) := by decide +kernel
theorem dX11_lay_54 : decode cX11_lay 54 = .ok (.iload_n 2, 1) := by decide +kernel
theorem dX11_lay_55 : decode cX11_lay 55 = .ok (.invokevirtual 126, 3) := by decide +kernel
theorem dX11_lay_58 : decode cX11_lay 58 = .ok (.istore 5, 2) := by decide +kernel
theorem dX11_lay_60 : decode cX11_lay 60 = .ok (.aload 4, 2) := by decide +kernel
theorem dX11_lay_62 : decode cX11_lay 62 = .ok (.iload_n 2, 1) := by decide +kernel
theorem dX11_lay_63 : decode cX11_lay 63 = .ok (.iload_n 3, 1) := by decide +kernel
theorem dX11_lay_64 : decode cX11_lay 64 = .ok (.invokevirtual 129, 3) := by decide +kernel
theorem dX11_lay_67 : decode cX11_lay 67 = .ok (.aload_n 0, 1) := by decide +kernel
theorem dX11_lay_68 : decode cX11_lay 68 = .ok (.getfield 12, 3) := by decide +kernel
theorem dX11_lay_71 : decode cX11_lay 71 = .ok (.iload 5, 2) := by decide +kernel
theorem dX11_lay_73 : decode cX11_lay 73 = .ok (.invokevirtual 132, 3) := by decide +kernel
theorem dX11_lay_76 : decode cX11_lay 76 = .ok (.ireturn, 1) := by decide +kernel
theorem dX11_at_0 : decode cX11_at 0 = .ok (.iload_n 1, 1) := by decide +kernel
theorem dX11_at_1 : decode cX11_at 1 = .ok (.invokestatic 107, 3) := by decide +kernel
theorem dX11_at_4 : decode cX11_at 4 = .ok (.ifCond .ne 5, 3) := by decide +kernel
theorem dX11_at_7 : decode cX11_at 7 = .ok (.iconst (-1), 1) := by decide +kernel
theorem dX11_at_8 : decode cX11_at 8 = .ok (.ireturn, 1) := by decide +kernel
theorem dX11_at_9 : decode cX11_at 9 = .ok (.aload_n 0, 1) := by decide +kernel
theorem dX11_at_10 : decode cX11_at 10 = .ok (.getfield 18, 3) := by decide +kernel
theorem dX11_at_13 : decode cX11_at 13 = .ok (.iload_n 1, 1) := by decide +kernel
theorem dX11_at_14 : decode cX11_at 14 = .ok (.aaload, 1) := by decide +kernel
theorem dX11_at_15 : decode cX11_at 15 = .ok (.astore_n 3, 1) := by decide +kernel
theorem dX11_at_16 : decode cX11_at 16 = .ok (.aload_n 3, 1) := by decide +kernel
theorem dX11_at_17 : decode cX11_at 17 = .ok (.invokevirtual 119, 3) := by decide +kernel
theorem dX11_at_20 : decode cX11_at 20 = .ok (.ifCond .ne 12, 3) := by decide +kernel
theorem dX11_at_23 : decode cX11_at 23 = .ok (.aload_n 0, 1) := by decide +kernel
theorem dX11_at_24 : decode cX11_at 24 = .ok (.getfield 12, 3) := by decide +kernel
theorem dX11_at_27 : decode cX11_at 27 = .ok (.iconst 1, 1) := by decide +kernel
theorem dX11_at_28 : decode cX11_at 28 = .ok (.invokevirtual 111, 3) := by decide +kernel
theorem dX11_at_31 : decode cX11_at 31 = .ok (.ireturn, 1) := by decide +kernel
theorem dX11_at_32 : decode cX11_at 32 = .ok (.aload_n 3, 1) := by decide +kernel
theorem dX11_at_33 : decode cX11_at 33 = .ok (.iload_n 2, 1) := by decide +kernel
theorem dX11_at_34 : decode cX11_at 34 = .ok (.invokevirtual 123, 3) := by decide +kernel
theorem dX11_at_37 : decode cX11_at 37 = .ok (.ifCond .ne 12, 3) := by decide +kernel
theorem dX11_at_40 : decode cX11_at 40 = .ok (.aload_n 0, 1) := by decide +kernel
theorem dX11_at_41 : decode cX11_at 41 = .ok (.getfield 12, 3) := by decide +kernel
theorem dX11_at_44 : decode cX11_at 44 = .ok (.iconst 2, 1) := by decide +kernel
theorem dX11_at_45 : decode cX11_at 45 = .ok (.invokevirtual 111, 3) := by decide +kernel
theorem dX11_at_48 : decode cX11_at 48 = .ok (.ireturn, 1) := by decide +kernel
theorem dX11_at_49 : decode cX11_at 49 = .ok (.aload_n 0, 1) := by decide +kernel
theorem dX11_at_50 : decode cX11_at 50 = .ok (.getfield 12, 3) := by decide +kernel
theorem dX11_at_53 : decode cX11_at 53 = .ok (.aload_n 3, 1) := by decide +kernel
theorem dX11_at_54 : decode cX11_at 54 = .ok (.iload_n 2, 1) := by decide +kernel
theorem dX11_at_55 : decode cX11_at 55 = .ok (.invokevirtual 126, 3) := by decide +kernel
theorem dX11_at_58 : decode cX11_at 58 = .ok (.invokevirtual 132, 3) := by decide +kernel
theorem dX11_at_61 : decode cX11_at 61 = .ok (.ireturn, 1) := by decide +kernel
theorem dX11_text_0 : decode cX11_text 0 = .ok (.iload_n 1, 1) := by decide +kernel
theorem dX11_text_1 : decode cX11_text 1 = .ok (.invokestatic 153, 3) := by decide +kernel
theorem dX11_text_4 : decode cX11_text 4 = .ok (.ifCond .eq 9, 3) := by decide +kernel
theorem dX11_text_7 : decode cX11_text 7 = .ok (.iload_n 2, 1) := by decide +kernel
theorem dX11_text_8 : decode cX11_text 8 = .ok (.bipush 80, 2) := by decide +kernel
theorem dX11_text_10 : decode cX11_text 10 = .ok (.if_icmp .le 5, 3) := by decide +kernel
theorem dX11_text_13 : decode cX11_text 13 = .ok (.iconst (-1), 1) := by decide +kernel
theorem dX11_text_14 : decode cX11_text 14 = .ok (.ireturn, 1) := by decide +kernel
theorem dX11_text_15 : decode cX11_text 15 = .ok (.iload_n 2, 1) := by decide +kernel
theorem dX11_text_16 : decode cX11_text 16 = .ok (.ifCond .ge 12, 3) := by decide +kernel
theorem dX11_text_19 : decode cX11_text 19 = .ok (.aload_n 0, 1) := by decide +kernel
theorem dX11_text_20 : decode cX11_text 20 = .ok (.getfield 12, 3) := by decide +kernel
theorem dX11_text_23 : decode cX11_text 23 = .ok (.iconst 5, 1) := by decide +kernel
theorem dX11_text_24 : decode cX11_text 24 = .ok (.invokevirtual 111, 3) := by decide +kernel
theorem dX11_text_27 : decode cX11_text 27 = .ok (.ireturn, 1) := by decide +kernel
theorem dX11_text_28 : decode cX11_text 28 = .ok (.aload_n 0, 1) := by decide +kernel
theorem dX11_text_29 : decode cX11_text 29 = .ok (.getfield 25, 3) := by decide +kernel
theorem dX11_text_32 : decode cX11_text 32 = .ok (.iload_n 1, 1) := by decide +kernel
theorem dX11_text_33 : decode cX11_text 33 = .ok (.aaload, 1) := by decide +kernel
theorem dX11_text_34 : decode cX11_text 34 = .ok (.iload_n 2, 1) := by decide +kernel
theorem dX11_text_35 : decode cX11_text 35 = .ok (.bipush 32, 2) := by decide +kernel
theorem dX11_text_37 : decode cX11_text 37 = .ok (.invokevirtual 115, 3) := by decide +kernel
theorem dX11_text_40 : decode cX11_text 40 = .ok (.iload_n 2, 1) := by decide +kernel
theorem dX11_text_41 : decode cX11_text 41 = .ok (.ireturn, 1) := by decide +kernel
theorem dX11_put_0 : decode cX11_put 0 = .ok (.iload_n 1, 1) := by decide +kernel
theorem dX11_put_1 : decode cX11_put 1 = .ok (.invokestatic 153, 3) := by decide +kernel
theorem dX11_put_4 : decode cX11_put 4 = .ok (.ifCond .ne 5, 3) := by decide +kernel
theorem dX11_put_7 : decode cX11_put 7 = .ok (.iconst (-1), 1) := by decide +kernel
theorem dX11_put_8 : decode cX11_put 8 = .ok (.ireturn, 1) := by decide +kernel
theorem dX11_put_9 : decode cX11_put 9 = .ok (.aload_n 0, 1) := by decide +kernel
theorem dX11_put_10 : decode cX11_put 10 = .ok (.getfield 25, 3) := by decide +kernel
theorem dX11_put_13 : decode cX11_put 13 = .ok (.iload_n 1, 1) := by decide +kernel
theorem dX11_put_14 : decode cX11_put 14 = .ok (.aaload, 1) := by decide +kernel
theorem dX11_put_15 : decode cX11_put 15 = .ok (.astore 4, 2) := by decide +kernel
theorem dX11_put_17 : decode cX11_put 17 = .ok (.aload 4, 2) := by decide +kernel
theorem dX11_put_19 : decode cX11_put 19 = .ok (.invokevirtual 119, 3) := by decide +kernel
theorem dX11_put_22 : decode cX11_put 22 = .ok (.ifCond .ne 12, 3) := by decide +kernel
theorem dX11_put_25 : decode cX11_put 25 = .ok (.aload_n 0, 1) := by decide +kernel
theorem dX11_put_26 : decode cX11_put 26 = .ok (.getfield 12, 3) := by decide +kernel
theorem dX11_put_29 : decode cX11_put 29 = .ok (.iconst 1, 1) := by decide +kernel
theorem dX11_put_30 : decode cX11_put 30 = .ok (.invokevirtual 111, 3) := by decide +kernel
theorem dX11_put_33 : decode cX11_put 33 = .ok (.ireturn, 1) := by decide +kernel
theorem dX11_put_34 : decode cX11_put 34 = .ok (.aload 4, 2) := by decide +kernel
theorem dX11_put_36 : decode cX11_put 36 = .ok (.iload_n 2, 1) := by decide +kernel
theorem dX11_put_37 : decode cX11_put 37 = .ok (.invokevirtual 123, 3) := by decide +kernel
theorem dX11_put_40 : decode cX11_put 40 = .ok (.ifCond .ne 12, 3) := by decide +kernel
theorem dX11_put_43 : decode cX11_put 43 = .ok (.aload_n 0, 1) := by decide +kernel
theorem dX11_put_44 : decode cX11_put 44 = .ok (.getfield 12, 3) := by decide +kernel
theorem dX11_put_47 : decode cX11_put 47 = .ok (.iconst 2, 1) := by decide +kernel
theorem dX11_put_48 : decode cX11_put 48 = .ok (.invokevirtual 111, 3) := by decide +kernel
theorem dX11_put_51 : decode cX11_put 51 = .ok (.ireturn, 1) := by decide +kernel
theorem dX11_put_52 : decode cX11_put 52 = .ok (.aload 4, 2) := by decide +kernel
theorem dX11_put_54 : decode cX11_put 54 = .ok (.iload_n 2, 1) := by decide +kernel
theorem dX11_put_55 : decode cX11_put 55 = .ok (.invokevirtual 126, 3) := by decide +kernel
theorem dX11_put_58 : decode cX11_put 58 = .ok (.istore 5, 2) := by decide +kernel
theorem dX11_put_60 : decode cX11_put 60 = .ok (.aload 4, 2) := by decide +kernel
theorem dX11_put_62 : decode cX11_put 62 = .ok (.iload_n 2, 1) := by decide +kernel
theorem dX11_put_63 : decode cX11_put 63 = .ok (.iload_n 3, 1) := by decide +kernel
theorem dX11_put_64 : decode cX11_put 64 = .ok (.i2b, 1) := by decide +kernel
theorem dX11_put_65 : decode cX11_put 65 = .ok (.invokevirtual 129, 3) := by decide +kernel
theorem dX11_put_68 : decode cX11_put 68 = .ok (.iload 5, 2) := by decide +kernel
theorem dX11_put_70 : decode cX11_put 70 = .ok (.sipush 1000, 3) := by decide +kernel
theorem dX11_put_73 : decode cX11_put 73 = .ok (.iadd, 1) := by decide +kernel
theorem dX11_put_74 : decode cX11_put 74 = .ok (.ireturn, 1) := by decide +kernel
theorem dX11_fault_0 : decode cX11_fault 0 = .ok (.iload_n 1, 1) := by decide +kernel
theorem dX11_fault_1 : decode cX11_fault 1 = .ok (.invokestatic 153, 3) := by decide +kernel
theorem dX11_fault_4 : decode cX11_fault 4 = .ok (.ifCond .ne 5, 3) := by decide +kernel
theorem dX11_fault_7 : decode cX11_fault 7 = .ok (.iconst (-1), 1) := by decide +kernel
theorem dX11_fault_8 : decode cX11_fault 8 = .ok (.ireturn, 1) := by decide +kernel
theorem dX11_fault_9 : decode cX11_fault 9 = .ok (.aload_n 0, 1) := by decide +kernel
theorem dX11_fault_10 : decode cX11_fault 10 = .ok (.getfield 25, 3) := by decide +kernel
theorem dX11_fault_13 : decode cX11_fault 13 = .ok (.iload_n 1, 1) := by decide +kernel
theorem dX11_fault_14 : decode cX11_fault 14 = .ok (.aaload, 1) := by decide +kernel
theorem dX11_fault_15 : decode cX11_fault 15 = .ok (.invokevirtual 119, 3) := by decide +kernel
theorem dX11_fault_18 : decode cX11_fault 18 = .ok (.ifCond .ne 12, 3) := by decide +kernel
theorem dX11_fault_21 : decode cX11_fault 21 = .ok (.aload_n 0, 1) := by decide +kernel
theorem dX11_fault_22 : decode cX11_fault 22 = .ok (.getfield 12, 3) := by decide +kernel
theorem dX11_fault_25 : decode cX11_fault 25 = .ok (.iconst 1, 1) := by decide +kernel
theorem dX11_fault_26 : decode cX11_fault 26 = .ok (.invokevirtual 111, 3) := by decide +kernel
theorem dX11_fault_29 : decode cX11_fault 29 = .ok (.ireturn, 1) := by decide +kernel
theorem dX11_fault_30 : decode cX11_fault 30 = .ok (.aload_n 0, 1) := by decide +kernel
theorem dX11_fault_31 : decode cX11_fault 31 = .ok (.getfield 31, 3) := by decide +kernel
theorem dX11_fault_34 : decode cX11_fault 34 = .ok (.aload_n 0, 1) := by decide +kernel
theorem dX11_fault_35 : decode cX11_fault 35 = .ok (.getfield 25, 3) := by decide +kernel
theorem dX11_fault_38 : decode cX11_fault 38 = .ok (.iload_n 1, 1) := by decide +kernel
theorem dX11_fault_39 : decode cX11_fault 39 = .ok (.aaload, 1) := by decide +kernel
theorem dX11_fault_40 : decode cX11_fault 40 = .ok (.aload_n 0, 1) := by decide +kernel
theorem dX11_fault_41 : decode cX11_fault 41 = .ok (.getfield 42, 3) := by decide +kernel
theorem dX11_fault_44 : decode cX11_fault 44 = .ok (.invokevirtual 156, 3) := by decide +kernel
theorem dX11_fault_47 : decode cX11_fault 47 = .ok (.ireturn, 1) := by decide +kernel
theorem dX11_hands_0 : decode cX11_hands 0 = .ok (.iload_n 1, 1) := by decide +kernel
theorem dX11_hands_1 : decode cX11_hands 1 = .ok (.invokestatic 153, 3) := by decide +kernel
theorem dX11_hands_4 : decode cX11_hands 4 = .ok (.ifCond .ne 5, 3) := by decide +kernel
theorem dX11_hands_7 : decode cX11_hands 7 = .ok (.iconst (-1), 1) := by decide +kernel
theorem dX11_hands_8 : decode cX11_hands 8 = .ok (.ireturn, 1) := by decide +kernel
theorem dX11_hands_9 : decode cX11_hands 9 = .ok (.aload_n 0, 1) := by decide +kernel
theorem dX11_hands_10 : decode cX11_hands 10 = .ok (.getfield 25, 3) := by decide +kernel
theorem dX11_hands_13 : decode cX11_hands 13 = .ok (.iload_n 1, 1) := by decide +kernel
theorem dX11_hands_14 : decode cX11_hands 14 = .ok (.aaload, 1) := by decide +kernel
theorem dX11_hands_15 : decode cX11_hands 15 = .ok (.invokevirtual 119, 3) := by decide +kernel
theorem dX11_hands_18 : decode cX11_hands 18 = .ok (.ifCond .ne 12, 3) := by decide +kernel
theorem dX11_hands_21 : decode cX11_hands 21 = .ok (.aload_n 0, 1) := by decide +kernel
theorem dX11_hands_22 : decode cX11_hands 22 = .ok (.getfield 12, 3) := by decide +kernel
theorem dX11_hands_25 : decode cX11_hands 25 = .ok (.iconst 1, 1) := by decide +kernel
theorem dX11_hands_26 : decode cX11_hands 26 = .ok (.invokevirtual 111, 3) := by decide +kernel
theorem dX11_hands_29 : decode cX11_hands 29 = .ok (.ireturn, 1) := by decide +kernel
theorem dX11_hands_30 : decode cX11_hands 30 = .ok (.aload_n 0, 1) := by decide +kernel
theorem dX11_hands_31 : decode cX11_hands 31 = .ok (.getfield 31, 3) := by decide +kernel
theorem dX11_hands_34 : decode cX11_hands 34 = .ok (.aload_n 0, 1) := by decide +kernel
theorem dX11_hands_35 : decode cX11_hands 35 = .ok (.getfield 25, 3) := by decide +kernel
theorem dX11_hands_38 : decode cX11_hands 38 = .ok (.iload_n 1, 1) := by decide +kernel
theorem dX11_hands_39 : decode cX11_hands 39 = .ok (.aaload, 1) := by decide +kernel
theorem dX11_hands_40 : decode cX11_hands 40 = .ok (.aload_n 0, 1) := by decide +kernel
theorem dX11_hands_41 : decode cX11_hands 41 = .ok (.getfield 42, 3) := by decide +kernel
theorem dX11_hands_44 : decode cX11_hands 44 = .ok (.invokevirtual 156, 3) := by decide +kernel
theorem dX11_hands_47 : decode cX11_hands 47 = .ok (.bipush (-9), 2) := by decide +kernel
theorem dX11_hands_49 : decode cX11_hands 49 = .ok (.if_icmp .eq 6, 3) := by decide +kernel
theorem dX11_hands_52 : decode cX11_hands 52 = .ok (.bipush (-4), 2) := by decide +kernel
theorem dX11_hands_54 : decode cX11_hands 54 = .ok (.ireturn, 1) := by decide +kernel
theorem dX11_hands_55 : decode cX11_hands 55 = .ok (.aload_n 0, 1) := by decide +kernel
theorem dX11_hands_56 : decode cX11_hands 56 = .ok (.getfield 31, 3) := by decide +kernel
theorem dX11_hands_59 : decode cX11_hands 59 = .ok (.aload_n 0, 1) := by decide +kernel
theorem dX11_hands_60 : decode cX11_hands 60 = .ok (.getfield 25, 3) := by decide +kernel
theorem dX11_hands_63 : decode cX11_hands 63 = .ok (.iload_n 1, 1) := by decide +kernel
theorem dX11_hands_64 : decode cX11_hands 64 = .ok (.aaload, 1) := by decide +kernel
theorem dX11_hands_65 : decode cX11_hands 65 = .ok (.aload_n 0, 1) := by decide +kernel
theorem dX11_hands_66 : decode cX11_hands 66 = .ok (.getfield 38, 3) := by decide +kernel
theorem dX11_hands_69 : decode cX11_hands 69 = .ok (.invokevirtual 156, 3) := by decide +kernel
theorem dX11_hands_72 : decode cX11_hands 72 = .ok (.pop, 1) := by decide +kernel
theorem dX11_hands_73 : decode cX11_hands 73 = .ok (.aload_n 0, 1) := by decide +kernel
theorem dX11_hands_74 : decode cX11_hands 74 = .ok (.iconst 0, 1) := by decide +kernel
theorem dX11_hands_75 : decode cX11_hands 75 = .ok (.invokevirtual 160, 3) := by decide +kernel
theorem dX11_hands_78 : decode cX11_hands 78 = .ok (.aload_n 0, 1) := by decide +kernel
theorem dX11_hands_79 : decode cX11_hands 79 = .ok (.getfield 83, 3) := by decide +kernel
theorem dX11_hands_82 : decode cX11_hands 82 = .ok (.aload_n 0, 1) := by decide +kernel
theorem dX11_hands_83 : decode cX11_hands 83 = .ok (.getfield 38, 3) := by decide +kernel
theorem dX11_hands_86 : decode cX11_hands 86 = .ok (.invokevirtual 163, 3) := by decide +kernel
theorem dX11_hands_89 : decode cX11_hands 89 = .ok (.aload_n 0, 1) := by decide +kernel
theorem dX11_hands_90 : decode cX11_hands 90 = .ok (.getfield 38, 3) := by decide +kernel
theorem dX11_hands_93 : decode cX11_hands 93 = .ok (.getfield 167, 3) := by decide +kernel
theorem dX11_hands_96 : decode cX11_hands 96 = .ok (.ireturn, 1) := by decide +kernel
theorem dX11_strain_0 : decode cX11_strain 0 = .ok (.iload_n 1, 1) := by decide +kernel
theorem dX11_strain_1 : decode cX11_strain 1 = .ok (.ifCond .lt 9, 3) := by decide +kernel
theorem dX11_strain_4 : decode cX11_strain 4 = .ok (.iload_n 1, 1) := by decide +kernel
theorem dX11_strain_5 : decode cX11_strain 5 = .ok (.bipush 99, 2) := by decide +kernel
theorem dX11_strain_7 : decode cX11_strain 7 = .ok (.if_icmp .le 5, 3) := by decide +kernel
theorem dX11_strain_10 : decode cX11_strain 10 = .ok (.iconst (-1), 1) := by decide +kernel
theorem dX11_strain_11 : decode cX11_strain 11 = .ok (.ireturn, 1) := by decide +kernel
theorem dX11_strain_12 : decode cX11_strain 12 = .ok (.aload_n 0, 1) := by decide +kernel
theorem dX11_strain_13 : decode cX11_strain 13 = .ok (.getfield 55, 3) := by decide +kernel
theorem dX11_strain_16 : decode cX11_strain 16 = .ok (.istore_n 2, 1) := by decide +kernel
theorem dX11_strain_17 : decode cX11_strain 17 = .ok (.aload_n 0, 1) := by decide +kernel
theorem dX11_strain_18 : decode cX11_strain 18 = .ok (.iload_n 1, 1) := by decide +kernel
theorem dX11_strain_19 : decode cX11_strain 19 = .ok (.putfield 55, 3) := by decide +kernel
theorem dX11_strain_22 : decode cX11_strain 22 = .ok (.iload_n 2, 1) := by decide +kernel
theorem dX11_strain_23 : decode cX11_strain 23 = .ok (.ireturn, 1) := by decide +kernel
theorem dX11_pose_0 : decode cX11_pose 0 = .ok (.iload_n 1, 1) := by decide +kernel
theorem dX11_pose_1 : decode cX11_pose 1 = .ok (.invokestatic 107, 3) := by decide +kernel
theorem dX11_pose_4 : decode cX11_pose 4 = .ok (.ifCond .eq 17, 3) := by decide +kernel
theorem dX11_pose_7 : decode cX11_pose 7 = .ok (.iload_n 2, 1) := by decide +kernel
theorem dX11_pose_8 : decode cX11_pose 8 = .ok (.bipush (-9), 2) := by decide +kernel
theorem dX11_pose_10 : decode cX11_pose 10 = .ok (.if_icmp .eq 13, 3) := by decide +kernel
theorem dX11_pose_13 : decode cX11_pose 13 = .ok (.aload_n 0, 1) := by decide +kernel
theorem dX11_pose_14 : decode cX11_pose 14 = .ok (.iload_n 2, 1) := by decide +kernel
theorem dX11_pose_15 : decode cX11_pose 15 = .ok (.invokevirtual 186, 3) := by decide +kernel
theorem dX11_pose_18 : decode cX11_pose 18 = .ok (.ifCond .ne 5, 3) := by decide +kernel
theorem dX11_pose_21 : decode cX11_pose 21 = .ok (.iconst (-1), 1) := by decide +kernel
theorem dX11_pose_22 : decode cX11_pose 22 = .ok (.ireturn, 1) := by decide +kernel
theorem dX11_pose_23 : decode cX11_pose 23 = .ok (.aload_n 0, 1) := by decide +kernel
theorem dX11_pose_24 : decode cX11_pose 24 = .ok (.getfield 18, 3) := by decide +kernel
theorem dX11_pose_27 : decode cX11_pose 27 = .ok (.iload_n 1, 1) := by decide +kernel
theorem dX11_pose_28 : decode cX11_pose 28 = .ok (.aaload, 1) := by decide +kernel
theorem dX11_pose_29 : decode cX11_pose 29 = .ok (.astore_n 3, 1) := by decide +kernel
theorem dX11_pose_30 : decode cX11_pose 30 = .ok (.aload_n 3, 1) := by decide +kernel
theorem dX11_pose_31 : decode cX11_pose 31 = .ok (.invokevirtual 119, 3) := by decide +kernel
theorem dX11_pose_34 : decode cX11_pose 34 = .ok (.ifCond .ne 12, 3) := by decide +kernel
theorem dX11_pose_37 : decode cX11_pose 37 = .ok (.aload_n 0, 1) := by decide +kernel
theorem dX11_pose_38 : decode cX11_pose 38 = .ok (.getfield 12, 3) := by decide +kernel
theorem dX11_pose_41 : decode cX11_pose 41 = .ok (.iconst 1, 1) := by decide +kernel
theorem dX11_pose_42 : decode cX11_pose 42 = .ok (.invokevirtual 111, 3) := by decide +kernel
theorem dX11_pose_45 : decode cX11_pose 45 = .ok (.ireturn, 1) := by decide +kernel
theorem dX11_pose_46 : decode cX11_pose 46 = .ok (.aload_n 3, 1) := by decide +kernel
theorem dX11_pose_47 : decode cX11_pose 47 = .ok (.getfield 146, 3) := by decide +kernel
theorem dX11_pose_50 : decode cX11_pose 50 = .ok (.aload_n 0, 1) := by decide +kernel
theorem dX11_pose_51 : decode cX11_pose 51 = .ok (.getfield 38, 3) := by decide +kernel
theorem dX11_pose_54 : decode cX11_pose 54 = .ok (.getfield 167, 3) := by decide +kernel
theorem dX11_pose_57 : decode cX11_pose 57 = .ok (.if_icmp .eq 12, 3) := by decide +kernel
theorem dX11_pose_60 : decode cX11_pose 60 = .ok (.aload_n 0, 1) := by decide +kernel
theorem dX11_pose_61 : decode cX11_pose 61 = .ok (.getfield 12, 3) := by decide +kernel
theorem dX11_pose_64 : decode cX11_pose 64 = .ok (.iconst 5, 1) := by decide +kernel
theorem dX11_pose_65 : decode cX11_pose 65 = .ok (.invokevirtual 111, 3) := by decide +kernel
theorem dX11_pose_68 : decode cX11_pose 68 = .ok (.ireturn, 1) := by decide +kernel
theorem dX11_pose_69 : decode cX11_pose 69 = .ok (.aload_n 0, 1) := by decide +kernel
theorem dX11_pose_70 : decode cX11_pose 70 = .ok (.getfield 38, 3) := by decide +kernel
theorem dX11_pose_73 : decode cX11_pose 73 = .ok (.aload_n 3, 1) := by decide +kernel
theorem dX11_pose_74 : decode cX11_pose 74 = .ok (.invokevirtual 209, 3) := by decide +kernel
theorem dX11_pose_77 : decode cX11_pose 77 = .ok (.ifCond .ne 12, 3) := by decide +kernel
theorem dX11_pose_80 : decode cX11_pose 80 = .ok (.aload_n 0, 1) := by decide +kernel
theorem dX11_pose_81 : decode cX11_pose 81 = .ok (.getfield 12, 3) := by decide +kernel
theorem dX11_pose_84 : decode cX11_pose 84 = .ok (.iconst 3, 1) := by decide +kernel
theorem dX11_pose_85 : decode cX11_pose 85 = .ok (.invokevirtual 111, 3) := by decide +kernel
theorem dX11_pose_88 : decode cX11_pose 88 = .ok (.ireturn, 1) := by decide +kernel
theorem dX11_pose_89 : decode cX11_pose 89 = .ok (.iload_n 2, 1) := by decide +kernel
theorem dX11_pose_90 : decode cX11_pose 90 = .ok (.bipush (-9), 2) := by decide +kernel
theorem dX11_pose_92 : decode cX11_pose 92 = .ok (.if_icmp .eq 22, 3) := by decide +kernel
theorem dX11_pose_95 : decode cX11_pose 95 = .ok (.aload_n 3, 1) := by decide +kernel
theorem dX11_pose_96 : decode cX11_pose 96 = .ok (.iload_n 2, 1) := by decide +kernel
theorem dX11_pose_97 : decode cX11_pose 97 = .ok (.invokevirtual 126, 3) := by decide +kernel
theorem dX11_pose_100 : decode cX11_pose 100 = .ok (.aload_n 0, 1) := by decide +kernel
theorem dX11_pose_101 : decode cX11_pose 101 = .ok (.getfield 38, 3) := by decide +kernel
theorem dX11_pose_104 : decode cX11_pose 104 = .ok (.getfield 195, 3) := by decide +kernel
theorem dX11_pose_107 : decode cX11_pose 107 = .ok (.iload_n 2, 1) := by decide +kernel
theorem dX11_pose_108 : decode cX11_pose 108 = .ok (.iaload, 1) := by decide +kernel
theorem dX11_pose_109 : decode cX11_pose 109 = .ok (.if_icmp .lt 5, 3) := by decide +kernel
theorem dX11_pose_112 : decode cX11_pose 112 = .ok (.iconst (-1), 1) := by decide +kernel
theorem dX11_pose_113 : decode cX11_pose 113 = .ok (.ireturn, 1) := by decide +kernel
theorem dX11_pose_114 : decode cX11_pose 114 = .ok (.aload_n 0, 1) := by decide +kernel
theorem dX11_pose_115 : decode cX11_pose 115 = .ok (.getfield 213, 3) := by decide +kernel
theorem dX11_pose_118 : decode cX11_pose 118 = .ok (.bipush 12, 2) := by decide +kernel
theorem dX11_pose_120 : decode cX11_pose 120 = .ok (.if_icmp .lt 6, 3) := by decide +kernel
theorem dX11_pose_123 : decode cX11_pose 123 = .ok (.bipush (-2), 2) := by decide +kernel
theorem dX11_pose_125 : decode cX11_pose 125 = .ok (.ireturn, 1) := by decide +kernel
theorem dX11_pose_126 : decode cX11_pose 126 = .ok (.aload_n 0, 1) := by decide +kernel
theorem dX11_pose_127 : decode cX11_pose 127 = .ok (.getfield 61, 3) := by decide +kernel
theorem dX11_pose_130 : decode cX11_pose 130 = .ok (.aload_n 0, 1) := by decide +kernel
theorem dX11_pose_131 : decode cX11_pose 131 = .ok (.getfield 213, 3) := by decide +kernel
theorem dX11_pose_134 : decode cX11_pose 134 = .ok (.aaload, 1) := by decide +kernel
theorem dX11_pose_135 : decode cX11_pose 135 = .ok (.astore 4, 2) := by decide +kernel
theorem dX11_pose_137 : decode cX11_pose 137 = .ok (.aload 4, 2) := by decide +kernel
theorem dX11_pose_139 : decode cX11_pose 139 = .ok (.aload_n 3, 1) := by decide +kernel
theorem dX11_pose_140 : decode cX11_pose 140 = .ok (.iload_n 2, 1) := by decide +kernel
theorem dX11_pose_141 : decode cX11_pose 141 = .ok (.invokevirtual 216, 3) := by decide +kernel
theorem dX11_pose_144 : decode cX11_pose 144 = .ok (.aload 4, 2) := by decide +kernel
theorem dX11_pose_146 : decode cX11_pose 146 = .ok (.aload_n 0, 1) := by decide +kernel
theorem dX11_pose_147 : decode cX11_pose 147 = .ok (.getfield 38, 3) := by decide +kernel
theorem dX11_pose_150 : decode cX11_pose 150 = .ok (.aload_n 0, 1) := by decide +kernel
theorem dX11_pose_151 : decode cX11_pose 151 = .ok (.getfield 55, 3) := by decide +kernel
theorem dX11_pose_154 : decode cX11_pose 154 = .ok (.aload_n 0, 1) := by decide +kernel
theorem dX11_pose_155 : decode cX11_pose 155 = .ok (.getfield 97, 3) := by decide +kernel
theorem dX11_pose_158 : decode cX11_pose 158 = .ok (.invokevirtual 220, 3) := by decide +kernel
theorem dX11_pose_161 : decode cX11_pose 161 = .ok (.aload_n 0, 1) := by decide +kernel
theorem dX11_pose_162 : decode cX11_pose 162 = .ok (.getfield 12, 3) := by decide +kernel
theorem dX11_pose_165 : decode cX11_pose 165 = .ok (.aload 4, 2) := by decide +kernel
theorem dX11_pose_167 : decode cX11_pose 167 = .ok (.getfield 224, 3) := by decide +kernel
theorem dX11_pose_170 : decode cX11_pose 170 = .ok (.invokevirtual 132, 3) := by decide +kernel
theorem dX11_pose_173 : decode cX11_pose 173 = .ok (.pop, 1) := by decide +kernel
theorem dX11_pose_174 : decode cX11_pose 174 = .ok (.aload_n 0, 1) := by decide +kernel
theorem dX11_pose_175 : decode cX11_pose 175 = .ok (.dup, 1) := by decide +kernel
theorem dX11_pose_176 : decode cX11_pose 176 = .ok (.getfield 213, 3) := by decide +kernel
theorem dX11_pose_179 : decode cX11_pose 179 = .ok (.iconst 1, 1) := by decide +kernel
theorem dX11_pose_180 : decode cX11_pose 180 = .ok (.iadd, 1) := by decide +kernel
theorem dX11_pose_181 : decode cX11_pose 181 = .ok (.putfield 213, 3) := by decide +kernel
theorem dX11_pose_184 : decode cX11_pose 184 = .ok (.aload_n 0, 1) := by decide +kernel
theorem dX11_pose_185 : decode cX11_pose 185 = .ok (.getfield 213, 3) := by decide +kernel
theorem dX11_pose_188 : decode cX11_pose 188 = .ok (.iconst 1, 1) := by decide +kernel
theorem dX11_pose_189 : decode cX11_pose 189 = .ok (.isub, 1) := by decide +kernel
theorem dX11_pose_190 : decode cX11_pose 190 = .ok (.ireturn, 1) := by decide +kernel
theorem dX11_about_0 : decode cX11_about 0 = .ok (.aload_n 0, 1) := by decide +kernel
theorem dX11_about_1 : decode cX11_about 1 = .ok (.iload_n 1, 1) := by decide +kernel
theorem dX11_about_2 : decode cX11_about 2 = .ok (.invokevirtual 227, 3) := by decide +kernel
theorem dX11_about_5 : decode cX11_about 5 = .ok (.ifCond .ne 5, 3) := by decide +kernel
theorem dX11_about_8 : decode cX11_about 8 = .ok (.iconst (-1), 1) := by decide +kernel
theorem dX11_about_9 : decode cX11_about 9 = .ok (.ireturn, 1) := by decide +kernel
theorem dX11_about_10 : decode cX11_about 10 = .ok (.iload_n 2, 1) := by decide +kernel
theorem dX11_about_11 : decode cX11_about 11 = .ok (.tableswitch 76 0 2 #[25, 42, 59], 25) := by decide +kernel
theorem dX11_about_36 : decode cX11_about 36 = .ok (.aload_n 0, 1) := by decide +kernel
theorem dX11_about_37 : decode cX11_about 37 = .ok (.getfield 12, 3) := by decide +kernel
theorem dX11_about_40 : decode cX11_about 40 = .ok (.aload_n 0, 1) := by decide +kernel
theorem dX11_about_41 : decode cX11_about 41 = .ok (.getfield 61, 3) := by decide +kernel
theorem dX11_about_44 : decode cX11_about 44 = .ok (.iload_n 1, 1) := by decide +kernel
theorem dX11_about_45 : decode cX11_about 45 = .ok (.aaload, 1) := by decide +kernel
theorem dX11_about_46 : decode cX11_about 46 = .ok (.getfield 224, 3) := by decide +kernel
theorem dX11_about_49 : decode cX11_about 49 = .ok (.invokevirtual 132, 3) := by decide +kernel
theorem dX11_about_52 : decode cX11_about 52 = .ok (.ireturn, 1) := by decide +kernel
theorem dX11_about_53 : decode cX11_about 53 = .ok (.aload_n 0, 1) := by decide +kernel
theorem dX11_about_54 : decode cX11_about 54 = .ok (.getfield 12, 3) := by decide +kernel
theorem dX11_about_57 : decode cX11_about 57 = .ok (.aload_n 0, 1) := by decide +kernel
theorem dX11_about_58 : decode cX11_about 58 = .ok (.getfield 61, 3) := by decide +kernel
theorem dX11_about_61 : decode cX11_about 61 = .ok (.iload_n 1, 1) := by decide +kernel
theorem dX11_about_62 : decode cX11_about 62 = .ok (.aaload, 1) := by decide +kernel
theorem dX11_about_63 : decode cX11_about 63 = .ok (.getfield 250, 3) := by decide +kernel
theorem dX11_about_66 : decode cX11_about 66 = .ok (.invokevirtual 132, 3) := by decide +kernel
theorem dX11_about_69 : decode cX11_about 69 = .ok (.ireturn, 1) := by decide +kernel
theorem dX11_about_70 : decode cX11_about 70 = .ok (.aload_n 0, 1) := by decide +kernel
theorem dX11_about_71 : decode cX11_about 71 = .ok (.getfield 12, 3) := by decide +kernel
theorem dX11_about_74 : decode cX11_about 74 = .ok (.aload_n 0, 1) := by decide +kernel
theorem dX11_about_75 : decode cX11_about 75 = .ok (.getfield 61, 3) := by decide +kernel
theorem dX11_about_78 : decode cX11_about 78 = .ok (.iload_n 1, 1) := by decide +kernel
theorem dX11_about_79 : decode cX11_about 79 = .ok (.aaload, 1) := by decide +kernel
theorem dX11_about_80 : decode cX11_about 80 = .ok (.getfield 244, 3) := by decide +kernel
theorem dX11_about_83 : decode cX11_about 83 = .ok (.invokevirtual 132, 3) := by decide +kernel
theorem dX11_about_86 : decode cX11_about 86 = .ok (.ireturn, 1) := by decide +kernel
theorem dX11_about_87 : decode cX11_about 87 = .ok (.iconst (-1), 1) := by decide +kernel
theorem dX11_about_88 : decode cX11_about 88 = .ok (.ireturn, 1) := by decide +kernel
theorem dX11_shape_0 : decode cX11_shape 0 = .ok (.aload_n 0, 1) := by decide +kernel
theorem dX11_shape_1 : decode cX11_shape 1 = .ok (.iload_n 1, 1) := by decide +kernel
theorem dX11_shape_2 : decode cX11_shape 2 = .ok (.invokevirtual 227, 3) := by decide +kernel
theorem dX11_shape_5 : decode cX11_shape 5 = .ok (.ifCond .eq 10, 3) := by decide +kernel
theorem dX11_shape_8 : decode cX11_shape 8 = .ok (.iload_n 2, 1) := by decide +kernel
theorem dX11_shape_9 : decode cX11_shape 9 = .ok (.invokestatic 107, 3) := by decide +kernel
theorem dX11_shape_12 : decode cX11_shape 12 = .ok (.ifCond .ne 5, 3) := by decide +kernel
theorem dX11_shape_15 : decode cX11_shape 15 = .ok (.iconst (-1), 1) := by decide +kernel
theorem dX11_shape_16 : decode cX11_shape 16 = .ok (.ireturn, 1) := by decide +kernel
theorem dX11_shape_17 : decode cX11_shape 17 = .ok (.aload_n 0, 1) := by decide +kernel
theorem dX11_shape_18 : decode cX11_shape 18 = .ok (.getfield 18, 3) := by decide +kernel
theorem dX11_shape_21 : decode cX11_shape 21 = .ok (.iload_n 2, 1) := by decide +kernel
theorem dX11_shape_22 : decode cX11_shape 22 = .ok (.aaload, 1) := by decide +kernel
theorem dX11_shape_23 : decode cX11_shape 23 = .ok (.aload_n 0, 1) := by decide +kernel
theorem dX11_shape_24 : decode cX11_shape 24 = .ok (.getfield 61, 3) := by decide +kernel
theorem dX11_shape_27 : decode cX11_shape 27 = .ok (.iload_n 1, 1) := by decide +kernel
theorem dX11_shape_28 : decode cX11_shape 28 = .ok (.aaload, 1) := by decide +kernel
theorem dX11_shape_29 : decode cX11_shape 29 = .ok (.getfield 256, 3) := by decide +kernel
theorem dX11_shape_32 : decode cX11_shape 32 = .ok (.invokevirtual 265, 3) := by decide +kernel
theorem dX11_shape_35 : decode cX11_shape 35 = .ok (.aload_n 0, 1) := by decide +kernel
theorem dX11_shape_36 : decode cX11_shape 36 = .ok (.getfield 61, 3) := by decide +kernel
theorem dX11_shape_39 : decode cX11_shape 39 = .ok (.iload_n 1, 1) := by decide +kernel
theorem dX11_shape_40 : decode cX11_shape 40 = .ok (.aaload, 1) := by decide +kernel
theorem dX11_shape_41 : decode cX11_shape 41 = .ok (.getfield 256, 3) := by decide +kernel
theorem dX11_shape_44 : decode cX11_shape 44 = .ok (.invokevirtual 247, 3) := by decide +kernel
theorem dX11_shape_47 : decode cX11_shape 47 = .ok (.ireturn, 1) := by decide +kernel
theorem dX11_thrown_0 : decode cX11_thrown 0 = .ok (.aload_n 0, 1) := by decide +kernel
theorem dX11_thrown_1 : decode cX11_thrown 1 = .ok (.iload_n 1, 1) := by decide +kernel
theorem dX11_thrown_2 : decode cX11_thrown 2 = .ok (.invokevirtual 227, 3) := by decide +kernel
theorem dX11_thrown_5 : decode cX11_thrown 5 = .ok (.ifCond .eq 10, 3) := by decide +kernel
theorem dX11_thrown_8 : decode cX11_thrown 8 = .ok (.iload_n 2, 1) := by decide +kernel
theorem dX11_thrown_9 : decode cX11_thrown 9 = .ok (.invokestatic 107, 3) := by decide +kernel
theorem dX11_thrown_12 : decode cX11_thrown 12 = .ok (.ifCond .ne 5, 3) := by decide +kernel
theorem dX11_thrown_15 : decode cX11_thrown 15 = .ok (.iconst (-1), 1) := by decide +kernel
theorem dX11_thrown_16 : decode cX11_thrown 16 = .ok (.ireturn, 1) := by decide +kernel
theorem dX11_thrown_17 : decode cX11_thrown 17 = .ok (.aload_n 0, 1) := by decide +kernel
theorem dX11_thrown_18 : decode cX11_thrown 18 = .ok (.getfield 61, 3) := by decide +kernel
theorem dX11_thrown_21 : decode cX11_thrown 21 = .ok (.iload_n 1, 1) := by decide +kernel
theorem dX11_thrown_22 : decode cX11_thrown 22 = .ok (.aaload, 1) := by decide +kernel
theorem dX11_thrown_23 : decode cX11_thrown 23 = .ok (.aload_n 0, 1) := by decide +kernel
theorem dX11_thrown_24 : decode cX11_thrown 24 = .ok (.getfield 48, 3) := by decide +kernel
theorem dX11_thrown_27 : decode cX11_thrown 27 = .ok (.aload_n 0, 1) := by decide +kernel
theorem dX11_thrown_28 : decode cX11_thrown 28 = .ok (.getfield 97, 3) := by decide +kernel
theorem dX11_thrown_31 : decode cX11_thrown 31 = .ok (.invokevirtual 268, 3) := by decide +kernel
theorem dX11_thrown_34 : decode cX11_thrown 34 = .ok (.aload_n 0, 1) := by decide +kernel
theorem dX11_thrown_35 : decode cX11_thrown 35 = .ok (.getfield 18, 3) := by decide +kernel
theorem dX11_thrown_38 : decode cX11_thrown 38 = .ok (.iload_n 2, 1) := by decide +kernel
theorem dX11_thrown_39 : decode cX11_thrown 39 = .ok (.aaload, 1) := by decide +kernel
theorem dX11_thrown_40 : decode cX11_thrown 40 = .ok (.aload_n 0, 1) := by decide +kernel
theorem dX11_thrown_41 : decode cX11_thrown 41 = .ok (.getfield 97, 3) := by decide +kernel
theorem dX11_thrown_44 : decode cX11_thrown 44 = .ok (.invokevirtual 265, 3) := by decide +kernel
theorem dX11_thrown_47 : decode cX11_thrown 47 = .ok (.aload_n 0, 1) := by decide +kernel
theorem dX11_thrown_48 : decode cX11_thrown 48 = .ok (.getfield 97, 3) := by decide +kernel
theorem dX11_thrown_51 : decode cX11_thrown 51 = .ok (.invokevirtual 247, 3) := by decide +kernel
theorem dX11_thrown_54 : decode cX11_thrown 54 = .ok (.ireturn, 1) := by decide +kernel
theorem dX11_beast_0 : decode cX11_beast 0 = .ok (.iload_n 1, 1) := by decide +kernel
theorem dX11_beast_1 : decode cX11_beast 1 = .ok (.invokestatic 272, 3) := by decide +kernel
theorem dX11_beast_4 : decode cX11_beast 4 = .ok (.ifCond .eq 28, 3) := by decide +kernel
theorem dX11_beast_7 : decode cX11_beast 7 = .ok (.iload_n 2, 1) := by decide +kernel
theorem dX11_beast_8 : decode cX11_beast 8 = .ok (.invokestatic 107, 3) := by decide +kernel
theorem dX11_beast_11 : decode cX11_beast 11 = .ok (.ifCond .eq 21, 3) := by decide +kernel
theorem dX11_beast_14 : decode cX11_beast 14 = .ok (.iload_n 3, 1) := by decide +kernel
theorem dX11_beast_15 : decode cX11_beast 15 = .ok (.invokestatic 107, 3) := by decide +kernel
theorem dX11_beast_18 : decode cX11_beast 18 = .ok (.ifCond .eq 14, 3) := by decide +kernel
theorem dX11_beast_21 : decode cX11_beast 21 = .ok (.iload 4, 2) := by decide +kernel
theorem dX11_beast_23 : decode cX11_beast 23 = .ok (.ifCond .lt 9, 3) := by decide +kernel
theorem dX11_beast_26 : decode cX11_beast 26 = .ok (.iload 4, 2) := by decide +kernel
theorem dX11_beast_28 : decode cX11_beast 28 = .ok (.iconst 1, 1) := by decide +kernel
theorem dX11_beast_29 : decode cX11_beast 29 = .ok (.if_icmp .le 5, 3) := by decide +kernel
theorem dX11_beast_32 : decode cX11_beast 32 = .ok (.iconst (-1), 1) := by decide +kernel
theorem dX11_beast_33 : decode cX11_beast 33 = .ok (.ireturn, 1) := by decide +kernel
theorem dX11_beast_34 : decode cX11_beast 34 = .ok (.aload_n 0, 1) := by decide +kernel
theorem dX11_beast_35 : decode cX11_beast 35 = .ok (.getfield 18, 3) := by decide +kernel
theorem dX11_beast_38 : decode cX11_beast 38 = .ok (.iload_n 2, 1) := by decide +kernel
theorem dX11_beast_39 : decode cX11_beast 39 = .ok (.aaload, 1) := by decide +kernel
theorem dX11_beast_40 : decode cX11_beast 40 = .ok (.aload_n 0, 1) := by decide +kernel
theorem dX11_beast_41 : decode cX11_beast 41 = .ok (.getfield 18, 3) := by decide +kernel
theorem dX11_beast_44 : decode cX11_beast 44 = .ok (.iload_n 3, 1) := by decide +kernel
theorem dX11_beast_45 : decode cX11_beast 45 = .ok (.aaload, 1) := by decide +kernel
theorem dX11_beast_46 : decode cX11_beast 46 = .ok (.invokestatic 233, 3) := by decide +kernel
theorem dX11_beast_49 : decode cX11_beast 49 = .ok (.istore 5, 2) := by decide +kernel
theorem dX11_beast_51 : decode cX11_beast 51 = .ok (.iload 5, 2) := by decide +kernel
theorem dX11_beast_53 : decode cX11_beast 53 = .ok (.ifCond .eq 13, 3) := by decide +kernel
theorem dX11_beast_56 : decode cX11_beast 56 = .ok (.aload_n 0, 1) := by decide +kernel
theorem dX11_beast_57 : decode cX11_beast 57 = .ok (.getfield 12, 3) := by decide +kernel
theorem dX11_beast_60 : decode cX11_beast 60 = .ok (.iload 5, 2) := by decide +kernel
theorem dX11_beast_62 : decode cX11_beast 62 = .ok (.invokevirtual 111, 3) := by decide +kernel
theorem dX11_beast_65 : decode cX11_beast 65 = .ok (.ireturn, 1) := by decide +kernel
theorem dX11_beast_66 : decode cX11_beast 66 = .ok (.aload_n 0, 1) := by decide +kernel
theorem dX11_beast_67 : decode cX11_beast 67 = .ok (.getfield 18, 3) := by decide +kernel
theorem dX11_beast_70 : decode cX11_beast 70 = .ok (.iload_n 2, 1) := by decide +kernel
theorem dX11_beast_71 : decode cX11_beast 71 = .ok (.aaload, 1) := by decide +kernel
theorem dX11_beast_72 : decode cX11_beast 72 = .ok (.aload_n 0, 1) := by decide +kernel
theorem dX11_beast_73 : decode cX11_beast 73 = .ok (.getfield 68, 3) := by decide +kernel
theorem dX11_beast_76 : decode cX11_beast 76 = .ok (.iload_n 1, 1) := by decide +kernel
theorem dX11_beast_77 : decode cX11_beast 77 = .ok (.aaload, 1) := by decide +kernel
theorem dX11_beast_78 : decode cX11_beast 78 = .ok (.getfield 275, 3) := by decide +kernel
theorem dX11_beast_81 : decode cX11_beast 81 = .ok (.invokevirtual 240, 3) := by decide +kernel
theorem dX11_beast_84 : decode cX11_beast 84 = .ok (.aload_n 0, 1) := by decide +kernel
theorem dX11_beast_85 : decode cX11_beast 85 = .ok (.getfield 18, 3) := by decide +kernel
theorem dX11_beast_88 : decode cX11_beast 88 = .ok (.iload_n 3, 1) := by decide +kernel
theorem dX11_beast_89 : decode cX11_beast 89 = .ok (.aaload, 1) := by decide +kernel
theorem dX11_beast_90 : decode cX11_beast 90 = .ok (.aload_n 0, 1) := by decide +kernel
theorem dX11_beast_91 : decode cX11_beast 91 = .ok (.getfield 68, 3) := by decide +kernel
theorem dX11_beast_94 : decode cX11_beast 94 = .ok (.iload_n 1, 1) := by decide +kernel
theorem dX11_beast_95 : decode cX11_beast 95 = .ok (.aaload, 1) := by decide +kernel
theorem dX11_beast_96 : decode cX11_beast 96 = .ok (.getfield 278, 3) := by decide +kernel
theorem dX11_beast_99 : decode cX11_beast 99 = .ok (.invokevirtual 240, 3) := by decide +kernel
theorem dX11_beast_102 : decode cX11_beast 102 = .ok (.aload_n 0, 1) := by decide +kernel
theorem dX11_beast_103 : decode cX11_beast 103 = .ok (.getfield 68, 3) := by decide +kernel
theorem dX11_beast_106 : decode cX11_beast 106 = .ok (.iload_n 1, 1) := by decide +kernel
theorem dX11_beast_107 : decode cX11_beast 107 = .ok (.aaload, 1) := by decide +kernel
theorem dX11_beast_108 : decode cX11_beast 108 = .ok (.iload 4, 2) := by decide +kernel
theorem dX11_beast_110 : decode cX11_beast 110 = .ok (.putfield 281, 3) := by decide +kernel
theorem dX11_beast_113 : decode cX11_beast 113 = .ok (.aload_n 0, 1) := by decide +kernel
theorem dX11_beast_114 : decode cX11_beast 114 = .ok (.getfield 68, 3) := by decide +kernel
theorem dX11_beast_117 : decode cX11_beast 117 = .ok (.iload_n 1, 1) := by decide +kernel
theorem dX11_beast_118 : decode cX11_beast 118 = .ok (.aaload, 1) := by decide +kernel
theorem dX11_beast_119 : decode cX11_beast 119 = .ok (.iconst 1, 1) := by decide +kernel
theorem dX11_beast_120 : decode cX11_beast 120 = .ok (.putfield 284, 3) := by decide +kernel
theorem dX11_beast_123 : decode cX11_beast 123 = .ok (.aload_n 0, 1) := by decide +kernel
theorem dX11_beast_124 : decode cX11_beast 124 = .ok (.getfield 68, 3) := by decide +kernel
theorem dX11_beast_127 : decode cX11_beast 127 = .ok (.iload_n 1, 1) := by decide +kernel
theorem dX11_beast_128 : decode cX11_beast 128 = .ok (.aaload, 1) := by decide +kernel
theorem dX11_beast_129 : decode cX11_beast 129 = .ok (.getfield 275, 3) := by decide +kernel
theorem dX11_beast_132 : decode cX11_beast 132 = .ok (.invokevirtual 247, 3) := by decide +kernel
theorem dX11_beast_135 : decode cX11_beast 135 = .ok (.ireturn, 1) := by decide +kernel
theorem dX11_off_0 : decode cX11_off 0 = .ok (.aload_n 0, 1) := by decide +kernel
theorem dX11_off_1 : decode cX11_off 1 = .ok (.iload_n 1, 1) := by decide +kernel
theorem dX11_off_2 : decode cX11_off 2 = .ok (.invokevirtual 227, 3) := by decide +kernel
theorem dX11_off_5 : decode cX11_off 5 = .ok (.ifCond .eq 10, 3) := by decide +kernel
theorem dX11_off_8 : decode cX11_off 8 = .ok (.iload_n 2, 1) := by decide +kernel
theorem dX11_off_9 : decode cX11_off 9 = .ok (.invokestatic 272, 3) := by decide +kernel
theorem dX11_off_12 : decode cX11_off 12 = .ok (.ifCond .ne 5, 3) := by decide +kernel
theorem dX11_off_15 : decode cX11_off 15 = .ok (.iconst (-1), 1) := by decide +kernel
theorem dX11_off_16 : decode cX11_off 16 = .ok (.ireturn, 1) := by decide +kernel
theorem dX11_off_17 : decode cX11_off 17 = .ok (.aload_n 0, 1) := by decide +kernel
theorem dX11_off_18 : decode cX11_off 18 = .ok (.getfield 68, 3) := by decide +kernel
theorem dX11_off_21 : decode cX11_off 21 = .ok (.iload_n 2, 1) := by decide +kernel
theorem dX11_off_22 : decode cX11_off 22 = .ok (.aaload, 1) := by decide +kernel
theorem dX11_off_23 : decode cX11_off 23 = .ok (.getfield 284, 3) := by decide +kernel
theorem dX11_off_26 : decode cX11_off 26 = .ok (.ifCond .ne 12, 3) := by decide +kernel
theorem dX11_off_29 : decode cX11_off 29 = .ok (.aload_n 0, 1) := by decide +kernel
theorem dX11_off_30 : decode cX11_off 30 = .ok (.getfield 12, 3) := by decide +kernel
theorem dX11_off_33 : decode cX11_off 33 = .ok (.iconst 1, 1) := by decide +kernel
theorem dX11_off_34 : decode cX11_off 34 = .ok (.invokevirtual 111, 3) := by decide +kernel
theorem dX11_off_37 : decode cX11_off 37 = .ok (.ireturn, 1) := by decide +kernel
theorem dX11_off_38 : decode cX11_off 38 = .ok (.aload_n 0, 1) := by decide +kernel
theorem dX11_off_39 : decode cX11_off 39 = .ok (.getfield 61, 3) := by decide +kernel
theorem dX11_off_42 : decode cX11_off 42 = .ok (.iload_n 1, 1) := by decide +kernel
theorem dX11_off_43 : decode cX11_off 43 = .ok (.aaload, 1) := by decide +kernel

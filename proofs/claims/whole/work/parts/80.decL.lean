theorem dL_object_0 : decode cL_object 0 = .ok (.aload_n 2, 1) := by decide +kernel
theorem dL_object_1 : decode cL_object 1 = .ok (.iconst 0, 1) := by decide +kernel
theorem dL_object_2 : decode cL_object 2 = .ok (.aload_n 0, 1) := by decide +kernel
theorem dL_object_3 : decode cL_object 3 = .ok (.iload_n 1, 1) := by decide +kernel
theorem dL_object_4 : decode cL_object 4 = .ok (.invokevirtual 7, 3) := by decide +kernel
theorem dL_object_7 : decode cL_object 7 = .ok (.i2l, 1) := by decide +kernel
theorem dL_object_8 : decode cL_object 8 = .ok (.lastore, 1) := by decide +kernel
theorem dL_object_9 : decode cL_object 9 = .ok (.goto 6, 3) := by decide +kernel
theorem dL_object_12 : decode cL_object 12 = .ok (.astore_n 3, 1) := by decide +kernel
theorem dL_object_13 : decode cL_object 13 = .ok (.iconst 1, 1) := by decide +kernel
theorem dL_object_14 : decode cL_object 14 = .ok (.ireturn, 1) := by decide +kernel
theorem dL_object_15 : decode cL_object 15 = .ok (.iconst 0, 1) := by decide +kernel
theorem dL_object_16 : decode cL_object 16 = .ok (.ireturn, 1) := by decide +kernel
theorem dL_set_0 : decode cL_set 0 = .ok (.aload 6, 2) := by decide +kernel
theorem dL_set_2 : decode cL_set 2 = .ok (.iconst 0, 1) := by decide +kernel
theorem dL_set_3 : decode cL_set 3 = .ok (.aload_n 0, 1) := by decide +kernel
theorem dL_set_4 : decode cL_set 4 = .ok (.iload_n 1, 1) := by decide +kernel
theorem dL_set_5 : decode cL_set 5 = .ok (.iload_n 2, 1) := by decide +kernel
theorem dL_set_6 : decode cL_set 6 = .ok (.iload_n 3, 1) := by decide +kernel
theorem dL_set_7 : decode cL_set 7 = .ok (.lload 4, 2) := by decide +kernel
theorem dL_set_9 : decode cL_set 9 = .ok (.invokevirtual 15, 3) := by decide +kernel
theorem dL_set_12 : decode cL_set 12 = .ok (.ifCond .eq 7, 3) := by decide +kernel
theorem dL_set_15 : decode cL_set 15 = .ok (.lconst 1, 1) := by decide +kernel
theorem dL_set_16 : decode cL_set 16 = .ok (.goto 4, 3) := by decide +kernel
theorem dL_set_19 : decode cL_set 19 = .ok (.lconst 0, 1) := by decide +kernel
theorem dL_set_20 : decode cL_set 20 = .ok (.lastore, 1) := by decide +kernel
theorem dL_set_21 : decode cL_set 21 = .ok (.goto 11, 3) := by decide +kernel
theorem dL_set_24 : decode cL_set 24 = .ok (.astore 7, 2) := by decide +kernel
theorem dL_set_26 : decode cL_set 26 = .ok (.iconst 1, 1) := by decide +kernel
theorem dL_set_27 : decode cL_set 27 = .ok (.ireturn, 1) := by decide +kernel
theorem dL_set_28 : decode cL_set 28 = .ok (.astore 7, 2) := by decide +kernel
theorem dL_set_30 : decode cL_set 30 = .ok (.iconst 2, 1) := by decide +kernel
theorem dL_set_31 : decode cL_set 31 = .ok (.ireturn, 1) := by decide +kernel
theorem dL_set_32 : decode cL_set 32 = .ok (.iconst 0, 1) := by decide +kernel
theorem dL_set_33 : decode cL_set 33 = .ok (.ireturn, 1) := by decide +kernel
theorem dL_drop_0 : decode cL_drop 0 = .ok (.aload_n 3, 1) := by decide +kernel
theorem dL_drop_1 : decode cL_drop 1 = .ok (.iconst 0, 1) := by decide +kernel
theorem dL_drop_2 : decode cL_drop 2 = .ok (.aload_n 0, 1) := by decide +kernel
theorem dL_drop_3 : decode cL_drop 3 = .ok (.iload_n 1, 1) := by decide +kernel
theorem dL_drop_4 : decode cL_drop 4 = .ok (.iload_n 2, 1) := by decide +kernel
theorem dL_drop_5 : decode cL_drop 5 = .ok (.invokevirtual 23, 3) := by decide +kernel
theorem dL_drop_8 : decode cL_drop 8 = .ok (.ifCond .eq 7, 3) := by decide +kernel
theorem dL_drop_11 : decode cL_drop 11 = .ok (.lconst 1, 1) := by decide +kernel
theorem dL_drop_12 : decode cL_drop 12 = .ok (.goto 4, 3) := by decide +kernel
theorem dL_drop_15 : decode cL_drop 15 = .ok (.lconst 0, 1) := by decide +kernel
theorem dL_drop_16 : decode cL_drop 16 = .ok (.lastore, 1) := by decide +kernel
theorem dL_drop_17 : decode cL_drop 17 = .ok (.goto 11, 3) := by decide +kernel
theorem dL_drop_20 : decode cL_drop 20 = .ok (.astore 4, 2) := by decide +kernel
theorem dL_drop_22 : decode cL_drop 22 = .ok (.iconst 1, 1) := by decide +kernel
theorem dL_drop_23 : decode cL_drop 23 = .ok (.ireturn, 1) := by decide +kernel
theorem dL_drop_24 : decode cL_drop 24 = .ok (.astore 4, 2) := by decide +kernel
theorem dL_drop_26 : decode cL_drop 26 = .ok (.iconst 2, 1) := by decide +kernel
theorem dL_drop_27 : decode cL_drop 27 = .ok (.ireturn, 1) := by decide +kernel
theorem dL_drop_28 : decode cL_drop 28 = .ok (.iconst 0, 1) := by decide +kernel
theorem dL_drop_29 : decode cL_drop 29 = .ok (.ireturn, 1) := by decide +kernel
theorem dL_make_0 : decode cL_make 0 = .ok (.aload_n 3, 1) := by decide +kernel
theorem dL_make_1 : decode cL_make 1 = .ok (.iconst 0, 1) := by decide +kernel
theorem dL_make_2 : decode cL_make 2 = .ok (.aload_n 0, 1) := by decide +kernel
theorem dL_make_3 : decode cL_make 3 = .ok (.iload_n 1, 1) := by decide +kernel
theorem dL_make_4 : decode cL_make 4 = .ok (.iload_n 2, 1) := by decide +kernel
theorem dL_make_5 : decode cL_make 5 = .ok (.invokevirtual 27, 3) := by decide +kernel
theorem dL_make_8 : decode cL_make 8 = .ok (.i2l, 1) := by decide +kernel
theorem dL_make_9 : decode cL_make 9 = .ok (.lastore, 1) := by decide +kernel
theorem dL_make_10 : decode cL_make 10 = .ok (.goto 15, 3) := by decide +kernel
theorem dL_make_13 : decode cL_make 13 = .ok (.astore 4, 2) := by decide +kernel
theorem dL_make_15 : decode cL_make 15 = .ok (.iconst 1, 1) := by decide +kernel
theorem dL_make_16 : decode cL_make 16 = .ok (.ireturn, 1) := by decide +kernel
theorem dL_make_17 : decode cL_make 17 = .ok (.astore 4, 2) := by decide +kernel
theorem dL_make_19 : decode cL_make 19 = .ok (.iconst 2, 1) := by decide +kernel
theorem dL_make_20 : decode cL_make 20 = .ok (.ireturn, 1) := by decide +kernel
theorem dL_make_21 : decode cL_make 21 = .ok (.astore 4, 2) := by decide +kernel
theorem dL_make_23 : decode cL_make 23 = .ok (.iconst 3, 1) := by decide +kernel
theorem dL_make_24 : decode cL_make 24 = .ok (.ireturn, 1) := by decide +kernel
theorem dL_make_25 : decode cL_make 25 = .ok (.iconst 0, 1) := by decide +kernel
theorem dL_make_26 : decode cL_make 26 = .ok (.ireturn, 1) := by decide +kernel
theorem dL_join_0 : decode cL_join 0 = .ok (.aload_n 2, 1) := by decide +kernel
theorem dL_join_1 : decode cL_join 1 = .ok (.iconst 0, 1) := by decide +kernel
theorem dL_join_2 : decode cL_join 2 = .ok (.aload_n 0, 1) := by decide +kernel
theorem dL_join_3 : decode cL_join 3 = .ok (.iload_n 1, 1) := by decide +kernel
theorem dL_join_4 : decode cL_join 4 = .ok (.invokevirtual 31, 3) := by decide +kernel
theorem dL_join_7 : decode cL_join 7 = .ok (.i2l, 1) := by decide +kernel
theorem dL_join_8 : decode cL_join 8 = .ok (.lastore, 1) := by decide +kernel
theorem dL_join_9 : decode cL_join 9 = .ok (.goto 9, 3) := by decide +kernel
theorem dL_join_12 : decode cL_join 12 = .ok (.astore_n 3, 1) := by decide +kernel
theorem dL_join_13 : decode cL_join 13 = .ok (.iconst 1, 1) := by decide +kernel
theorem dL_join_14 : decode cL_join 14 = .ok (.ireturn, 1) := by decide +kernel
theorem dL_join_15 : decode cL_join 15 = .ok (.astore_n 3, 1) := by decide +kernel
theorem dL_join_16 : decode cL_join 16 = .ok (.iconst 2, 1) := by decide +kernel
theorem dL_join_17 : decode cL_join 17 = .ok (.ireturn, 1) := by decide +kernel
theorem dL_join_18 : decode cL_join 18 = .ok (.iconst 0, 1) := by decide +kernel
theorem dL_join_19 : decode cL_join 19 = .ok (.ireturn, 1) := by decide +kernel
theorem dL_conflict_0 : decode cL_conflict 0 = .ok (.aload_n 3, 1) := by decide +kernel
theorem dL_conflict_1 : decode cL_conflict 1 = .ok (.iconst 0, 1) := by decide +kernel
theorem dL_conflict_2 : decode cL_conflict 2 = .ok (.aload_n 0, 1) := by decide +kernel
theorem dL_conflict_3 : decode cL_conflict 3 = .ok (.iload_n 1, 1) := by decide +kernel
theorem dL_conflict_4 : decode cL_conflict 4 = .ok (.iload_n 2, 1) := by decide +kernel
theorem dL_conflict_5 : decode cL_conflict 5 = .ok (.invokevirtual 34, 3) := by decide +kernel
theorem dL_conflict_8 : decode cL_conflict 8 = .ok (.i2l, 1) := by decide +kernel
theorem dL_conflict_9 : decode cL_conflict 9 = .ok (.lastore, 1) := by decide +kernel
theorem dL_conflict_10 : decode cL_conflict 10 = .ok (.goto 7, 3) := by decide +kernel
theorem dL_conflict_13 : decode cL_conflict 13 = .ok (.astore 4, 2) := by decide +kernel
theorem dL_conflict_15 : decode cL_conflict 15 = .ok (.iconst 1, 1) := by decide +kernel
theorem dL_conflict_16 : decode cL_conflict 16 = .ok (.ireturn, 1) := by decide +kernel
theorem dL_conflict_17 : decode cL_conflict 17 = .ok (.iconst 0, 1) := by decide +kernel
theorem dL_conflict_18 : decode cL_conflict 18 = .ok (.ireturn, 1) := by decide +kernel
theorem dL_settle_0 : decode cL_settle 0 = .ok (.aload_n 3, 1) := by decide +kernel
theorem dL_settle_1 : decode cL_settle 1 = .ok (.iconst 0, 1) := by decide +kernel
theorem dL_settle_2 : decode cL_settle 2 = .ok (.aload_n 0, 1) := by decide +kernel
theorem dL_settle_3 : decode cL_settle 3 = .ok (.iload_n 1, 1) := by decide +kernel
theorem dL_settle_4 : decode cL_settle 4 = .ok (.iload_n 2, 1) := by decide +kernel
theorem dL_settle_5 : decode cL_settle 5 = .ok (.invokevirtual 37, 3) := by decide +kernel
theorem dL_settle_8 : decode cL_settle 8 = .ok (.ifCond .eq 7, 3) := by decide +kernel
theorem dL_settle_11 : decode cL_settle 11 = .ok (.lconst 1, 1) := by decide +kernel
theorem dL_settle_12 : decode cL_settle 12 = .ok (.goto 4, 3) := by decide +kernel
theorem dL_settle_15 : decode cL_settle 15 = .ok (.lconst 0, 1) := by decide +kernel
theorem dL_settle_16 : decode cL_settle 16 = .ok (.lastore, 1) := by decide +kernel
theorem dL_settle_17 : decode cL_settle 17 = .ok (.goto 15, 3) := by decide +kernel
theorem dL_settle_20 : decode cL_settle 20 = .ok (.astore 4, 2) := by decide +kernel
theorem dL_settle_22 : decode cL_settle 22 = .ok (.iconst 1, 1) := by decide +kernel
theorem dL_settle_23 : decode cL_settle 23 = .ok (.ireturn, 1) := by decide +kernel
theorem dL_settle_24 : decode cL_settle 24 = .ok (.astore 4, 2) := by decide +kernel
theorem dL_settle_26 : decode cL_settle 26 = .ok (.iconst 2, 1) := by decide +kernel
theorem dL_settle_27 : decode cL_settle 27 = .ok (.ireturn, 1) := by decide +kernel
theorem dL_settle_28 : decode cL_settle 28 = .ok (.astore 4, 2) := by decide +kernel
theorem dL_settle_30 : decode cL_settle 30 = .ok (.iconst 3, 1) := by decide +kernel
theorem dL_settle_31 : decode cL_settle 31 = .ok (.ireturn, 1) := by decide +kernel
theorem dL_settle_32 : decode cL_settle 32 = .ok (.iconst 0, 1) := by decide +kernel
theorem dL_settle_33 : decode cL_settle 33 = .ok (.ireturn, 1) := by decide +kernel
theorem dL_at_0 : decode cL_at 0 = .ok (.aload_n 3, 1) := by decide +kernel
theorem dL_at_1 : decode cL_at 1 = .ok (.iconst 0, 1) := by decide +kernel
theorem dL_at_2 : decode cL_at 2 = .ok (.aload_n 0, 1) := by decide +kernel
theorem dL_at_3 : decode cL_at 3 = .ok (.iload_n 1, 1) := by decide +kernel
theorem dL_at_4 : decode cL_at 4 = .ok (.iload_n 2, 1) := by decide +kernel
theorem dL_at_5 : decode cL_at 5 = .ok (.invokevirtual 40, 3) := by decide +kernel
theorem dL_at_8 : decode cL_at 8 = .ok (.lastore, 1) := by decide +kernel
theorem dL_at_9 : decode cL_at 9 = .ok (.goto 11, 3) := by decide +kernel
theorem dL_at_12 : decode cL_at 12 = .ok (.astore 4, 2) := by decide +kernel
theorem dL_at_14 : decode cL_at 14 = .ok (.iconst 1, 1) := by decide +kernel
theorem dL_at_15 : decode cL_at 15 = .ok (.ireturn, 1) := by decide +kernel
theorem dL_at_16 : decode cL_at 16 = .ok (.astore 4, 2) := by decide +kernel
theorem dL_at_18 : decode cL_at 18 = .ok (.iconst 2, 1) := by decide +kernel
theorem dL_at_19 : decode cL_at 19 = .ok (.ireturn, 1) := by decide +kernel
theorem dL_at_20 : decode cL_at 20 = .ok (.iconst 0, 1) := by decide +kernel
theorem dL_at_21 : decode cL_at 21 = .ok (.ireturn, 1) := by decide +kernel
theorem dL_lock_0 : decode cL_lock 0 = .ok (.aload 10, 2) := by decide +kernel
theorem dL_lock_2 : decode cL_lock 2 = .ok (.iconst 0, 1) := by decide +kernel
theorem dL_lock_3 : decode cL_lock 3 = .ok (.aload_n 0, 1) := by decide +kernel
theorem dL_lock_4 : decode cL_lock 4 = .ok (.iload_n 1, 1) := by decide +kernel
theorem dL_lock_5 : decode cL_lock 5 = .ok (.lload_n 2, 1) := by decide +kernel
theorem dL_lock_6 : decode cL_lock 6 = .ok (.lload 4, 2) := by decide +kernel
theorem dL_lock_8 : decode cL_lock 8 = .ok (.lload 6, 2) := by decide +kernel
theorem dL_lock_10 : decode cL_lock 10 = .ok (.lload 8, 2) := by decide +kernel
theorem dL_lock_12 : decode cL_lock 12 = .ok (.invokevirtual 44, 3) := by decide +kernel
theorem dL_lock_15 : decode cL_lock 15 = .ok (.ifCond .eq 7, 3) := by decide +kernel
theorem dL_lock_18 : decode cL_lock 18 = .ok (.lconst 1, 1) := by decide +kernel
theorem dL_lock_19 : decode cL_lock 19 = .ok (.goto 4, 3) := by decide +kernel
theorem dL_lock_22 : decode cL_lock 22 = .ok (.lconst 0, 1) := by decide +kernel
theorem dL_lock_23 : decode cL_lock 23 = .ok (.lastore, 1) := by decide +kernel
theorem dL_lock_24 : decode cL_lock 24 = .ok (.goto 11, 3) := by decide +kernel
theorem dL_lock_27 : decode cL_lock 27 = .ok (.astore 11, 2) := by decide +kernel
theorem dL_lock_29 : decode cL_lock 29 = .ok (.iconst 1, 1) := by decide +kernel
theorem dL_lock_30 : decode cL_lock 30 = .ok (.ireturn, 1) := by decide +kernel
theorem dL_lock_31 : decode cL_lock 31 = .ok (.astore 11, 2) := by decide +kernel
theorem dL_lock_33 : decode cL_lock 33 = .ok (.iconst 2, 1) := by decide +kernel
theorem dL_lock_34 : decode cL_lock 34 = .ok (.ireturn, 1) := by decide +kernel
theorem dL_lock_35 : decode cL_lock 35 = .ok (.iconst 0, 1) := by decide +kernel
theorem dL_lock_36 : decode cL_lock 36 = .ok (.ireturn, 1) := by decide +kernel
theorem dL_apart_0 : decode cL_apart 0 = .ok (.aload 5, 2) := by decide +kernel
theorem dL_apart_2 : decode cL_apart 2 = .ok (.iconst 0, 1) := by decide +kernel
theorem dL_apart_3 : decode cL_apart 3 = .ok (.aload_n 0, 1) := by decide +kernel
theorem dL_apart_4 : decode cL_apart 4 = .ok (.iload_n 1, 1) := by decide +kernel
theorem dL_apart_5 : decode cL_apart 5 = .ok (.iload_n 2, 1) := by decide +kernel
theorem dL_apart_6 : decode cL_apart 6 = .ok (.lload_n 3, 1) := by decide +kernel
theorem dL_apart_7 : decode cL_apart 7 = .ok (.invokevirtual 48, 3) := by decide +kernel
theorem dL_apart_10 : decode cL_apart 10 = .ok (.ifCond .eq 7, 3) := by decide +kernel
theorem dL_apart_13 : decode cL_apart 13 = .ok (.lconst 1, 1) := by decide +kernel
theorem dL_apart_14 : decode cL_apart 14 = .ok (.goto 4, 3) := by decide +kernel
theorem dL_apart_17 : decode cL_apart 17 = .ok (.lconst 0, 1) := by decide +kernel
theorem dL_apart_18 : decode cL_apart 18 = .ok (.lastore, 1) := by decide +kernel
theorem dL_apart_19 : decode cL_apart 19 = .ok (.goto 11, 3) := by decide +kernel
theorem dL_apart_22 : decode cL_apart 22 = .ok (.astore 6, 2) := by decide +kernel
theorem dL_apart_24 : decode cL_apart 24 = .ok (.iconst 1, 1) := by decide +kernel
theorem dL_apart_25 : decode cL_apart 25 = .ok (.ireturn, 1) := by decide +kernel
theorem dL_apart_26 : decode cL_apart 26 = .ok (.astore 6, 2) := by decide +kernel
theorem dL_apart_28 : decode cL_apart 28 = .ok (.iconst 2, 1) := by decide +kernel
theorem dL_apart_29 : decode cL_apart 29 = .ok (.ireturn, 1) := by decide +kernel
theorem dL_apart_30 : decode cL_apart 30 = .ok (.iconst 0, 1) := by decide +kernel
theorem dL_apart_31 : decode cL_apart 31 = .ok (.ireturn, 1) := by decide +kernel
theorem dL_violation_0 : decode cL_violation 0 = .ok (.aload_n 3, 1) := by decide +kernel
theorem dL_violation_1 : decode cL_violation 1 = .ok (.iconst 0, 1) := by decide +kernel
theorem dL_violation_2 : decode cL_violation 2 = .ok (.aload_n 0, 1) := by decide +kernel
theorem dL_violation_3 : decode cL_violation 3 = .ok (.iload_n 1, 1) := by decide +kernel
theorem dL_violation_4 : decode cL_violation 4 = .ok (.iload_n 2, 1) := by decide +kernel
theorem dL_violation_5 : decode cL_violation 5 = .ok (.invokevirtual 52, 3) := by decide +kernel
theorem dL_violation_8 : decode cL_violation 8 = .ok (.i2l, 1) := by decide +kernel
theorem dL_violation_9 : decode cL_violation 9 = .ok (.lastore, 1) := by decide +kernel
theorem dL_violation_10 : decode cL_violation 10 = .ok (.goto 7, 3) := by decide +kernel
theorem dL_violation_13 : decode cL_violation 13 = .ok (.astore 4, 2) := by decide +kernel
theorem dL_violation_15 : decode cL_violation 15 = .ok (.iconst 1, 1) := by decide +kernel
theorem dL_violation_16 : decode cL_violation 16 = .ok (.ireturn, 1) := by decide +kernel
theorem dL_violation_17 : decode cL_violation 17 = .ok (.iconst 0, 1) := by decide +kernel
theorem dL_violation_18 : decode cL_violation 18 = .ok (.ireturn, 1) := by decide +kernel
theorem dL_difference_0 : decode cL_difference 0 = .ok (.aload 4, 2) := by decide +kernel
theorem dL_difference_2 : decode cL_difference 2 = .ok (.iconst 0, 1) := by decide +kernel
theorem dL_difference_3 : decode cL_difference 3 = .ok (.aload_n 0, 1) := by decide +kernel
theorem dL_difference_4 : decode cL_difference 4 = .ok (.iload_n 1, 1) := by decide +kernel
theorem dL_difference_5 : decode cL_difference 5 = .ok (.iload_n 2, 1) := by decide +kernel
theorem dL_difference_6 : decode cL_difference 6 = .ok (.iload_n 3, 1) := by decide +kernel
theorem dL_difference_7 : decode cL_difference 7 = .ok (.invokevirtual 55, 3) := by decide +kernel
theorem dL_difference_10 : decode cL_difference 10 = .ok (.i2l, 1) := by decide +kernel
theorem dL_difference_11 : decode cL_difference 11 = .ok (.lastore, 1) := by decide +kernel
theorem dL_difference_12 : decode cL_difference 12 = .ok (.goto 7, 3) := by decide +kernel
theorem dL_difference_15 : decode cL_difference 15 = .ok (.astore 5, 2) := by decide +kernel
theorem dL_difference_17 : decode cL_difference 17 = .ok (.iconst 1, 1) := by decide +kernel
theorem dL_difference_18 : decode cL_difference 18 = .ok (.ireturn, 1) := by decide +kernel
theorem dL_difference_19 : decode cL_difference 19 = .ok (.iconst 0, 1) := by decide +kernel
theorem dL_difference_20 : decode cL_difference 20 = .ok (.ireturn, 1) := by decide +kernel
theorem dL_undo_0 : decode cL_undo 0 = .ok (.aload_n 2, 1) := by decide +kernel
theorem dL_undo_1 : decode cL_undo 1 = .ok (.iconst 0, 1) := by decide +kernel
theorem dL_undo_2 : decode cL_undo 2 = .ok (.aload_n 0, 1) := by decide +kernel
theorem dL_undo_3 : decode cL_undo 3 = .ok (.iload_n 1, 1) := by decide +kernel
theorem dL_undo_4 : decode cL_undo 4 = .ok (.invokevirtual 59, 3) := by decide +kernel
theorem dL_undo_7 : decode cL_undo 7 = .ok (.ifCond .eq 7, 3) := by decide +kernel
theorem dL_undo_10 : decode cL_undo 10 = .ok (.lconst 1, 1) := by decide +kernel
theorem dL_undo_11 : decode cL_undo 11 = .ok (.goto 4, 3) := by decide +kernel
theorem dL_undo_14 : decode cL_undo 14 = .ok (.lconst 0, 1) := by decide +kernel
theorem dL_undo_15 : decode cL_undo 15 = .ok (.lastore, 1) := by decide +kernel
theorem dL_undo_16 : decode cL_undo 16 = .ok (.goto 9, 3) := by decide +kernel
theorem dL_undo_19 : decode cL_undo 19 = .ok (.astore_n 3, 1) := by decide +kernel
theorem dL_undo_20 : decode cL_undo 20 = .ok (.iconst 1, 1) := by decide +kernel
theorem dL_undo_21 : decode cL_undo 21 = .ok (.ireturn, 1) := by decide +kernel
theorem dL_undo_22 : decode cL_undo 22 = .ok (.astore_n 3, 1) := by decide +kernel
theorem dL_undo_23 : decode cL_undo 23 = .ok (.iconst 2, 1) := by decide +kernel
theorem dL_undo_24 : decode cL_undo 24 = .ok (.ireturn, 1) := by decide +kernel
theorem dL_undo_25 : decode cL_undo 25 = .ok (.iconst 0, 1) := by decide +kernel
theorem dL_undo_26 : decode cL_undo 26 = .ok (.ireturn, 1) := by decide +kernel
theorem dL_branch_0 : decode cL_branch 0 = .ok (.aload_n 2, 1) := by decide +kernel
theorem dL_branch_1 : decode cL_branch 1 = .ok (.iconst 0, 1) := by decide +kernel
theorem dL_branch_2 : decode cL_branch 2 = .ok (.aload_n 0, 1) := by decide +kernel
theorem dL_branch_3 : decode cL_branch 3 = .ok (.iload_n 1, 1) := by decide +kernel
theorem dL_branch_4 : decode cL_branch 4 = .ok (.invokevirtual 63, 3) := by decide +kernel
theorem dL_branch_7 : decode cL_branch 7 = .ok (.i2l, 1) := by decide +kernel
theorem dL_branch_8 : decode cL_branch 8 = .ok (.lastore, 1) := by decide +kernel
theorem dL_branch_9 : decode cL_branch 9 = .ok (.goto 6, 3) := by decide +kernel
theorem dL_branch_12 : decode cL_branch 12 = .ok (.astore_n 3, 1) := by decide +kernel
theorem dL_branch_13 : decode cL_branch 13 = .ok (.iconst 1, 1) := by decide +kernel
theorem dL_branch_14 : decode cL_branch 14 = .ok (.ireturn, 1) := by decide +kernel
theorem dL_branch_15 : decode cL_branch 15 = .ok (.iconst 0, 1) := by decide +kernel
theorem dL_branch_16 : decode cL_branch 16 = .ok (.ireturn, 1) := by decide +kernel
theorem dL_play_0 : decode cL_play 0 = .ok (.aload 4, 2) := by decide +kernel
theorem dL_play_2 : decode cL_play 2 = .ok (.iconst 0, 1) := by decide +kernel
theorem dL_play_3 : decode cL_play 3 = .ok (.aload_n 0, 1) := by decide +kernel
theorem dL_play_4 : decode cL_play 4 = .ok (.lload_n 1, 1) := by decide +kernel
theorem dL_play_5 : decode cL_play 5 = .ok (.iload_n 3, 1) := by decide +kernel
theorem dL_play_6 : decode cL_play 6 = .ok (.invokevirtual 66, 3) := by decide +kernel
theorem dL_play_9 : decode cL_play 9 = .ok (.i2l, 1) := by decide +kernel
theorem dL_play_10 : decode cL_play 10 = .ok (.lastore, 1) := by decide +kernel
theorem dL_play_11 : decode cL_play 11 = .ok (.goto 7, 3) := by decide +kernel
theorem dL_play_14 : decode cL_play 14 = .ok (.astore 5, 2) := by decide +kernel
theorem dL_play_16 : decode cL_play 16 = .ok (.iconst 1, 1) := by decide +kernel
theorem dL_play_17 : decode cL_play 17 = .ok (.ireturn, 1) := by decide +kernel
theorem dL_play_18 : decode cL_play 18 = .ok (.iconst 0, 1) := by decide +kernel
theorem dL_play_19 : decode cL_play 19 = .ok (.ireturn, 1) := by decide +kernel
theorem dL_mark_0 : decode cL_mark 0 = .ok (.aload_n 3, 1) := by decide +kernel
theorem dL_mark_1 : decode cL_mark 1 = .ok (.iconst 0, 1) := by decide +kernel
theorem dL_mark_2 : decode cL_mark 2 = .ok (.aload_n 0, 1) := by decide +kernel
theorem dL_mark_3 : decode cL_mark 3 = .ok (.iload_n 1, 1) := by decide +kernel
theorem dL_mark_4 : decode cL_mark 4 = .ok (.iload_n 2, 1) := by decide +kernel
theorem dL_mark_5 : decode cL_mark 5 = .ok (.invokevirtual 70, 3) := by decide +kernel
theorem dL_mark_8 : decode cL_mark 8 = .ok (.i2l, 1) := by decide +kernel
theorem dL_mark_9 : decode cL_mark 9 = .ok (.lastore, 1) := by decide +kernel
theorem dL_mark_10 : decode cL_mark 10 = .ok (.goto 11, 3) := by decide +kernel
theorem dL_mark_13 : decode cL_mark 13 = .ok (.astore 4, 2) := by decide +kernel
theorem dL_mark_15 : decode cL_mark 15 = .ok (.iconst 1, 1) := by decide +kernel
theorem dL_mark_16 : decode cL_mark 16 = .ok (.ireturn, 1) := by decide +kernel
theorem dL_mark_17 : decode cL_mark 17 = .ok (.astore 4, 2) := by decide +kernel
theorem dL_mark_19 : decode cL_mark 19 = .ok (.iconst 2, 1) := by decide +kernel
theorem dL_mark_20 : decode cL_mark 20 = .ok (.ireturn, 1) := by decide +kernel
theorem dL_mark_21 : decode cL_mark 21 = .ok (.iconst 0, 1) := by decide +kernel
theorem dL_mark_22 : decode cL_mark 22 = .ok (.ireturn, 1) := by decide +kernel

theorem dX0_init_0 : decode cX0_init 0 = .ok (.aload_n 0, 1) := by decide +kernel
theorem dX0_init_1 : decode cX0_init 1 = .ok (.invokespecial 1, 3) := by decide +kernel
theorem dX0_init_4 : decode cX0_init 4 = .ok (.aload_n 0, 1) := by decide +kernel
theorem dX0_init_5 : decode cX0_init 5 = .ok (.iload_n 1, 1) := by decide +kernel
theorem dX0_init_6 : decode cX0_init 6 = .ok (.putfield 7, 3) := by decide +kernel
theorem dX0_init_9 : decode cX0_init 9 = .ok (.aload_n 0, 1) := by decide +kernel
theorem dX0_init_10 : decode cX0_init 10 = .ok (.lload_n 2, 1) := by decide +kernel
theorem dX0_init_11 : decode cX0_init 11 = .ok (.putfield 13, 3) := by decide +kernel
theorem dX0_init_14 : decode cX0_init 14 = .ok (.aload_n 0, 1) := by decide +kernel
theorem dX0_init_15 : decode cX0_init 15 = .ok (.lload 4, 2) := by decide +kernel
theorem dX0_init_17 : decode cX0_init 17 = .ok (.putfield 17, 3) := by decide +kernel
theorem dX0_init_20 : decode cX0_init 20 = .ok (.aload_n 0, 1) := by decide +kernel
theorem dX0_init_21 : decode cX0_init 21 = .ok (.lload 6, 2) := by decide +kernel
theorem dX0_init_23 : decode cX0_init 23 = .ok (.putfield 20, 3) := by decide +kernel
theorem dX0_init_26 : decode cX0_init 26 = .ok (.aload_n 0, 1) := by decide +kernel
theorem dX0_init_27 : decode cX0_init 27 = .ok (.lload 8, 2) := by decide +kernel
theorem dX0_init_29 : decode cX0_init 29 = .ok (.putfield 23, 3) := by decide +kernel
theorem dX0_init_32 : decode cX0_init 32 = .ok (.return_, 1) := by decide +kernel
theorem dX0_holds_0 : decode cX0_holds 0 = .ok (.aload_n 0, 1) := by decide +kernel
theorem dX0_holds_1 : decode cX0_holds 1 = .ok (.getfield 13, 3) := by decide +kernel
theorem dX0_holds_4 : decode cX0_holds 4 = .ok (.lload_n 1, 1) := by decide +kernel
theorem dX0_holds_5 : decode cX0_holds 5 = .ok (.lcmp, 1) := by decide +kernel
theorem dX0_holds_6 : decode cX0_holds 6 = .ok (.ifCond .gt 34, 3) := by decide +kernel
theorem dX0_holds_9 : decode cX0_holds 9 = .ok (.lload_n 1, 1) := by decide +kernel
theorem dX0_holds_10 : decode cX0_holds 10 = .ok (.aload_n 0, 1) := by decide +kernel
theorem dX0_holds_11 : decode cX0_holds 11 = .ok (.getfield 20, 3) := by decide +kernel
theorem dX0_holds_14 : decode cX0_holds 14 = .ok (.lcmp, 1) := by decide +kernel
theorem dX0_holds_15 : decode cX0_holds 15 = .ok (.ifCond .gt 25, 3) := by decide +kernel
theorem dX0_holds_18 : decode cX0_holds 18 = .ok (.aload_n 0, 1) := by decide +kernel
theorem dX0_holds_19 : decode cX0_holds 19 = .ok (.getfield 17, 3) := by decide +kernel
theorem dX0_holds_22 : decode cX0_holds 22 = .ok (.lload_n 3, 1) := by decide +kernel
theorem dX0_holds_23 : decode cX0_holds 23 = .ok (.lcmp, 1) := by decide +kernel
theorem dX0_holds_24 : decode cX0_holds 24 = .ok (.ifCond .gt 16, 3) := by decide +kernel
theorem dX0_holds_27 : decode cX0_holds 27 = .ok (.lload_n 3, 1) := by decide +kernel
theorem dX0_holds_28 : decode cX0_holds 28 = .ok (.aload_n 0, 1) := by decide +kernel
theorem dX0_holds_29 : decode cX0_holds 29 = .ok (.getfield 23, 3) := by decide +kernel
theorem dX0_holds_32 : decode cX0_holds 32 = .ok (.lcmp, 1) := by decide +kernel
theorem dX0_holds_33 : decode cX0_holds 33 = .ok (.ifCond .gt 7, 3) := by decide +kernel
theorem dX0_holds_36 : decode cX0_holds 36 = .ok (.iconst 1, 1) := by decide +kernel
theorem dX0_holds_37 : decode cX0_holds 37 = .ok (.goto 4, 3) := by decide +kernel
theorem dX0_holds_40 : decode cX0_holds 40 = .ok (.iconst 0, 1) := by decide +kernel
theorem dX0_holds_41 : decode cX0_holds 41 = .ok (.ireturn, 1) := by decide +kernel
theorem dX0_meets_0 : decode cX0_meets 0 = .ok (.aload_n 0, 1) := by decide +kernel
theorem dX0_meets_1 : decode cX0_meets 1 = .ok (.getfield 13, 3) := by decide +kernel
theorem dX0_meets_4 : decode cX0_meets 4 = .ok (.aload_n 1, 1) := by decide +kernel
theorem dX0_meets_5 : decode cX0_meets 5 = .ok (.getfield 20, 3) := by decide +kernel
theorem dX0_meets_8 : decode cX0_meets 8 = .ok (.lcmp, 1) := by decide +kernel
theorem dX0_meets_9 : decode cX0_meets 9 = .ok (.ifCond .gt 43, 3) := by decide +kernel
theorem dX0_meets_12 : decode cX0_meets 12 = .ok (.aload_n 1, 1) := by decide +kernel
theorem dX0_meets_13 : decode cX0_meets 13 = .ok (.getfield 13, 3) := by decide +kernel
theorem dX0_meets_16 : decode cX0_meets 16 = .ok (.aload_n 0, 1) := by decide +kernel
theorem dX0_meets_17 : decode cX0_meets 17 = .ok (.getfield 20, 3) := by decide +kernel
theorem dX0_meets_20 : decode cX0_meets 20 = .ok (.lcmp, 1) := by decide +kernel
theorem dX0_meets_21 : decode cX0_meets 21 = .ok (.ifCond .gt 31, 3) := by decide +kernel
theorem dX0_meets_24 : decode cX0_meets 24 = .ok (.aload_n 0, 1) := by decide +kernel
theorem dX0_meets_25 : decode cX0_meets 25 = .ok (.getfield 17, 3) := by decide +kernel
theorem dX0_meets_28 : decode cX0_meets 28 = .ok (.aload_n 1, 1) := by decide +kernel
theorem dX0_meets_29 : decode cX0_meets 29 = .ok (.getfield 23, 3) := by decide +kernel
theorem dX0_meets_32 : decode cX0_meets 32 = .ok (.lcmp, 1) := by decide +kernel
theorem dX0_meets_33 : decode cX0_meets 33 = .ok (.ifCond .gt 19, 3) := by decide +kernel
theorem dX0_meets_36 : decode cX0_meets 36 = .ok (.aload_n 1, 1) := by decide +kernel
theorem dX0_meets_37 : decode cX0_meets 37 = .ok (.getfield 17, 3) := by decide +kernel
theorem dX0_meets_40 : decode cX0_meets 40 = .ok (.aload_n 0, 1) := by decide +kernel
theorem dX0_meets_41 : decode cX0_meets 41 = .ok (.getfield 23, 3) := by decide +kernel
theorem dX0_meets_44 : decode cX0_meets 44 = .ok (.lcmp, 1) := by decide +kernel
theorem dX0_meets_45 : decode cX0_meets 45 = .ok (.ifCond .gt 7, 3) := by decide +kernel
theorem dX0_meets_48 : decode cX0_meets 48 = .ok (.iconst 1, 1) := by decide +kernel
theorem dX0_meets_49 : decode cX0_meets 49 = .ok (.goto 4, 3) := by decide +kernel
theorem dX0_meets_52 : decode cX0_meets 52 = .ok (.iconst 0, 1) := by decide +kernel
theorem dX0_meets_53 : decode cX0_meets 53 = .ok (.ireturn, 1) := by decide +kernel
theorem dX1_init_0 : decode cX1_init 0 = .ok (.aload_n 0, 1) := by decide +kernel
theorem dX1_init_1 : decode cX1_init 1 = .ok (.invokespecial 3, 3) := by decide +kernel
theorem dX1_init_4 : decode cX1_init 4 = .ok (.aload_n 0, 1) := by decide +kernel
theorem dX1_init_5 : decode cX1_init 5 = .ok (.bipush 40, 2) := by decide +kernel
theorem dX1_init_7 : decode cX1_init 7 = .ok (.newarray .int, 2) := by decide +kernel
theorem dX1_init_9 : decode cX1_init 9 = .ok (.putfield 9, 3) := by decide +kernel
theorem dX1_init_12 : decode cX1_init 12 = .ok (.aload_n 0, 1) := by decide +kernel
theorem dX1_init_13 : decode cX1_init 13 = .ok (.bipush 40, 2) := by decide +kernel
theorem dX1_init_15 : decode cX1_init 15 = .ok (.anewarray 15, 3) := by decide +kernel
theorem dX1_init_18 : decode cX1_init 18 = .ok (.putfield 17, 3) := by decide +kernel
theorem dX1_init_21 : decode cX1_init 21 = .ok (.return_, 1) := by decide +kernel
theorem dX1_keep_0 : decode cX1_keep 0 = .ok (.aload_n 0, 1) := by decide +kernel
theorem dX1_keep_1 : decode cX1_keep 1 = .ok (.invokevirtual 21, 3) := by decide +kernel
theorem dX1_keep_4 : decode cX1_keep 4 = .ok (.istore_n 3, 1) := by decide +kernel
theorem dX1_keep_5 : decode cX1_keep 5 = .ok (.aload_n 0, 1) := by decide +kernel
theorem dX1_keep_6 : decode cX1_keep 6 = .ok (.getfield 9, 3) := by decide +kernel
theorem dX1_keep_9 : decode cX1_keep 9 = .ok (.iload_n 3, 1) := by decide +kernel
theorem dX1_keep_10 : decode cX1_keep 10 = .ok (.iload_n 1, 1) := by decide +kernel
theorem dX1_keep_11 : decode cX1_keep 11 = .ok (.iastore, 1) := by decide +kernel
theorem dX1_keep_12 : decode cX1_keep 12 = .ok (.aload_n 0, 1) := by decide +kernel
theorem dX1_keep_13 : decode cX1_keep 13 = .ok (.getfield 17, 3) := by decide +kernel
theorem dX1_keep_16 : decode cX1_keep 16 = .ok (.iload_n 3, 1) := by decide +kernel
theorem dX1_keep_17 : decode cX1_keep 17 = .ok (.aload_n 2, 1) := by decide +kernel
theorem dX1_keep_18 : decode cX1_keep 18 = .ok (.aastore, 1) := by decide +kernel
theorem dX1_keep_19 : decode cX1_keep 19 = .ok (.aload_n 0, 1) := by decide +kernel
theorem dX1_keep_20 : decode cX1_keep 20 = .ok (.dup, 1) := by decide +kernel
theorem dX1_keep_21 : decode cX1_keep 21 = .ok (.getfield 25, 3) := by decide +kernel
theorem dX1_keep_24 : decode cX1_keep 24 = .ok (.iconst 1, 1) := by decide +kernel
theorem dX1_keep_25 : decode cX1_keep 25 = .ok (.iadd, 1) := by decide +kernel
theorem dX1_keep_26 : decode cX1_keep 26 = .ok (.putfield 25, 3) := by decide +kernel
theorem dX1_keep_29 : decode cX1_keep 29 = .ok (.aload_n 0, 1) := by decide +kernel
theorem dX1_keep_30 : decode cX1_keep 30 = .ok (.aload_n 0, 1) := by decide +kernel
theorem dX1_keep_31 : decode cX1_keep 31 = .ok (.getfield 29, 3) := by decide +kernel
theorem dX1_keep_34 : decode cX1_keep 34 = .ok (.iconst 1, 1) := by decide +kernel
theorem dX1_keep_35 : decode cX1_keep 35 = .ok (.iadd, 1) := by decide +kernel
theorem dX1_keep_36 : decode cX1_keep 36 = .ok (.bipush 40, 2) := by decide +kernel
theorem dX1_keep_38 : decode cX1_keep 38 = .ok (.invokestatic 32, 3) := by decide +kernel
theorem dX1_keep_41 : decode cX1_keep 41 = .ok (.putfield 29, 3) := by decide +kernel
theorem dX1_keep_44 : decode cX1_keep 44 = .ok (.return_, 1) := by decide +kernel
theorem dX1_stepBack_0 : decode cX1_stepBack 0 = .ok (.aload_n 0, 1) := by decide +kernel
theorem dX1_stepBack_1 : decode cX1_stepBack 1 = .ok (.getfield 29, 3) := by decide +kernel
theorem dX1_stepBack_4 : decode cX1_stepBack 4 = .ok (.ifCond .ne 5, 3) := by decide +kernel
theorem dX1_stepBack_7 : decode cX1_stepBack 7 = .ok (.iconst 0, 1) := by decide +kernel
theorem dX1_stepBack_8 : decode cX1_stepBack 8 = .ok (.ireturn, 1) := by decide +kernel
theorem dX1_stepBack_9 : decode cX1_stepBack 9 = .ok (.aload_n 0, 1) := by decide +kernel
theorem dX1_stepBack_10 : decode cX1_stepBack 10 = .ok (.dup, 1) := by decide +kernel
theorem dX1_stepBack_11 : decode cX1_stepBack 11 = .ok (.getfield 29, 3) := by decide +kernel
theorem dX1_stepBack_14 : decode cX1_stepBack 14 = .ok (.iconst 1, 1) := by decide +kernel
theorem dX1_stepBack_15 : decode cX1_stepBack 15 = .ok (.isub, 1) := by decide +kernel
theorem dX1_stepBack_16 : decode cX1_stepBack 16 = .ok (.putfield 29, 3) := by decide +kernel
theorem dX1_stepBack_19 : decode cX1_stepBack 19 = .ok (.aload_n 0, 1) := by decide +kernel
theorem dX1_stepBack_20 : decode cX1_stepBack 20 = .ok (.dup, 1) := by decide +kernel
theorem dX1_stepBack_21 : decode cX1_stepBack 21 = .ok (.getfield 25, 3) := by decide +kernel
theorem dX1_stepBack_24 : decode cX1_stepBack 24 = .ok (.iconst 1, 1) := by decide +kernel
theorem dX1_stepBack_25 : decode cX1_stepBack 25 = .ok (.isub, 1) := by decide +kernel
theorem dX1_stepBack_26 : decode cX1_stepBack 26 = .ok (.putfield 25, 3) := by decide +kernel
theorem dX1_stepBack_29 : decode cX1_stepBack 29 = .ok (.iconst 1, 1) := by decide +kernel
theorem dX1_stepBack_30 : decode cX1_stepBack 30 = .ok (.ireturn, 1) := by decide +kernel
theorem dX1_changedObject_0 : decode cX1_changedObject 0 = .ok (.aload_n 0, 1) := by decide +kernel
theorem dX1_changedObject_1 : decode cX1_changedObject 1 = .ok (.getfield 9, 3) := by decide +kernel
theorem dX1_changedObject_4 : decode cX1_changedObject 4 = .ok (.aload_n 0, 1) := by decide +kernel
theorem dX1_changedObject_5 : decode cX1_changedObject 5 = .ok (.invokevirtual 21, 3) := by decide +kernel
theorem dX1_changedObject_8 : decode cX1_changedObject 8 = .ok (.iaload, 1) := by decide +kernel
theorem dX1_changedObject_9 : decode cX1_changedObject 9 = .ok (.ireturn, 1) := by decide +kernel
theorem dX1_rowBefore_0 : decode cX1_rowBefore 0 = .ok (.aload_n 0, 1) := by decide +kernel
theorem dX1_rowBefore_1 : decode cX1_rowBefore 1 = .ok (.getfield 17, 3) := by decide +kernel
theorem dX1_rowBefore_4 : decode cX1_rowBefore 4 = .ok (.aload_n 0, 1) := by decide +kernel
theorem dX1_rowBefore_5 : decode cX1_rowBefore 5 = .ok (.invokevirtual 21, 3) := by decide +kernel
theorem dX1_rowBefore_8 : decode cX1_rowBefore 8 = .ok (.aaload, 1) := by decide +kernel
theorem dX1_rowBefore_9 : decode cX1_rowBefore 9 = .ok (.areturn, 1) := by decide +kernel
theorem dX1_place_0 : decode cX1_place 0 = .ok (.aload_n 0, 1) := by decide +kernel
theorem dX1_place_1 : decode cX1_place 1 = .ok (.getfield 25, 3) := by decide +kernel
theorem dX1_place_4 : decode cX1_place 4 = .ok (.bipush 40, 2) := by decide +kernel
theorem dX1_place_6 : decode cX1_place 6 = .ok (.invokestatic 38, 3) := by decide +kernel
theorem dX1_place_9 : decode cX1_place 9 = .ok (.ireturn, 1) := by decide +kernel
theorem dX2_init_0 : decode cX2_init 0 = .ok (.aload_n 0, 1) := by decide +kernel
theorem dX2_init_1 : decode cX2_init 1 = .ok (.invokespecial 3, 3) := by decide +kernel
theorem dX2_init_4 : decode cX2_init 4 = .ok (.aload_n 0, 1) := by decide +kernel
theorem dX2_init_5 : decode cX2_init 5 = .ok (.sipush 360, 3) := by decide +kernel
theorem dX2_init_8 : decode cX2_init 8 = .ok (.newarray .int, 2) := by decide +kernel
theorem dX2_init_10 : decode cX2_init 10 = .ok (.putfield 9, 3) := by decide +kernel
theorem dX2_init_13 : decode cX2_init 13 = .ok (.return_, 1) := by decide +kernel
theorem dX2_gather_0 : decode cX2_gather 0 = .ok (.aload_n 0, 1) := by decide +kernel
theorem dX2_gather_1 : decode cX2_gather 1 = .ok (.aload_n 1, 1) := by decide +kernel
theorem dX2_gather_2 : decode cX2_gather 2 = .ok (.putfield 15, 3) := by decide +kernel
theorem dX2_gather_5 : decode cX2_gather 5 = .ok (.aload_n 0, 1) := by decide +kernel
theorem dX2_gather_6 : decode cX2_gather 6 = .ok (.iconst 0, 1) := by decide +kernel
theorem dX2_gather_7 : decode cX2_gather 7 = .ok (.putfield 19, 3) := by decide +kernel
theorem dX2_gather_10 : decode cX2_gather 10 = .ok (.iconst 0, 1) := by decide +kernel
theorem dX2_gather_11 : decode cX2_gather 11 = .ok (.istore_n 3, 1) := by decide +kernel
theorem dX2_gather_12 : decode cX2_gather 12 = .ok (.iload_n 3, 1) := by decide +kernel
theorem dX2_gather_13 : decode cX2_gather 13 = .ok (.bipush 60, 2) := by decide +kernel
theorem dX2_gather_15 : decode cX2_gather 15 = .ok (.if_icmp .ge 23, 3) := by decide +kernel
theorem dX2_gather_18 : decode cX2_gather 18 = .ok (.aload_n 1, 1) := by decide +kernel
theorem dX2_gather_19 : decode cX2_gather 19 = .ok (.iload_n 3, 1) := by decide +kernel
theorem dX2_gather_20 : decode cX2_gather 20 = .ok (.invokevirtual 23, 3) := by decide +kernel
theorem dX2_gather_23 : decode cX2_gather 23 = .ok (.ifCond .eq 9, 3) := by decide +kernel
theorem dX2_gather_26 : decode cX2_gather 26 = .ok (.aload_n 0, 1) := by decide +kernel
theorem dX2_gather_27 : decode cX2_gather 27 = .ok (.iload_n 3, 1) := by decide +kernel
theorem dX2_gather_28 : decode cX2_gather 28 = .ok (.aload_n 2, 1) := by decide +kernel
theorem dX2_gather_29 : decode cX2_gather 29 = .ok (.invokevirtual 29, 3) := by decide +kernel
theorem dX2_gather_32 : decode cX2_gather 32 = .ok (.iinc 3 1, 3) := by decide +kernel
theorem dX2_gather_35 : decode cX2_gather 35 = .ok (.goto (-23), 3) := by decide +kernel
theorem dX2_gather_38 : decode cX2_gather 38 = .ok (.return_, 1) := by decide +kernel
theorem dX2_gatherOf_0 : decode cX2_gatherOf 0 = .ok (.iconst 0, 1) := by decide +kernel
theorem dX2_gatherOf_1 : decode cX2_gatherOf 1 = .ok (.istore_n 3, 1) := by decide +kernel
theorem dX2_gatherOf_2 : decode cX2_gatherOf 2 = .ok (.iload_n 3, 1) := by decide +kernel
theorem dX2_gatherOf_3 : decode cX2_gatherOf 3 = .ok (.bipush 7, 2) := by decide +kernel
theorem dX2_gatherOf_5 : decode cX2_gatherOf 5 = .ok (.if_icmp .ge 66, 3) := by decide +kernel
theorem dX2_gatherOf_8 : decode cX2_gatherOf 8 = .ok (.aload_n 0, 1) := by decide +kernel
theorem dX2_gatherOf_9 : decode cX2_gatherOf 9 = .ok (.getfield 15, 3) := by decide +kernel
theorem dX2_gatherOf_12 : decode cX2_gatherOf 12 = .ok (.ifnull 53, 3) := by decide +kernel
theorem dX2_gatherOf_15 : decode cX2_gatherOf 15 = .ok (.aload_n 0, 1) := by decide +kernel
theorem dX2_gatherOf_16 : decode cX2_gatherOf 16 = .ok (.getfield 15, 3) := by decide +kernel
theorem dX2_gatherOf_19 : decode cX2_gatherOf 19 = .ok (.iload_n 1, 1) := by decide +kernel
theorem dX2_gatherOf_20 : decode cX2_gatherOf 20 = .ok (.iload_n 3, 1) := by decide +kernel
theorem dX2_gatherOf_21 : decode cX2_gatherOf 21 = .ok (.aload_n 2, 1) := by decide +kernel
theorem dX2_gatherOf_22 : decode cX2_gatherOf 22 = .ok (.invokevirtual 33, 3) := by decide +kernel
theorem dX2_gatherOf_25 : decode cX2_gatherOf 25 = .ok (.ifCond .eq 40, 3) := by decide +kernel
theorem dX2_gatherOf_28 : decode cX2_gatherOf 28 = .ok (.aload_n 0, 1) := by decide +kernel
theorem dX2_gatherOf_29 : decode cX2_gatherOf 29 = .ok (.getfield 19, 3) := by decide +kernel
theorem dX2_gatherOf_32 : decode cX2_gatherOf 32 = .ok (.aload_n 0, 1) := by decide +kernel
theorem dX2_gatherOf_33 : decode cX2_gatherOf 33 = .ok (.getfield 9, 3) := by decide +kernel
theorem dX2_gatherOf_36 : decode cX2_gatherOf 36 = .ok (.arraylength, 1) := by decide +kernel
theorem dX2_gatherOf_37 : decode cX2_gatherOf 37 = .ok (.if_icmp .ge 28, 3) := by decide +kernel
theorem dX2_gatherOf_40 : decode cX2_gatherOf 40 = .ok (.aload_n 0, 1) := by decide +kernel
theorem dX2_gatherOf_41 : decode cX2_gatherOf 41 = .ok (.getfield 9, 3) := by decide +kernel
theorem dX2_gatherOf_44 : decode cX2_gatherOf 44 = .ok (.aload_n 0, 1) := by decide +kernel
theorem dX2_gatherOf_45 : decode cX2_gatherOf 45 = .ok (.getfield 19, 3) := by decide +kernel
theorem dX2_gatherOf_48 : decode cX2_gatherOf 48 = .ok (.bipush 8, 2) := by decide +kernel
theorem dX2_gatherOf_50 : decode cX2_gatherOf 50 = .ok (.iload_n 1, 1) := by decide +kernel
theorem dX2_gatherOf_51 : decode cX2_gatherOf 51 = .ok (.imul, 1) := by decide +kernel
theorem dX2_gatherOf_52 : decode cX2_gatherOf 52 = .ok (.iload_n 3, 1) := by decide +kernel
theorem dX2_gatherOf_53 : decode cX2_gatherOf 53 = .ok (.iadd, 1) := by decide +kernel
theorem dX2_gatherOf_54 : decode cX2_gatherOf 54 = .ok (.iastore, 1) := by decide +kernel
theorem dX2_gatherOf_55 : decode cX2_gatherOf 55 = .ok (.aload_n 0, 1) := by decide +kernel
theorem dX2_gatherOf_56 : decode cX2_gatherOf 56 = .ok (.dup, 1) := by decide +kernel
theorem dX2_gatherOf_57 : decode cX2_gatherOf 57 = .ok (.getfield 19, 3) := by decide +kernel
theorem dX2_gatherOf_60 : decode cX2_gatherOf 60 = .ok (.iconst 1, 1) := by decide +kernel
theorem dX2_gatherOf_61 : decode cX2_gatherOf 61 = .ok (.iadd, 1) := by decide +kernel
theorem dX2_gatherOf_62 : decode cX2_gatherOf 62 = .ok (.putfield 19, 3) := by decide +kernel
theorem dX2_gatherOf_65 : decode cX2_gatherOf 65 = .ok (.iinc 3 1, 3) := by decide +kernel
theorem dX2_gatherOf_68 : decode cX2_gatherOf 68 = .ok (.goto (-66), 3) := by decide +kernel
theorem dX2_gatherOf_71 : decode cX2_gatherOf 71 = .ok (.return_, 1) := by decide +kernel
theorem dX2_unsettled_0 : decode cX2_unsettled 0 = .ok (.iconst 0, 1) := by decide +kernel
theorem dX2_unsettled_1 : decode cX2_unsettled 1 = .ok (.istore_n 1, 1) := by decide +kernel
theorem dX2_unsettled_2 : decode cX2_unsettled 2 = .ok (.iconst 0, 1) := by decide +kernel
theorem dX2_unsettled_3 : decode cX2_unsettled 3 = .ok (.istore_n 2, 1) := by decide +kernel
theorem dX2_unsettled_4 : decode cX2_unsettled 4 = .ok (.iload_n 2, 1) := by decide +kernel
theorem dX2_unsettled_5 : decode cX2_unsettled 5 = .ok (.aload_n 0, 1) := by decide +kernel
theorem dX2_unsettled_6 : decode cX2_unsettled 6 = .ok (.getfield 19, 3) := by decide +kernel
theorem dX2_unsettled_9 : decode cX2_unsettled 9 = .ok (.if_icmp .ge 40, 3) := by decide +kernel
theorem dX2_unsettled_12 : decode cX2_unsettled 12 = .ok (.aload_n 0, 1) := by decide +kernel
theorem dX2_unsettled_13 : decode cX2_unsettled 13 = .ok (.getfield 15, 3) := by decide +kernel
theorem dX2_unsettled_16 : decode cX2_unsettled 16 = .ok (.ifnull 27, 3) := by decide +kernel
theorem dX2_unsettled_19 : decode cX2_unsettled 19 = .ok (.aload_n 0, 1) := by decide +kernel
theorem dX2_unsettled_20 : decode cX2_unsettled 20 = .ok (.getfield 15, 3) := by decide +kernel
theorem dX2_unsettled_23 : decode cX2_unsettled 23 = .ok (.aload_n 0, 1) := by decide +kernel
theorem dX2_unsettled_24 : decode cX2_unsettled 24 = .ok (.iload_n 2, 1) := by decide +kernel
theorem dX2_unsettled_25 : decode cX2_unsettled 25 = .ok (.invokevirtual 37, 3) := by decide +kernel
theorem dX2_unsettled_28 : decode cX2_unsettled 28 = .ok (.aload_n 0, 1) := by decide +kernel
theorem dX2_unsettled_29 : decode cX2_unsettled 29 = .ok (.iload_n 2, 1) := by decide +kernel
theorem dX2_unsettled_30 : decode cX2_unsettled 30 = .ok (.invokevirtual 41, 3) := by decide +kernel
theorem dX2_unsettled_33 : decode cX2_unsettled 33 = .ok (.invokevirtual 44, 3) := by decide +kernel
theorem dX2_unsettled_36 : decode cX2_unsettled 36 = .ok (.iconst (-1), 1) := by decide +kernel
theorem dX2_unsettled_37 : decode cX2_unsettled 37 = .ok (.if_icmp .ne 6, 3) := by decide +kernel
theorem dX2_unsettled_40 : decode cX2_unsettled 40 = .ok (.iinc 1 1, 3) := by decide +kernel
theorem dX2_unsettled_43 : decode cX2_unsettled 43 = .ok (.iinc 2 1, 3) := by decide +kernel
theorem dX2_unsettled_46 : decode cX2_unsettled 46 = .ok (.goto (-42), 3) := by decide +kernel
theorem dX2_unsettled_49 : decode cX2_unsettled 49 = .ok (.iload_n 1, 1) := by decide +kernel
theorem dX2_unsettled_50 : decode cX2_unsettled 50 = .ok (.ireturn, 1) := by decide +kernel
theorem dX2_has_0 : decode cX2_has 0 = .ok (.iload_n 1, 1) := by decide +kernel
theorem dX2_has_1 : decode cX2_has 1 = .ok (.ifCond .lt 15, 3) := by decide +kernel
theorem dX2_has_4 : decode cX2_has 4 = .ok (.iload_n 1, 1) := by decide +kernel
theorem dX2_has_5 : decode cX2_has 5 = .ok (.aload_n 0, 1) := by decide +kernel
theorem dX2_has_6 : decode cX2_has 6 = .ok (.getfield 19, 3) := by decide +kernel
theorem dX2_has_9 : decode cX2_has 9 = .ok (.if_icmp .ge 7, 3) := by decide +kernel
theorem dX2_has_12 : decode cX2_has 12 = .ok (.iconst 1, 1) := by decide +kernel
theorem dX2_has_13 : decode cX2_has 13 = .ok (.goto 4, 3) := by decide +kernel
theorem dX2_has_16 : decode cX2_has 16 = .ok (.iconst 0, 1) := by decide +kernel
theorem dX2_has_17 : decode cX2_has 17 = .ok (.ireturn, 1) := by decide +kernel
theorem dX2_objectOf_0 : decode cX2_objectOf 0 = .ok (.aload_n 0, 1) := by decide +kernel
theorem dX2_objectOf_1 : decode cX2_objectOf 1 = .ok (.iload_n 1, 1) := by decide +kernel
theorem dX2_objectOf_2 : decode cX2_objectOf 2 = .ok (.invokevirtual 48, 3) := by decide +kernel
theorem dX2_objectOf_5 : decode cX2_objectOf 5 = .ok (.ifCond .eq 15, 3) := by decide +kernel
theorem dX2_objectOf_8 : decode cX2_objectOf 8 = .ok (.aload_n 0, 1) := by decide +kernel
theorem dX2_objectOf_9 : decode cX2_objectOf 9 = .ok (.getfield 9, 3) := by decide +kernel
theorem dX2_objectOf_12 : decode cX2_objectOf 12 = .ok (.iload_n 1, 1) := by decide +kernel
theorem dX2_objectOf_13 : decode cX2_objectOf 13 = .ok (.iaload, 1) := by decide +kernel
theorem dX2_objectOf_14 : decode cX2_objectOf 14 = .ok (.bipush 8, 2) := by decide +kernel
theorem dX2_objectOf_16 : decode cX2_objectOf 16 = .ok (.idiv, 1) := by decide +kernel
theorem dX2_objectOf_17 : decode cX2_objectOf 17 = .ok (.goto 4, 3) := by decide +kernel
theorem dX2_objectOf_20 : decode cX2_objectOf 20 = .ok (.iconst (-1), 1) := by decide +kernel
theorem dX2_objectOf_21 : decode cX2_objectOf 21 = .ok (.ireturn, 1) := by decide +kernel
theorem dX2_fieldOf_0 : decode cX2_fieldOf 0 = .ok (.aload_n 0, 1) := by decide +kernel
theorem dX2_fieldOf_1 : decode cX2_fieldOf 1 = .ok (.iload_n 1, 1) := by decide +kernel
theorem dX2_fieldOf_2 : decode cX2_fieldOf 2 = .ok (.invokevirtual 48, 3) := by decide +kernel
theorem dX2_fieldOf_5 : decode cX2_fieldOf 5 = .ok (.ifCond .eq 15, 3) := by decide +kernel
theorem dX2_fieldOf_8 : decode cX2_fieldOf 8 = .ok (.aload_n 0, 1) := by decide +kernel
theorem dX2_fieldOf_9 : decode cX2_fieldOf 9 = .ok (.getfield 9, 3) := by decide +kernel
theorem dX2_fieldOf_12 : decode cX2_fieldOf 12 = .ok (.iload_n 1, 1) := by decide +kernel
theorem dX2_fieldOf_13 : decode cX2_fieldOf 13 = .ok (.iaload, 1) := by decide +kernel
theorem dX2_fieldOf_14 : decode cX2_fieldOf 14 = .ok (.bipush 8, 2) := by decide +kernel
theorem dX2_fieldOf_16 : decode cX2_fieldOf 16 = .ok (.irem, 1) := by decide +kernel
theorem dX2_fieldOf_17 : decode cX2_fieldOf 17 = .ok (.goto 4, 3) := by decide +kernel
theorem dX2_fieldOf_20 : decode cX2_fieldOf 20 = .ok (.iconst (-1), 1) := by decide +kernel
theorem dX2_fieldOf_21 : decode cX2_fieldOf 21 = .ok (.ireturn, 1) := by decide +kernel
theorem dX3_init_0 : decode cX3_init 0 = .ok (.aload_n 0, 1) := by decide +kernel
theorem dX3_init_1 : decode cX3_init 1 = .ok (.invokespecial 1, 3) := by decide +kernel
theorem dX3_init_4 : decode cX3_init 4 = .ok (.aload_n 0, 1) := by decide +kernel
theorem dX3_init_5 : decode cX3_init 5 = .ok (.lload_n 1, 1) := by decide +kernel
theorem dX3_init_6 : decode cX3_init 6 = .ok (.putfield 7, 3) := by decide +kernel
theorem dX3_init_9 : decode cX3_init 9 = .ok (.return_, 1) := by decide +kernel
theorem dX3_below_0 : decode cX3_below 0 = .ok (.aload_n 0, 1) := by decide +kernel
theorem dX3_below_1 : decode cX3_below 1 = .ok (.aload_n 0, 1) := by decide +kernel
theorem dX3_below_2 : decode cX3_below 2 = .ok (.getfield 7, 3) := by decide +kernel
theorem dX3_below_5 : decode cX3_below 5 = .ok (.ldc2_w 13, 3) := by decide +kernel
theorem dX3_below_8 : decode cX3_below 8 = .ok (.lmul, 1) := by decide +kernel
theorem dX3_below_9 : decode cX3_below 9 = .ok (.ldc2_w 15, 3) := by decide +kernel
theorem dX3_below_12 : decode cX3_below 12 = .ok (.ladd, 1) := by decide +kernel
theorem dX3_below_13 : decode cX3_below 13 = .ok (.putfield 7, 3) := by decide +kernel
theorem dX3_below_16 : decode cX3_below 16 = .ok (.iload_n 1, 1) := by decide +kernel
theorem dX3_below_17 : decode cX3_below 17 = .ok (.ifCond .gt 7, 3) := by decide +kernel
theorem dX3_below_20 : decode cX3_below 20 = .ok (.iconst 0, 1) := by decide +kernel
theorem dX3_below_21 : decode cX3_below 21 = .ok (.goto 14, 3) := by decide +kernel
theorem dX3_below_24 : decode cX3_below 24 = .ok (.aload_n 0, 1) := by decide +kernel
theorem dX3_below_25 : decode cX3_below 25 = .ok (.getfield 7, 3) := by decide +kernel
theorem dX3_below_28 : decode cX3_below 28 = .ok (.bipush 33, 2) := by decide +kernel
theorem dX3_below_30 : decode cX3_below 30 = .ok (.lushr, 1) := by decide +kernel
theorem dX3_below_31 : decode cX3_below 31 = .ok (.iload_n 1, 1) := by decide +kernel
theorem dX3_below_32 : decode cX3_below 32 = .ok (.i2l, 1) := by decide +kernel
theorem dX3_below_33 : decode cX3_below 33 = .ok (.lrem, 1) := by decide +kernel
theorem dX3_below_34 : decode cX3_below 34 = .ok (.l2i, 1) := by decide +kernel
theorem dX3_below_35 : decode cX3_below 35 = .ok (.ireturn, 1) := by decide +kernel
theorem dX4_init_0 : decode cX4_init 0 = .ok (.aload_n 0, 1) := by decide +kernel
theorem dX4_init_1 : decode cX4_init 1 = .ok (.invokespecial 3, 3) := by decide +kernel
theorem dX4_init_4 : decode cX4_init 4 = .ok (.aload_n 0, 1) := by decide +kernel
theorem dX4_init_5 : decode cX4_init 5 = .ok (.bipush 10, 2) := by decide +kernel
theorem dX4_init_7 : decode cX4_init 7 = .ok (.anewarray 9, 3) := by decide +kernel
theorem dX4_init_10 : decode cX4_init 10 = .ok (.putfield 11, 3) := by decide +kernel
theorem dX4_init_13 : decode cX4_init 13 = .ok (.return_, 1) := by decide +kernel
theorem dX4_add_0 : decode cX4_add 0 = .ok (.iconst (-1), 1) := by decide +kernel
theorem dX4_add_1 : decode cX4_add 1 = .ok (.istore_n 2, 1) := by decide +kernel
theorem dX4_add_2 : decode cX4_add 2 = .ok (.iconst 0, 1) := by decide +kernel
theorem dX4_add_3 : decode cX4_add 3 = .ok (.istore_n 3, 1) := by decide +kernel
theorem dX4_add_4 : decode cX4_add 4 = .ok (.iload_n 3, 1) := by decide +kernel
theorem dX4_add_5 : decode cX4_add 5 = .ok (.bipush 10, 2) := by decide +kernel
theorem dX4_add_7 : decode cX4_add 7 = .ok (.if_icmp .ge 50, 3) := by decide +kernel
theorem dX4_add_10 : decode cX4_add 10 = .ok (.aload_n 0, 1) := by decide +kernel
theorem dX4_add_11 : decode cX4_add 11 = .ok (.getfield 11, 3) := by decide +kernel
theorem dX4_add_14 : decode cX4_add 14 = .ok (.iload_n 3, 1) := by decide +kernel
theorem dX4_add_15 : decode cX4_add 15 = .ok (.aaload, 1) := by decide +kernel
theorem dX4_add_16 : decode cX4_add 16 = .ok (.astore 4, 2) := by decide +kernel
theorem dX4_add_18 : decode cX4_add 18 = .ok (.aload 4, 2) := by decide +kernel
theorem dX4_add_20 : decode cX4_add 20 = .ok (.ifnonnull 8, 3) := by decide +kernel
theorem dX4_add_23 : decode cX4_add 23 = .ok (.iload_n 3, 1) := by decide +kernel
theorem dX4_add_24 : decode cX4_add 24 = .ok (.istore_n 2, 1) := by decide +kernel
theorem dX4_add_25 : decode cX4_add 25 = .ok (.goto 26, 3) := by decide +kernel
theorem dX4_add_28 : decode cX4_add 28 = .ok (.aload 4, 2) := by decide +kernel
theorem dX4_add_30 : decode cX4_add 30 = .ok (.getfield 17, 3) := by decide +kernel
theorem dX4_add_33 : decode cX4_add 33 = .ok (.aload_n 1, 1) := by decide +kernel
theorem dX4_add_34 : decode cX4_add 34 = .ok (.getfield 17, 3) := by decide +kernel
theorem dX4_add_37 : decode cX4_add 37 = .ok (.if_icmp .eq 14, 3) := by decide +kernel
theorem dX4_add_40 : decode cX4_add 40 = .ok (.aload 4, 2) := by decide +kernel
theorem dX4_add_42 : decode cX4_add 42 = .ok (.aload_n 1, 1) := by decide +kernel
theorem dX4_add_43 : decode cX4_add 43 = .ok (.invokevirtual 21, 3) := by decide +kernel
theorem dX4_add_46 : decode cX4_add 46 = .ok (.ifCond .eq 5, 3) := by decide +kernel
theorem dX4_add_49 : decode cX4_add 49 = .ok (.iconst 0, 1) := by decide +kernel
theorem dX4_add_50 : decode cX4_add 50 = .ok (.ireturn, 1) := by decide +kernel
theorem dX4_add_51 : decode cX4_add 51 = .ok (.iinc 3 1, 3) := by decide +kernel
theorem dX4_add_54 : decode cX4_add 54 = .ok (.goto (-50), 3) := by decide +kernel
theorem dX4_add_57 : decode cX4_add 57 = .ok (.iload_n 2, 1) := by decide +kernel
theorem dX4_add_58 : decode cX4_add 58 = .ok (.ifCond .ge 5, 3) := by decide +kernel
theorem dX4_add_61 : decode cX4_add 61 = .ok (.iconst 0, 1) := by decide +kernel
theorem dX4_add_62 : decode cX4_add 62 = .ok (.ireturn, 1) := by decide +kernel
theorem dX4_add_63 : decode cX4_add 63 = .ok (.aload_n 0, 1) := by decide +kernel
theorem dX4_add_64 : decode cX4_add 64 = .ok (.getfield 11, 3) := by decide +kernel
theorem dX4_add_67 : decode cX4_add 67 = .ok (.iload_n 2, 1) := by decide +kernel
theorem dX4_add_68 : decode cX4_add 68 = .ok (.aload_n 1, 1) := by decide +kernel
theorem dX4_add_69 : decode cX4_add 69 = .ok (.aastore, 1) := by decide +kernel
theorem dX4_add_70 : decode cX4_add 70 = .ok (.iconst 1, 1) := by decide +kernel
theorem dX4_add_71 : decode cX4_add 71 = .ok (.ireturn, 1) := by decide +kernel
theorem dX4_bar_0 : decode cX4_bar 0 = .ok (.iconst 0, 1) := by decide +kernel
theorem dX4_bar_1 : decode cX4_bar 1 = .ok (.istore_n 3, 1) := by decide +kernel
theorem dX4_bar_2 : decode cX4_bar 2 = .ok (.iload_n 3, 1) := by decide +kernel
theorem dX4_bar_3 : decode cX4_bar 3 = .ok (.bipush 10, 2) := by decide +kernel
theorem dX4_bar_5 : decode cX4_bar 5 = .ok (.if_icmp .ge 51, 3) := by decide +kernel
theorem dX4_bar_8 : decode cX4_bar 8 = .ok (.aload_n 0, 1) := by decide +kernel
theorem dX4_bar_9 : decode cX4_bar 9 = .ok (.getfield 11, 3) := by decide +kernel
theorem dX4_bar_12 : decode cX4_bar 12 = .ok (.iload_n 3, 1) := by decide +kernel
theorem dX4_bar_13 : decode cX4_bar 13 = .ok (.aaload, 1) := by decide +kernel
theorem dX4_bar_14 : decode cX4_bar 14 = .ok (.astore 4, 2) := by decide +kernel
theorem dX4_bar_16 : decode cX4_bar 16 = .ok (.aload 4, 2) := by decide +kernel
theorem dX4_bar_18 : decode cX4_bar 18 = .ok (.ifnull 32, 3) := by decide +kernel
theorem dX4_bar_21 : decode cX4_bar 21 = .ok (.aload 4, 2) := by decide +kernel
theorem dX4_bar_23 : decode cX4_bar 23 = .ok (.getfield 17, 3) := by decide +kernel
theorem dX4_bar_26 : decode cX4_bar 26 = .ok (.iload_n 1, 1) := by decide +kernel
theorem dX4_bar_27 : decode cX4_bar 27 = .ok (.if_icmp .eq 23, 3) := by decide +kernel
theorem dX4_bar_30 : decode cX4_bar 30 = .ok (.aload 4, 2) := by decide +kernel
theorem dX4_bar_32 : decode cX4_bar 32 = .ok (.aload_n 2, 1) := by decide +kernel
theorem dX4_bar_33 : decode cX4_bar 33 = .ok (.iconst 0, 1) := by decide +kernel
theorem dX4_bar_34 : decode cX4_bar 34 = .ok (.invokevirtual 25, 3) := by decide +kernel
theorem dX4_bar_37 : decode cX4_bar 37 = .ok (.aload_n 2, 1) := by decide +kernel
theorem dX4_bar_38 : decode cX4_bar 38 = .ok (.iconst 1, 1) := by decide +kernel
theorem dX4_bar_39 : decode cX4_bar 39 = .ok (.invokevirtual 25, 3) := by decide +kernel
theorem dX4_bar_42 : decode cX4_bar 42 = .ok (.invokevirtual 31, 3) := by decide +kernel
theorem dX4_bar_45 : decode cX4_bar 45 = .ok (.ifCond .eq 5, 3) := by decide +kernel
theorem dX4_bar_48 : decode cX4_bar 48 = .ok (.iconst 1, 1) := by decide +kernel
theorem dX4_bar_49 : decode cX4_bar 49 = .ok (.ireturn, 1) := by decide +kernel
theorem dX4_bar_50 : decode cX4_bar 50 = .ok (.iinc 3 1, 3) := by decide +kernel
theorem dX4_bar_53 : decode cX4_bar 53 = .ok (.goto (-51), 3) := by decide +kernel
theorem dX4_bar_56 : decode cX4_bar 56 = .ok (.iconst 0, 1) := by decide +kernel
theorem dX4_bar_57 : decode cX4_bar 57 = .ok (.ireturn, 1) := by decide +kernel
theorem dX4_release_0 : decode cX4_release 0 = .ok (.iconst 0, 1) := by decide +kernel
theorem dX4_release_1 : decode cX4_release 1 = .ok (.istore_n 2, 1) := by decide +kernel
theorem dX4_release_2 : decode cX4_release 2 = .ok (.iload_n 2, 1) := by decide +kernel
theorem dX4_release_3 : decode cX4_release 3 = .ok (.bipush 10, 2) := by decide +kernel
theorem dX4_release_5 : decode cX4_release 5 = .ok (.if_icmp .ge 35, 3) := by decide +kernel
theorem dX4_release_8 : decode cX4_release 8 = .ok (.aload_n 0, 1) := by decide +kernel
theorem dX4_release_9 : decode cX4_release 9 = .ok (.getfield 11, 3) := by decide +kernel
theorem dX4_release_12 : decode cX4_release 12 = .ok (.iload_n 2, 1) := by decide +kernel
theorem dX4_release_13 : decode cX4_release 13 = .ok (.aaload, 1) := by decide +kernel
theorem dX4_release_14 : decode cX4_release 14 = .ok (.astore_n 3, 1) := by decide +kernel
theorem dX4_release_15 : decode cX4_release 15 = .ok (.aload_n 3, 1) := by decide +kernel
theorem dX4_release_16 : decode cX4_release 16 = .ok (.ifnull 18, 3) := by decide +kernel
theorem dX4_release_19 : decode cX4_release 19 = .ok (.aload_n 3, 1) := by decide +kernel
theorem dX4_release_20 : decode cX4_release 20 = .ok (.getfield 17, 3) := by decide +kernel
theorem dX4_release_23 : decode cX4_release 23 = .ok (.iload_n 1, 1) := by decide +kernel
theorem dX4_release_24 : decode cX4_release 24 = .ok (.if_icmp .ne 10, 3) := by decide +kernel
theorem dX4_release_27 : decode cX4_release 27 = .ok (.aload_n 0, 1) := by decide +kernel
theorem dX4_release_28 : decode cX4_release 28 = .ok (.getfield 11, 3) := by decide +kernel
theorem dX4_release_31 : decode cX4_release 31 = .ok (.iload_n 2, 1) := by decide +kernel
theorem dX4_release_32 : decode cX4_release 32 = .ok (.aconst_null, 1) := by decide +kernel
theorem dX4_release_33 : decode cX4_release 33 = .ok (.aastore, 1) := by decide +kernel
theorem dX4_release_34 : decode cX4_release 34 = .ok (.iinc 2 1, 3) := by decide +kernel
theorem dX4_release_37 : decode cX4_release 37 = .ok (.goto (-35), 3) := by decide +kernel
theorem dX4_release_40 : decode cX4_release 40 = .ok (.return_, 1) := by decide +kernel
theorem dX5_init_0 : decode cX5_init 0 = .ok (.aload_n 0, 1) := by decide +kernel
theorem dX5_init_1 : decode cX5_init 1 = .ok (.invokespecial 3, 3) := by decide +kernel
theorem dX5_init_4 : decode cX5_init 4 = .ok (.aload_n 0, 1) := by decide +kernel
theorem dX5_init_5 : decode cX5_init 5 = .ok (.bipush 6, 2) := by decide +kernel
theorem dX5_init_7 : decode cX5_init 7 = .ok (.newarray .long, 2) := by decide +kernel
theorem dX5_init_9 : decode cX5_init 9 = .ok (.putfield 9, 3) := by decide +kernel
theorem dX5_init_12 : decode cX5_init 12 = .ok (.return_, 1) := by decide +kernel
theorem dX5_value_0 : decode cX5_value 0 = .ok (.iload_n 1, 1) := by decide +kernel
theorem dX5_value_1 : decode cX5_value 1 = .ok (.ifCond .lt 9, 3) := by decide +kernel
theorem dX5_value_4 : decode cX5_value 4 = .ok (.iload_n 1, 1) := by decide +kernel
theorem dX5_value_5 : decode cX5_value 5 = .ok (.bipush 6, 2) := by decide +kernel
theorem dX5_value_7 : decode cX5_value 7 = .ok (.if_icmp .lt 7, 3) := by decide +kernel
theorem dX5_value_10 : decode cX5_value 10 = .ok (.lconst 0, 1) := by decide +kernel
theorem dX5_value_11 : decode cX5_value 11 = .ok (.goto 9, 3) := by decide +kernel
theorem dX5_value_14 : decode cX5_value 14 = .ok (.aload_n 0, 1) := by decide +kernel
theorem dX5_value_15 : decode cX5_value 15 = .ok (.getfield 9, 3) := by decide +kernel
theorem dX5_value_18 : decode cX5_value 18 = .ok (.iload_n 1, 1) := by decide +kernel
theorem dX5_value_19 : decode cX5_value 19 = .ok (.laload, 1) := by decide +kernel
theorem dX5_value_20 : decode cX5_value 20 = .ok (.lreturn, 1) := by decide +kernel
theorem dX5_with_0 : decode cX5_with 0 = .ok (.new 10, 3) := by decide +kernel
theorem dX5_with_3 : decode cX5_with 3 = .ok (.dup, 1) := by decide +kernel
theorem dX5_with_4 : decode cX5_with 4 = .ok (.invokespecial 15, 3) := by decide +kernel
theorem dX5_with_7 : decode cX5_with 7 = .ok (.astore 4, 2) := by decide +kernel
theorem dX5_with_9 : decode cX5_with 9 = .ok (.iconst 0, 1) := by decide +kernel
theorem dX5_with_10 : decode cX5_with 10 = .ok (.istore 5, 2) := by decide +kernel
theorem dX5_with_12 : decode cX5_with 12 = .ok (.iload 5, 2) := by decide +kernel
theorem dX5_with_14 : decode cX5_with 14 = .ok (.bipush 6, 2) := by decide +kernel
theorem dX5_with_16 : decode cX5_with 16 = .ok (.if_icmp .ge 34, 3) := by decide +kernel
theorem dX5_with_19 : decode cX5_with 19 = .ok (.aload 4, 2) := by decide +kernel
theorem dX5_with_21 : decode cX5_with 21 = .ok (.getfield 9, 3) := by decide +kernel
theorem dX5_with_24 : decode cX5_with 24 = .ok (.iload 5, 2) := by decide +kernel
theorem dX5_with_26 : decode cX5_with 26 = .ok (.iload 5, 2) := by decide +kernel
theorem dX5_with_28 : decode cX5_with 28 = .ok (.iload_n 1, 1) := by decide +kernel
theorem dX5_with_29 : decode cX5_with 29 = .ok (.if_icmp .ne 7, 3) := by decide +kernel
theorem dX5_with_32 : decode cX5_with 32 = .ok (.lload_n 2, 1) := by decide +kernel
theorem dX5_with_33 : decode cX5_with 33 = .ok (.goto 10, 3) := by decide +kernel
theorem dX5_with_36 : decode cX5_with 36 = .ok (.aload_n 0, 1) := by decide +kernel
theorem dX5_with_37 : decode cX5_with 37 = .ok (.getfield 9, 3) := by decide +kernel
theorem dX5_with_40 : decode cX5_with 40 = .ok (.iload 5, 2) := by decide +kernel
theorem dX5_with_42 : decode cX5_with 42 = .ok (.laload, 1) := by decide +kernel
theorem dX5_with_43 : decode cX5_with 43 = .ok (.lastore, 1) := by decide +kernel
theorem dX5_with_44 : decode cX5_with 44 = .ok (.iinc 5 1, 3) := by decide +kernel
theorem dX5_with_47 : decode cX5_with 47 = .ok (.goto (-35), 3) := by decide +kernel
theorem dX5_with_50 : decode cX5_with 50 = .ok (.aload 4, 2) := by decide +kernel
theorem dX5_with_52 : decode cX5_with 52 = .ok (.areturn, 1) := by decide +kernel
theorem dX5_alike_0 : decode cX5_alike 0 = .ok (.aload_n 0, 1) := by decide +kernel
theorem dX5_alike_1 : decode cX5_alike 1 = .ok (.aload_n 1, 1) := by decide +kernel
theorem dX5_alike_2 : decode cX5_alike 2 = .ok (.if_acmp .ne 5, 3) := by decide +kernel
theorem dX5_alike_5 : decode cX5_alike 5 = .ok (.iconst 1, 1) := by decide +kernel
theorem dX5_alike_6 : decode cX5_alike 6 = .ok (.ireturn, 1) := by decide +kernel
theorem dX5_alike_7 : decode cX5_alike 7 = .ok (.aload_n 0, 1) := by decide +kernel
theorem dX5_alike_8 : decode cX5_alike 8 = .ok (.ifnull 7, 3) := by decide +kernel
theorem dX5_alike_11 : decode cX5_alike 11 = .ok (.aload_n 1, 1) := by decide +kernel
theorem dX5_alike_12 : decode cX5_alike 12 = .ok (.ifnonnull 5, 3) := by decide +kernel
theorem dX5_alike_15 : decode cX5_alike 15 = .ok (.iconst 0, 1) := by decide +kernel
theorem dX5_alike_16 : decode cX5_alike 16 = .ok (.ireturn, 1) := by decide +kernel
theorem dX5_alike_17 : decode cX5_alike 17 = .ok (.iconst 0, 1) := by decide +kernel
theorem dX5_alike_18 : decode cX5_alike 18 = .ok (.istore_n 2, 1) := by decide +kernel
theorem dX5_alike_19 : decode cX5_alike 19 = .ok (.iload_n 2, 1) := by decide +kernel
theorem dX5_alike_20 : decode cX5_alike 20 = .ok (.bipush 6, 2) := by decide +kernel
theorem dX5_alike_22 : decode cX5_alike 22 = .ok (.if_icmp .ge 27, 3) := by decide +kernel
theorem dX5_alike_25 : decode cX5_alike 25 = .ok (.aload_n 0, 1) := by decide +kernel
theorem dX5_alike_26 : decode cX5_alike 26 = .ok (.getfield 9, 3) := by decide +kernel
theorem dX5_alike_29 : decode cX5_alike 29 = .ok (.iload_n 2, 1) := by decide +kernel
theorem dX5_alike_30 : decode cX5_alike 30 = .ok (.laload, 1) := by decide +kernel
theorem dX5_alike_31 : decode cX5_alike 31 = .ok (.aload_n 1, 1) := by decide +kernel
theorem dX5_alike_32 : decode cX5_alike 32 = .ok (.getfield 9, 3) := by decide +kernel
theorem dX5_alike_35 : decode cX5_alike 35 = .ok (.iload_n 2, 1) := by decide +kernel
theorem dX5_alike_36 : decode cX5_alike 36 = .ok (.laload, 1) := by decide +kernel
theorem dX5_alike_37 : decode cX5_alike 37 = .ok (.lcmp, 1) := by decide +kernel
theorem dX5_alike_38 : decode cX5_alike 38 = .ok (.ifCond .eq 5, 3) := by decide +kernel
theorem dX5_alike_41 : decode cX5_alike 41 = .ok (.iconst 0, 1) := by decide +kernel
theorem dX5_alike_42 : decode cX5_alike 42 = .ok (.ireturn, 1) := by decide +kernel
theorem dX5_alike_43 : decode cX5_alike 43 = .ok (.iinc 2 1, 3) := by decide +kernel
theorem dX5_alike_46 : decode cX5_alike 46 = .ok (.goto (-27), 3) := by decide +kernel
theorem dX5_alike_49 : decode cX5_alike 49 = .ok (.iconst 1, 1) := by decide +kernel
theorem dX5_alike_50 : decode cX5_alike 50 = .ok (.ireturn, 1) := by decide +kernel
theorem dX5_differ_0 : decode cX5_differ 0 = .ok (.aload_n 0, 1) := by decide +kernel
theorem dX5_differ_1 : decode cX5_differ 1 = .ok (.ifnull 7, 3) := by decide +kernel
theorem dX5_differ_4 : decode cX5_differ 4 = .ok (.aload_n 1, 1) := by decide +kernel
theorem dX5_differ_5 : decode cX5_differ 5 = .ok (.ifnonnull 20, 3) := by decide +kernel
theorem dX5_differ_8 : decode cX5_differ 8 = .ok (.iload_n 2, 1) := by decide +kernel
theorem dX5_differ_9 : decode cX5_differ 9 = .ok (.bipush 6, 2) := by decide +kernel
theorem dX5_differ_11 : decode cX5_differ 11 = .ok (.if_icmp .ne 12, 3) := by decide +kernel
theorem dX5_differ_14 : decode cX5_differ 14 = .ok (.aload_n 0, 1) := by decide +kernel
theorem dX5_differ_15 : decode cX5_differ 15 = .ok (.aload_n 1, 1) := by decide +kernel
theorem dX5_differ_16 : decode cX5_differ 16 = .ok (.if_acmp .eq 7, 3) := by decide +kernel
theorem dX5_differ_19 : decode cX5_differ 19 = .ok (.iconst 1, 1) := by decide +kernel
theorem dX5_differ_20 : decode cX5_differ 20 = .ok (.goto 4, 3) := by decide +kernel
theorem dX5_differ_23 : decode cX5_differ 23 = .ok (.iconst 0, 1) := by decide +kernel
theorem dX5_differ_24 : decode cX5_differ 24 = .ok (.ireturn, 1) := by decide +kernel
theorem dX5_differ_25 : decode cX5_differ 25 = .ok (.iload_n 2, 1) := by decide +kernel
theorem dX5_differ_26 : decode cX5_differ 26 = .ok (.ifCond .lt 29, 3) := by decide +kernel
theorem dX5_differ_29 : decode cX5_differ 29 = .ok (.iload_n 2, 1) := by decide +kernel
theorem dX5_differ_30 : decode cX5_differ 30 = .ok (.bipush 6, 2) := by decide +kernel
theorem dX5_differ_32 : decode cX5_differ 32 = .ok (.if_icmp .ge 23, 3) := by decide +kernel
theorem dX5_differ_35 : decode cX5_differ 35 = .ok (.aload_n 0, 1) := by decide +kernel
theorem dX5_differ_36 : decode cX5_differ 36 = .ok (.getfield 9, 3) := by decide +kernel
theorem dX5_differ_39 : decode cX5_differ 39 = .ok (.iload_n 2, 1) := by decide +kernel
theorem dX5_differ_40 : decode cX5_differ 40 = .ok (.laload, 1) := by decide +kernel
theorem dX5_differ_41 : decode cX5_differ 41 = .ok (.aload_n 1, 1) := by decide +kernel
theorem dX5_differ_42 : decode cX5_differ 42 = .ok (.getfield 9, 3) := by decide +kernel
theorem dX5_differ_45 : decode cX5_differ 45 = .ok (.iload_n 2, 1) := by decide +kernel
theorem dX5_differ_46 : decode cX5_differ 46 = .ok (.laload, 1) := by decide +kernel
theorem dX5_differ_47 : decode cX5_differ 47 = .ok (.lcmp, 1) := by decide +kernel
theorem dX5_differ_48 : decode cX5_differ 48 = .ok (.ifCond .eq 7, 3) := by decide +kernel
theorem dX5_differ_51 : decode cX5_differ 51 = .ok (.iconst 1, 1) := by decide +kernel
theorem dX5_differ_52 : decode cX5_differ 52 = .ok (.goto 4, 3) := by decide +kernel
theorem dX5_differ_55 : decode cX5_differ 55 = .ok (.iconst 0, 1) := by decide +kernel
theorem dX5_differ_56 : decode cX5_differ 56 = .ok (.ireturn, 1) := by decide +kernel
theorem dX6_init_0 : decode cX6_init 0 = .ok (.aload_n 0, 1) := by decide +kernel
theorem dX6_init_1 : decode cX6_init 1 = .ok (.invokespecial 3, 3) := by decide +kernel
theorem dX6_init_4 : decode cX6_init 4 = .ok (.aload_n 0, 1) := by decide +kernel
theorem dX6_init_5 : decode cX6_init 5 = .ok (.iload_n 1, 1) := by decide +kernel
theorem dX6_init_6 : decode cX6_init 6 = .ok (.putfield 9, 3) := by decide +kernel
theorem dX6_init_9 : decode cX6_init 9 = .ok (.aload_n 0, 1) := by decide +kernel
theorem dX6_init_10 : decode cX6_init 10 = .ok (.iload_n 2, 1) := by decide +kernel
theorem dX6_init_11 : decode cX6_init 11 = .ok (.putfield 15, 3) := by decide +kernel
theorem dX6_init_14 : decode cX6_init 14 = .ok (.aload_n 0, 1) := by decide +kernel
theorem dX6_init_15 : decode cX6_init 15 = .ok (.lload_n 3, 1) := by decide +kernel
theorem dX6_init_16 : decode cX6_init 16 = .ok (.putfield 18, 3) := by decide +kernel
theorem dX6_init_19 : decode cX6_init 19 = .ok (.return_, 1) := by decide +kernel
theorem dX6_brokenIn_0 : decode cX6_brokenIn 0 = .ok (.aload_n 1, 1) := by decide +kernel
theorem dX6_brokenIn_1 : decode cX6_brokenIn 1 = .ok (.aload_n 0, 1) := by decide +kernel
theorem dX6_brokenIn_2 : decode cX6_brokenIn 2 = .ok (.getfield 9, 3) := by decide +kernel
theorem dX6_brokenIn_5 : decode cX6_brokenIn 5 = .ok (.invokevirtual 22, 3) := by decide +kernel
theorem dX6_brokenIn_8 : decode cX6_brokenIn 8 = .ok (.astore_n 2, 1) := by decide +kernel
theorem dX6_brokenIn_9 : decode cX6_brokenIn 9 = .ok (.aload_n 1, 1) := by decide +kernel
theorem dX6_brokenIn_10 : decode cX6_brokenIn 10 = .ok (.aload_n 0, 1) := by decide +kernel
theorem dX6_brokenIn_11 : decode cX6_brokenIn 11 = .ok (.getfield 15, 3) := by decide +kernel
theorem dX6_brokenIn_14 : decode cX6_brokenIn 14 = .ok (.invokevirtual 22, 3) := by decide +kernel
theorem dX6_brokenIn_17 : decode cX6_brokenIn 17 = .ok (.astore_n 3, 1) := by decide +kernel
theorem dX6_brokenIn_18 : decode cX6_brokenIn 18 = .ok (.aload_n 2, 1) := by decide +kernel
theorem dX6_brokenIn_19 : decode cX6_brokenIn 19 = .ok (.ifnull 7, 3) := by decide +kernel
theorem dX6_brokenIn_22 : decode cX6_brokenIn 22 = .ok (.aload_n 3, 1) := by decide +kernel
theorem dX6_brokenIn_23 : decode cX6_brokenIn 23 = .ok (.ifnonnull 5, 3) := by decide +kernel
theorem dX6_brokenIn_26 : decode cX6_brokenIn 26 = .ok (.iconst 0, 1) := by decide +kernel
theorem dX6_brokenIn_27 : decode cX6_brokenIn 27 = .ok (.ireturn, 1) := by decide +kernel
theorem dX6_brokenIn_28 : decode cX6_brokenIn 28 = .ok (.aload_n 2, 1) := by decide +kernel
theorem dX6_brokenIn_29 : decode cX6_brokenIn 29 = .ok (.iconst 0, 1) := by decide +kernel
theorem dX6_brokenIn_30 : decode cX6_brokenIn 30 = .ok (.invokevirtual 28, 3) := by decide +kernel
theorem dX6_brokenIn_33 : decode cX6_brokenIn 33 = .ok (.aload_n 3, 1) := by decide +kernel
theorem dX6_brokenIn_34 : decode cX6_brokenIn 34 = .ok (.iconst 0, 1) := by decide +kernel
theorem dX6_brokenIn_35 : decode cX6_brokenIn 35 = .ok (.invokevirtual 28, 3) := by decide +kernel
theorem dX6_brokenIn_38 : decode cX6_brokenIn 38 = .ok (.invokestatic 34, 3) := by decide +kernel
theorem dX6_brokenIn_41 : decode cX6_brokenIn 41 = .ok (.aload_n 2, 1) := by decide +kernel
theorem dX6_brokenIn_42 : decode cX6_brokenIn 42 = .ok (.iconst 1, 1) := by decide +kernel
theorem dX6_brokenIn_43 : decode cX6_brokenIn 43 = .ok (.invokevirtual 28, 3) := by decide +kernel
theorem dX6_brokenIn_46 : decode cX6_brokenIn 46 = .ok (.aload_n 3, 1) := by decide +kernel
theorem dX6_brokenIn_47 : decode cX6_brokenIn 47 = .ok (.iconst 1, 1) := by decide +kernel
theorem dX6_brokenIn_48 : decode cX6_brokenIn 48 = .ok (.invokevirtual 28, 3) := by decide +kernel
theorem dX6_brokenIn_51 : decode cX6_brokenIn 51 = .ok (.invokestatic 34, 3) := by decide +kernel
theorem dX6_brokenIn_54 : decode cX6_brokenIn 54 = .ok (.ladd, 1) := by decide +kernel
theorem dX6_brokenIn_55 : decode cX6_brokenIn 55 = .ok (.aload_n 0, 1) := by decide +kernel
theorem dX6_brokenIn_56 : decode cX6_brokenIn 56 = .ok (.getfield 18, 3) := by decide +kernel
theorem dX6_brokenIn_59 : decode cX6_brokenIn 59 = .ok (.lcmp, 1) := by decide +kernel
theorem dX6_brokenIn_60 : decode cX6_brokenIn 60 = .ok (.ifCond .ge 7, 3) := by decide +kernel
theorem dX6_brokenIn_63 : decode cX6_brokenIn 63 = .ok (.iconst 1, 1) := by decide +kernel
theorem dX6_brokenIn_64 : decode cX6_brokenIn 64 = .ok (.goto 4, 3) := by decide +kernel
theorem dX6_brokenIn_67 : decode cX6_brokenIn 67 = .ok (.iconst 0, 1) := by decide +kernel
theorem dX6_brokenIn_68 : decode cX6_brokenIn 68 = .ok (.ireturn, 1) := by decide +kernel
theorem dX6_gap_0 : decode cX6_gap 0 = .ok (.lload_n 0, 1) := by decide +kernel
theorem dX6_gap_1 : decode cX6_gap 1 = .ok (.lload_n 2, 1) := by decide +kernel
theorem dX6_gap_2 : decode cX6_gap 2 = .ok (.invokestatic 38, 3) := by decide +kernel
theorem dX6_gap_5 : decode cX6_gap 5 = .ok (.lload_n 0, 1) := by decide +kernel
theorem dX6_gap_6 : decode cX6_gap 6 = .ok (.lload_n 2, 1) := by decide +kernel
theorem dX6_gap_7 : decode cX6_gap 7 = .ok (.invokestatic 43, 3) := by decide +kernel
theorem dX6_gap_10 : decode cX6_gap 10 = .ok (.lsub, 1) := by decide +kernel
theorem dX6_gap_11 : decode cX6_gap 11 = .ok (.lstore 4, 2) := by decide +kernel
theorem dX6_gap_13 : decode cX6_gap 13 = .ok (.lload 4, 2) := by decide +kernel
theorem dX6_gap_15 : decode cX6_gap 15 = .ok (.lconst 0, 1) := by decide +kernel
theorem dX6_gap_16 : decode cX6_gap 16 = .ok (.lcmp, 1) := by decide +kernel
theorem dX6_gap_17 : decode cX6_gap 17 = .ok (.ifCond .ge 9, 3) := by decide +kernel
theorem dX6_gap_20 : decode cX6_gap 20 = .ok (.ldc2_w 46, 3) := by decide +kernel
theorem dX6_gap_23 : decode cX6_gap 23 = .ok (.goto 11, 3) := by decide +kernel
theorem dX6_gap_26 : decode cX6_gap 26 = .ok (.lload 4, 2) := by decide +kernel
theorem dX6_gap_28 : decode cX6_gap 28 = .ok (.ldc2_w 46, 3) := by decide +kernel
theorem dX6_gap_31 : decode cX6_gap 31 = .ok (.invokestatic 43, 3) := by decide +kernel
theorem dX6_gap_34 : decode cX6_gap 34 = .ok (.lreturn, 1) := by decide +kernel
theorem dX7_init_0 : decode cX7_init 0 = .ok (.aload_n 0, 1) := by decide +kernel
theorem dX7_init_1 : decode cX7_init 1 = .ok (.invokespecial 3, 3) := by decide +kernel
theorem dX7_init_4 : decode cX7_init 4 = .ok (.aload_n 0, 1) := by decide +kernel
theorem dX7_init_5 : decode cX7_init 5 = .ok (.iconst 1, 1) := by decide +kernel
theorem dX7_init_6 : decode cX7_init 6 = .ok (.putfield 9, 3) := by decide +kernel
theorem dX7_init_9 : decode cX7_init 9 = .ok (.aload_n 0, 1) := by decide +kernel
theorem dX7_init_10 : decode cX7_init 10 = .ok (.new 15, 3) := by decide +kernel
theorem dX7_init_13 : decode cX7_init 13 = .ok (.dup, 1) := by decide +kernel
theorem dX7_init_14 : decode cX7_init 14 = .ok (.invokespecial 17, 3) := by decide +kernel
theorem dX7_init_17 : decode cX7_init 17 = .ok (.putfield 18, 3) := by decide +kernel
theorem dX7_init_20 : decode cX7_init 20 = .ok (.aload_n 0, 1) := by decide +kernel
theorem dX7_init_21 : decode cX7_init 21 = .ok (.sipush 420, 3) := by decide +kernel
theorem dX7_init_24 : decode cX7_init 24 = .ok (.newarray .byte, 2) := by decide +kernel
theorem dX7_init_26 : decode cX7_init 26 = .ok (.putfield 22, 3) := by decide +kernel
theorem dX7_init_29 : decode cX7_init 29 = .ok (.aload_n 0, 1) := by decide +kernel
theorem dX7_init_30 : decode cX7_init 30 = .ok (.iload_n 1, 1) := by decide +kernel
theorem dX7_init_31 : decode cX7_init 31 = .ok (.putfield 26, 3) := by decide +kernel
theorem dX7_init_34 : decode cX7_init 34 = .ok (.aload_n 0, 1) := by decide +kernel
theorem dX7_init_35 : decode cX7_init 35 = .ok (.aload_n 2, 1) := by decide +kernel
theorem dX7_init_36 : decode cX7_init 36 = .ok (.putfield 30, 3) := by decide +kernel
theorem dX7_init_39 : decode cX7_init 39 = .ok (.aload_n 0, 1) := by decide +kernel
theorem dX7_init_40 : decode cX7_init 40 = .ok (.aload_n 2, 1) := by decide +kernel
theorem dX7_init_41 : decode cX7_init 41 = .ok (.invokevirtual 34, 3) := by decide +kernel
theorem dX7_init_44 : decode cX7_init 44 = .ok (.putfield 40, 3) := by decide +kernel
theorem dX7_init_47 : decode cX7_init 47 = .ok (.return_, 1) := by decide +kernel
theorem dX7_change_0 : decode cX7_change 0 = .ok (.aload_n 0, 1) := by decide +kernel
theorem dX7_change_1 : decode cX7_change 1 = .ok (.getfield 18, 3) := by decide +kernel
theorem dX7_change_4 : decode cX7_change 4 = .ok (.iload_n 1, 1) := by decide +kernel
theorem dX7_change_5 : decode cX7_change 5 = .ok (.aload_n 0, 1) := by decide +kernel
theorem dX7_change_6 : decode cX7_change 6 = .ok (.getfield 40, 3) := by decide +kernel
theorem dX7_change_9 : decode cX7_change 9 = .ok (.iload_n 1, 1) := by decide +kernel
theorem dX7_change_10 : decode cX7_change 10 = .ok (.invokevirtual 43, 3) := by decide +kernel
theorem dX7_change_13 : decode cX7_change 13 = .ok (.invokevirtual 47, 3) := by decide +kernel
theorem dX7_change_16 : decode cX7_change 16 = .ok (.aload_n 0, 1) := by decide +kernel
theorem dX7_change_17 : decode cX7_change 17 = .ok (.getfield 40, 3) := by decide +kernel
theorem dX7_change_20 : decode cX7_change 20 = .ok (.iload_n 1, 1) := by decide +kernel
theorem dX7_change_21 : decode cX7_change 21 = .ok (.aload_n 2, 1) := by decide +kernel
theorem dX7_change_22 : decode cX7_change 22 = .ok (.invokevirtual 51, 3) := by decide +kernel
theorem dX7_change_25 : decode cX7_change 25 = .ok (.return_, 1) := by decide +kernel
theorem dX7_takeBack_0 : decode cX7_takeBack 0 = .ok (.aload_n 0, 1) := by decide +kernel
theorem dX7_takeBack_1 : decode cX7_takeBack 1 = .ok (.getfield 18, 3) := by decide +kernel
theorem dX7_takeBack_4 : decode cX7_takeBack 4 = .ok (.invokevirtual 54, 3) := by decide +kernel
theorem dX7_takeBack_7 : decode cX7_takeBack 7 = .ok (.ifCond .ne 5, 3) := by decide +kernel
theorem dX7_takeBack_10 : decode cX7_takeBack 10 = .ok (.iconst 0, 1) := by decide +kernel
theorem dX7_takeBack_11 : decode cX7_takeBack 11 = .ok (.ireturn, 1) := by decide +kernel
theorem dX7_takeBack_12 : decode cX7_takeBack 12 = .ok (.aload_n 0, 1) := by decide +kernel
theorem dX7_takeBack_13 : decode cX7_takeBack 13 = .ok (.getfield 40, 3) := by decide +kernel
theorem dX7_takeBack_16 : decode cX7_takeBack 16 = .ok (.aload_n 0, 1) := by decide +kernel
theorem dX7_takeBack_17 : decode cX7_takeBack 17 = .ok (.getfield 18, 3) := by decide +kernel
theorem dX7_takeBack_20 : decode cX7_takeBack 20 = .ok (.invokevirtual 58, 3) := by decide +kernel
theorem dX7_takeBack_23 : decode cX7_takeBack 23 = .ok (.aload_n 0, 1) := by decide +kernel
theorem dX7_takeBack_24 : decode cX7_takeBack 24 = .ok (.getfield 18, 3) := by decide +kernel
theorem dX7_takeBack_27 : decode cX7_takeBack 27 = .ok (.invokevirtual 62, 3) := by decide +kernel
theorem dX7_takeBack_30 : decode cX7_takeBack 30 = .ok (.invokevirtual 51, 3) := by decide +kernel
theorem dX7_takeBack_33 : decode cX7_takeBack 33 = .ok (.iconst 1, 1) := by decide +kernel
theorem dX7_takeBack_34 : decode cX7_takeBack 34 = .ok (.ireturn, 1) := by decide +kernel
theorem dX7_sideOf_0 : decode cX7_sideOf 0 = .ok (.iload_n 1, 1) := by decide +kernel
theorem dX7_sideOf_1 : decode cX7_sideOf 1 = .ok (.bipush 7, 2) := by decide +kernel
theorem dX7_sideOf_3 : decode cX7_sideOf 3 = .ok (.imul, 1) := by decide +kernel
theorem dX7_sideOf_4 : decode cX7_sideOf 4 = .ok (.iload_n 2, 1) := by decide +kernel
theorem dX7_sideOf_5 : decode cX7_sideOf 5 = .ok (.iadd, 1) := by decide +kernel
theorem dX7_sideOf_6 : decode cX7_sideOf 6 = .ok (.istore_n 3, 1) := by decide +kernel
theorem dX7_sideOf_7 : decode cX7_sideOf 7 = .ok (.iload_n 3, 1) := by decide +kernel
theorem dX7_sideOf_8 : decode cX7_sideOf 8 = .ok (.ifCond .lt 12, 3) := by decide +kernel
theorem dX7_sideOf_11 : decode cX7_sideOf 11 = .ok (.iload_n 3, 1) := by decide +kernel
theorem dX7_sideOf_12 : decode cX7_sideOf 12 = .ok (.aload_n 0, 1) := by decide +kernel
theorem dX7_sideOf_13 : decode cX7_sideOf 13 = .ok (.getfield 22, 3) := by decide +kernel
theorem dX7_sideOf_16 : decode cX7_sideOf 16 = .ok (.arraylength, 1) := by decide +kernel
theorem dX7_sideOf_17 : decode cX7_sideOf 17 = .ok (.if_icmp .lt 7, 3) := by decide +kernel
theorem dX7_sideOf_20 : decode cX7_sideOf 20 = .ok (.iconst (-1), 1) := by decide +kernel
theorem dX7_sideOf_21 : decode cX7_sideOf 21 = .ok (.goto 11, 3) := by decide +kernel
theorem dX7_sideOf_24 : decode cX7_sideOf 24 = .ok (.aload_n 0, 1) := by decide +kernel
theorem dX7_sideOf_25 : decode cX7_sideOf 25 = .ok (.getfield 22, 3) := by decide +kernel
theorem dX7_sideOf_28 : decode cX7_sideOf 28 = .ok (.iload_n 3, 1) := by decide +kernel
theorem dX7_sideOf_29 : decode cX7_sideOf 29 = .ok (.baload, 1) := by decide +kernel
theorem dX7_sideOf_30 : decode cX7_sideOf 30 = .ok (.iconst 1, 1) := by decide +kernel
theorem dX7_sideOf_31 : decode cX7_sideOf 31 = .ok (.isub, 1) := by decide +kernel
theorem dX7_sideOf_32 : decode cX7_sideOf 32 = .ok (.ireturn, 1) := by decide +kernel
theorem dX7_choose_0 : decode cX7_choose 0 = .ok (.iload_n 1, 1) := by decide +kernel
theorem dX7_choose_1 : decode cX7_choose 1 = .ok (.bipush 7, 2) := by decide +kernel
theorem dX7_choose_3 : decode cX7_choose 3 = .ok (.imul, 1) := by decide +kernel
theorem dX7_choose_4 : decode cX7_choose 4 = .ok (.iload_n 2, 1) := by decide +kernel
theorem dX7_choose_5 : decode cX7_choose 5 = .ok (.iadd, 1) := by decide +kernel
theorem dX7_choose_6 : decode cX7_choose 6 = .ok (.istore 4, 2) := by decide +kernel
theorem dX7_choose_8 : decode cX7_choose 8 = .ok (.iload 4, 2) := by decide +kernel
theorem dX7_choose_10 : decode cX7_choose 10 = .ok (.ifCond .lt 24, 3) := by decide +kernel
theorem dX7_choose_13 : decode cX7_choose 13 = .ok (.iload 4, 2) := by decide +kernel
theorem dX7_choose_15 : decode cX7_choose 15 = .ok (.aload_n 0, 1) := by decide +kernel
theorem dX7_choose_16 : decode cX7_choose 16 = .ok (.getfield 22, 3) := by decide +kernel
theorem dX7_choose_19 : decode cX7_choose 19 = .ok (.arraylength, 1) := by decide +kernel
theorem dX7_choose_20 : decode cX7_choose 20 = .ok (.if_icmp .ge 14, 3) := by decide +kernel
theorem dX7_choose_23 : decode cX7_choose 23 = .ok (.aload_n 0, 1) := by decide +kernel
theorem dX7_choose_24 : decode cX7_choose 24 = .ok (.getfield 22, 3) := by decide +kernel
theorem dX7_choose_27 : decode cX7_choose 27 = .ok (.iload 4, 2) := by decide +kernel
theorem dX7_choose_29 : decode cX7_choose 29 = .ok (.iload_n 3, 1) := by decide +kernel
theorem dX7_choose_30 : decode cX7_choose 30 = .ok (.iconst 1, 1) := by decide +kernel
theorem dX7_choose_31 : decode cX7_choose 31 = .ok (.iadd, 1) := by decide +kernel
theorem dX7_choose_32 : decode cX7_choose 32 = .ok (.i2b, 1) := by decide +kernel
theorem dX7_choose_33 : decode cX7_choose 33 = .ok (.bastore, 1) := by decide +kernel
theorem dX7_choose_34 : decode cX7_choose 34 = .ok (.return_, 1) := by decide +kernel
theorem dX7_changed_0 : decode cX7_changed 0 = .ok (.aload_n 0, 1) := by decide +kernel
theorem dX7_changed_1 : decode cX7_changed 1 = .ok (.getfield 30, 3) := by decide +kernel
theorem dX7_changed_4 : decode cX7_changed 4 = .ok (.iload_n 1, 1) := by decide +kernel
theorem dX7_changed_5 : decode cX7_changed 5 = .ok (.invokevirtual 43, 3) := by decide +kernel
theorem dX7_changed_8 : decode cX7_changed 8 = .ok (.aload_n 0, 1) := by decide +kernel
theorem dX7_changed_9 : decode cX7_changed 9 = .ok (.getfield 40, 3) := by decide +kernel
theorem dX7_changed_12 : decode cX7_changed 12 = .ok (.iload_n 1, 1) := by decide +kernel
theorem dX7_changed_13 : decode cX7_changed 13 = .ok (.invokevirtual 43, 3) := by decide +kernel
theorem dX7_changed_16 : decode cX7_changed 16 = .ok (.invokestatic 66, 3) := by decide +kernel
theorem dX7_changed_19 : decode cX7_changed 19 = .ok (.ifCond .ne 7, 3) := by decide +kernel
theorem dX7_changed_22 : decode cX7_changed 22 = .ok (.iconst 1, 1) := by decide +kernel
theorem dX7_changed_23 : decode cX7_changed 23 = .ok (.goto 4, 3) := by decide +kernel
theorem dX7_changed_26 : decode cX7_changed 26 = .ok (.iconst 0, 1) := by decide +kernel
theorem dX7_changed_27 : decode cX7_changed 27 = .ok (.ireturn, 1) := by decide +kernel
theorem dX7_clashes_0 : decode cX7_clashes 0 = .ok (.aload_n 0, 1) := by decide +kernel
theorem dX7_clashes_1 : decode cX7_clashes 1 = .ok (.getfield 30, 3) := by decide +kernel
theorem dX7_clashes_4 : decode cX7_clashes 4 = .ok (.iload_n 1, 1) := by decide +kernel
theorem dX7_clashes_5 : decode cX7_clashes 5 = .ok (.invokevirtual 43, 3) := by decide +kernel
theorem dX7_clashes_8 : decode cX7_clashes 8 = .ok (.astore 4, 2) := by decide +kernel
theorem dX7_clashes_10 : decode cX7_clashes 10 = .ok (.aload_n 0, 1) := by decide +kernel
theorem dX7_clashes_11 : decode cX7_clashes 11 = .ok (.getfield 40, 3) := by decide +kernel
theorem dX7_clashes_14 : decode cX7_clashes 14 = .ok (.iload_n 1, 1) := by decide +kernel
theorem dX7_clashes_15 : decode cX7_clashes 15 = .ok (.invokevirtual 43, 3) := by decide +kernel
theorem dX7_clashes_18 : decode cX7_clashes 18 = .ok (.astore 5, 2) := by decide +kernel
theorem dX7_clashes_20 : decode cX7_clashes 20 = .ok (.aload_n 3, 1) := by decide +kernel
theorem dX7_clashes_21 : decode cX7_clashes 21 = .ok (.iload_n 1, 1) := by decide +kernel
theorem dX7_clashes_22 : decode cX7_clashes 22 = .ok (.invokevirtual 43, 3) := by decide +kernel
theorem dX7_clashes_25 : decode cX7_clashes 25 = .ok (.astore 6, 2) := by decide +kernel
theorem dX7_clashes_27 : decode cX7_clashes 27 = .ok (.aload 4, 2) := by decide +kernel
theorem dX7_clashes_29 : decode cX7_clashes 29 = .ok (.ifnonnull 5, 3) := by decide +kernel
theorem dX7_clashes_32 : decode cX7_clashes 32 = .ok (.iconst 0, 1) := by decide +kernel
theorem dX7_clashes_33 : decode cX7_clashes 33 = .ok (.ireturn, 1) := by decide +kernel
theorem dX7_clashes_34 : decode cX7_clashes 34 = .ok (.iload_n 2, 1) := by decide +kernel
theorem dX7_clashes_35 : decode cX7_clashes 35 = .ok (.bipush 6, 2) := by decide +kernel
theorem dX7_clashes_37 : decode cX7_clashes 37 = .ok (.if_icmp .ne 42, 3) := by decide +kernel
theorem dX7_clashes_40 : decode cX7_clashes 40 = .ok (.aload 5, 2) := by decide +kernel
theorem dX7_clashes_42 : decode cX7_clashes 42 = .ok (.ifnonnull 26, 3) := by decide +kernel
theorem dX7_clashes_45 : decode cX7_clashes 45 = .ok (.aload 6, 2) := by decide +kernel
theorem dX7_clashes_47 : decode cX7_clashes 47 = .ok (.ifnull 17, 3) := by decide +kernel
theorem dX7_clashes_50 : decode cX7_clashes 50 = .ok (.aload 6, 2) := by decide +kernel
theorem dX7_clashes_52 : decode cX7_clashes 52 = .ok (.aload 4, 2) := by decide +kernel
theorem dX7_clashes_54 : decode cX7_clashes 54 = .ok (.invokestatic 66, 3) := by decide +kernel
theorem dX7_clashes_57 : decode cX7_clashes 57 = .ok (.ifCond .ne 7, 3) := by decide +kernel
theorem dX7_clashes_60 : decode cX7_clashes 60 = .ok (.iconst 1, 1) := by decide +kernel
theorem dX7_clashes_61 : decode cX7_clashes 61 = .ok (.goto 17, 3) := by decide +kernel
theorem dX7_clashes_64 : decode cX7_clashes 64 = .ok (.iconst 0, 1) := by decide +kernel
theorem dX7_clashes_65 : decode cX7_clashes 65 = .ok (.goto 13, 3) := by decide +kernel
theorem dX7_clashes_68 : decode cX7_clashes 68 = .ok (.aload 6, 2) := by decide +kernel
theorem dX7_clashes_70 : decode cX7_clashes 70 = .ok (.ifnonnull 7, 3) := by decide +kernel
theorem dX7_clashes_73 : decode cX7_clashes 73 = .ok (.iconst 1, 1) := by decide +kernel
theorem dX7_clashes_74 : decode cX7_clashes 74 = .ok (.goto 4, 3) := by decide +kernel
theorem dX7_clashes_77 : decode cX7_clashes 77 = .ok (.iconst 0, 1) := by decide +kernel
theorem dX7_clashes_78 : decode cX7_clashes 78 = .ok (.ireturn, 1) := by decide +kernel
theorem dX7_clashes_79 : decode cX7_clashes 79 = .ok (.aload 5, 2) := by decide +kernel
theorem dX7_clashes_81 : decode cX7_clashes 81 = .ok (.aload 4, 2) := by decide +kernel
theorem dX7_clashes_83 : decode cX7_clashes 83 = .ok (.iload_n 2, 1) := by decide +kernel
theorem dX7_clashes_84 : decode cX7_clashes 84 = .ok (.invokestatic 72, 3) := by decide +kernel
theorem dX7_clashes_87 : decode cX7_clashes 87 = .ok (.ifCond .eq 29, 3) := by decide +kernel
theorem dX7_clashes_90 : decode cX7_clashes 90 = .ok (.aload 6, 2) := by decide +kernel
theorem dX7_clashes_92 : decode cX7_clashes 92 = .ok (.aload 4, 2) := by decide +kernel
theorem dX7_clashes_94 : decode cX7_clashes 94 = .ok (.iload_n 2, 1) := by decide +kernel
theorem dX7_clashes_95 : decode cX7_clashes 95 = .ok (.invokestatic 72, 3) := by decide +kernel
theorem dX7_clashes_98 : decode cX7_clashes 98 = .ok (.ifCond .eq 18, 3) := by decide +kernel
theorem dX7_clashes_101 : decode cX7_clashes 101 = .ok (.aload 6, 2) := by decide +kernel
theorem dX7_clashes_103 : decode cX7_clashes 103 = .ok (.aload 5, 2) := by decide +kernel
theorem dX7_clashes_105 : decode cX7_clashes 105 = .ok (.iload_n 2, 1) := by decide +kernel
theorem dX7_clashes_106 : decode cX7_clashes 106 = .ok (.invokestatic 72, 3) := by decide +kernel
theorem dX7_clashes_109 : decode cX7_clashes 109 = .ok (.ifCond .eq 7, 3) := by decide +kernel
theorem dX7_clashes_112 : decode cX7_clashes 112 = .ok (.iconst 1, 1) := by decide +kernel
theorem dX7_clashes_113 : decode cX7_clashes 113 = .ok (.goto 4, 3) := by decide +kernel
theorem dX7_clashes_116 : decode cX7_clashes 116 = .ok (.iconst 0, 1) := by decide +kernel
theorem dX7_clashes_117 : decode cX7_clashes 117 = .ok (.ireturn, 1) := by decide +kernel
theorem dX7_merged_0 : decode cX7_merged 0 = .ok (.aload_n 0, 1) := by decide +kernel
theorem dX7_merged_1 : decode cX7_merged 1 = .ok (.getfield 30, 3) := by decide +kernel
theorem dX7_merged_4 : decode cX7_merged 4 = .ok (.iload_n 1, 1) := by decide +kernel
theorem dX7_merged_5 : decode cX7_merged 5 = .ok (.invokevirtual 43, 3) := by decide +kernel
theorem dX7_merged_8 : decode cX7_merged 8 = .ok (.astore_n 3, 1) := by decide +kernel
theorem dX7_merged_9 : decode cX7_merged 9 = .ok (.aload_n 0, 1) := by decide +kernel
theorem dX7_merged_10 : decode cX7_merged 10 = .ok (.getfield 40, 3) := by decide +kernel
theorem dX7_merged_13 : decode cX7_merged 13 = .ok (.iload_n 1, 1) := by decide +kernel
theorem dX7_merged_14 : decode cX7_merged 14 = .ok (.invokevirtual 43, 3) := by decide +kernel
theorem dX7_merged_17 : decode cX7_merged 17 = .ok (.astore 4, 2) := by decide +kernel
theorem dX7_merged_19 : decode cX7_merged 19 = .ok (.aload_n 2, 1) := by decide +kernel
theorem dX7_merged_20 : decode cX7_merged 20 = .ok (.iload_n 1, 1) := by decide +kernel
theorem dX7_merged_21 : decode cX7_merged 21 = .ok (.invokevirtual 43, 3) := by decide +kernel
theorem dX7_merged_24 : decode cX7_merged 24 = .ok (.astore 5, 2) := by decide +kernel
theorem dX7_merged_26 : decode cX7_merged 26 = .ok (.aload_n 0, 1) := by decide +kernel
theorem dX7_merged_27 : decode cX7_merged 27 = .ok (.iload_n 1, 1) := by decide +kernel
theorem dX7_merged_28 : decode cX7_merged 28 = .ok (.invokevirtual 76, 3) := by decide +kernel
theorem dX7_merged_31 : decode cX7_merged 31 = .ok (.ifCond .ne 6, 3) := by decide +kernel
theorem dX7_merged_34 : decode cX7_merged 34 = .ok (.aload 5, 2) := by decide +kernel
theorem dX7_merged_36 : decode cX7_merged 36 = .ok (.areturn, 1) := by decide +kernel
theorem dX7_merged_37 : decode cX7_merged 37 = .ok (.aload_n 0, 1) := by decide +kernel
theorem dX7_merged_38 : decode cX7_merged 38 = .ok (.iload_n 1, 1) := by decide +kernel
theorem dX7_merged_39 : decode cX7_merged 39 = .ok (.bipush 6, 2) := by decide +kernel
theorem dX7_merged_41 : decode cX7_merged 41 = .ok (.aload_n 2, 1) := by decide +kernel
theorem dX7_merged_42 : decode cX7_merged 42 = .ok (.invokevirtual 80, 3) := by decide +kernel
theorem dX7_merged_45 : decode cX7_merged 45 = .ok (.ifCond .eq 22, 3) := by decide +kernel
theorem dX7_merged_48 : decode cX7_merged 48 = .ok (.aload_n 0, 1) := by decide +kernel
theorem dX7_merged_49 : decode cX7_merged 49 = .ok (.iload_n 1, 1) := by decide +kernel
theorem dX7_merged_50 : decode cX7_merged 50 = .ok (.bipush 6, 2) := by decide +kernel
theorem dX7_merged_52 : decode cX7_merged 52 = .ok (.invokevirtual 84, 3) := by decide +kernel
theorem dX7_merged_55 : decode cX7_merged 55 = .ok (.iconst 1, 1) := by decide +kernel
theorem dX7_merged_56 : decode cX7_merged 56 = .ok (.if_icmp .ne 8, 3) := by decide +kernel
theorem dX7_merged_59 : decode cX7_merged 59 = .ok (.aload 4, 2) := by decide +kernel
theorem dX7_merged_61 : decode cX7_merged 61 = .ok (.goto 5, 3) := by decide +kernel
theorem dX7_merged_64 : decode cX7_merged 64 = .ok (.aload 5, 2) := by decide +kernel
theorem dX7_merged_66 : decode cX7_merged 66 = .ok (.areturn, 1) := by decide +kernel
theorem dX7_merged_67 : decode cX7_merged 67 = .ok (.aload 4, 2) := by decide +kernel
theorem dX7_merged_69 : decode cX7_merged 69 = .ok (.ifnull 17, 3) := by decide +kernel
theorem dX7_merged_72 : decode cX7_merged 72 = .ok (.aload 5, 2) := by decide +kernel
theorem dX7_merged_74 : decode cX7_merged 74 = .ok (.ifnull 12, 3) := by decide +kernel
theorem dX7_merged_77 : decode cX7_merged 77 = .ok (.aload 5, 2) := by decide +kernel
theorem dX7_merged_79 : decode cX7_merged 79 = .ok (.aload_n 3, 1) := by decide +kernel
theorem dX7_merged_80 : decode cX7_merged 80 = .ok (.invokestatic 66, 3) := by decide +kernel
theorem dX7_merged_83 : decode cX7_merged 83 = .ok (.ifCond .eq 6, 3) := by decide +kernel
theorem dX7_merged_86 : decode cX7_merged 86 = .ok (.aload 4, 2) := by decide +kernel
theorem dX7_merged_88 : decode cX7_merged 88 = .ok (.areturn, 1) := by decide +kernel
theorem dX7_merged_89 : decode cX7_merged 89 = .ok (.aload 5, 2) := by decide +kernel
theorem dX7_merged_91 : decode cX7_merged 91 = .ok (.astore 6, 2) := by decide +kernel
theorem dX7_merged_93 : decode cX7_merged 93 = .ok (.iconst 0, 1) := by decide +kernel
theorem dX7_merged_94 : decode cX7_merged 94 = .ok (.istore 7, 2) := by decide +kernel
theorem dX7_merged_96 : decode cX7_merged 96 = .ok (.iload 7, 2) := by decide +kernel
theorem dX7_merged_98 : decode cX7_merged 98 = .ok (.bipush 6, 2) := by decide +kernel
theorem dX7_merged_100 : decode cX7_merged 100 = .ok (.if_icmp .ge 36, 3) := by decide +kernel
theorem dX7_merged_103 : decode cX7_merged 103 = .ok (.aload_n 0, 1) := by decide +kernel
theorem dX7_merged_104 : decode cX7_merged 104 = .ok (.iload_n 1, 1) := by decide +kernel
theorem dX7_merged_105 : decode cX7_merged 105 = .ok (.iload 7, 2) := by decide +kernel
theorem dX7_merged_107 : decode cX7_merged 107 = .ok (.aload_n 2, 1) := by decide +kernel
theorem dX7_merged_108 : decode cX7_merged 108 = .ok (.invokevirtual 88, 3) := by decide +kernel
theorem dX7_merged_111 : decode cX7_merged 111 = .ok (.ifCond .eq 19, 3) := by decide +kernel
theorem dX7_merged_114 : decode cX7_merged 114 = .ok (.aload 6, 2) := by decide +kernel
theorem dX7_merged_116 : decode cX7_merged 116 = .ok (.iload 7, 2) := by decide +kernel
theorem dX7_merged_118 : decode cX7_merged 118 = .ok (.aload 4, 2) := by decide +kernel
theorem dX7_merged_120 : decode cX7_merged 120 = .ok (.iload 7, 2) := by decide +kernel
theorem dX7_merged_122 : decode cX7_merged 122 = .ok (.invokevirtual 91, 3) := by decide +kernel
theorem dX7_merged_125 : decode cX7_merged 125 = .ok (.invokevirtual 95, 3) := by decide +kernel
theorem dX7_merged_128 : decode cX7_merged 128 = .ok (.astore 6, 2) := by decide +kernel
theorem dX7_merged_130 : decode cX7_merged 130 = .ok (.iinc 7 1, 3) := by decide +kernel
theorem dX7_merged_133 : decode cX7_merged 133 = .ok (.goto (-37), 3) := by decide +kernel
theorem dX7_merged_136 : decode cX7_merged 136 = .ok (.aload 6, 2) := by decide +kernel
theorem dX7_merged_138 : decode cX7_merged 138 = .ok (.areturn, 1) := by decide +kernel
theorem dX7_takes_0 : decode cX7_takes 0 = .ok (.aload_n 0, 1) := by decide +kernel
theorem dX7_takes_1 : decode cX7_takes 1 = .ok (.getfield 40, 3) := by decide +kernel
theorem dX7_takes_4 : decode cX7_takes 4 = .ok (.iload_n 1, 1) := by decide +kernel
theorem dX7_takes_5 : decode cX7_takes 5 = .ok (.invokevirtual 43, 3) := by decide +kernel
theorem dX7_takes_8 : decode cX7_takes 8 = .ok (.astore 4, 2) := by decide +kernel
theorem dX7_takes_10 : decode cX7_takes 10 = .ok (.aload 4, 2) := by decide +kernel
theorem dX7_takes_12 : decode cX7_takes 12 = .ok (.aload_n 0, 1) := by decide +kernel
theorem dX7_takes_13 : decode cX7_takes 13 = .ok (.getfield 30, 3) := by decide +kernel
theorem dX7_takes_16 : decode cX7_takes 16 = .ok (.iload_n 1, 1) := by decide +kernel
theorem dX7_takes_17 : decode cX7_takes 17 = .ok (.invokevirtual 43, 3) := by decide +kernel
theorem dX7_takes_20 : decode cX7_takes 20 = .ok (.iload_n 2, 1) := by decide +kernel
theorem dX7_takes_21 : decode cX7_takes 21 = .ok (.invokestatic 72, 3) := by decide +kernel
theorem dX7_takes_24 : decode cX7_takes 24 = .ok (.ifCond .eq 41, 3) := by decide +kernel
theorem dX7_takes_27 : decode cX7_takes 27 = .ok (.aload 4, 2) := by decide +kernel
theorem dX7_takes_29 : decode cX7_takes 29 = .ok (.aload_n 3, 1) := by decide +kernel
theorem dX7_takes_30 : decode cX7_takes 30 = .ok (.iload_n 1, 1) := by decide +kernel
theorem dX7_takes_31 : decode cX7_takes 31 = .ok (.invokevirtual 43, 3) := by decide +kernel
theorem dX7_takes_34 : decode cX7_takes 34 = .ok (.iload_n 2, 1) := by decide +kernel
theorem dX7_takes_35 : decode cX7_takes 35 = .ok (.invokestatic 72, 3) := by decide +kernel
theorem dX7_takes_38 : decode cX7_takes 38 = .ok (.ifCond .eq 27, 3) := by decide +kernel
theorem dX7_takes_41 : decode cX7_takes 41 = .ok (.aload_n 0, 1) := by decide +kernel
theorem dX7_takes_42 : decode cX7_takes 42 = .ok (.iload_n 1, 1) := by decide +kernel
theorem dX7_takes_43 : decode cX7_takes 43 = .ok (.iload_n 2, 1) := by decide +kernel
theorem dX7_takes_44 : decode cX7_takes 44 = .ok (.aload_n 3, 1) := by decide +kernel
theorem dX7_takes_45 : decode cX7_takes 45 = .ok (.invokevirtual 80, 3) := by decide +kernel
theorem dX7_takes_48 : decode cX7_takes 48 = .ok (.ifCond .eq 13, 3) := by decide +kernel
theorem dX7_takes_51 : decode cX7_takes 51 = .ok (.aload_n 0, 1) := by decide +kernel
theorem dX7_takes_52 : decode cX7_takes 52 = .ok (.iload_n 1, 1) := by decide +kernel
theorem dX7_takes_53 : decode cX7_takes 53 = .ok (.iload_n 2, 1) := by decide +kernel
theorem dX7_takes_54 : decode cX7_takes 54 = .ok (.invokevirtual 84, 3) := by decide +kernel
theorem dX7_takes_57 : decode cX7_takes 57 = .ok (.iconst 1, 1) := by decide +kernel
theorem dX7_takes_58 : decode cX7_takes 58 = .ok (.if_icmp .ne 7, 3) := by decide +kernel
theorem dX7_takes_61 : decode cX7_takes 61 = .ok (.iconst 1, 1) := by decide +kernel
theorem dX7_takes_62 : decode cX7_takes 62 = .ok (.goto 4, 3) := by decide +kernel
theorem dX7_takes_65 : decode cX7_takes 65 = .ok (.iconst 0, 1) := by decide +kernel
theorem dX7_takes_66 : decode cX7_takes 66 = .ok (.ireturn, 1) := by decide +kernel
theorem dX8_init_0 : decode cX8_init 0 = .ok (.aload_n 0, 1) := by decide +kernel
theorem dX8_init_1 : decode cX8_init 1 = .ok (.invokespecial 3, 3) := by decide +kernel
theorem dX8_init_4 : decode cX8_init 4 = .ok (.aload_n 0, 1) := by decide +kernel
theorem dX8_init_5 : decode cX8_init 5 = .ok (.bipush 60, 2) := by decide +kernel
theorem dX8_init_7 : decode cX8_init 7 = .ok (.anewarray 9, 3) := by decide +kernel
theorem dX8_init_10 : decode cX8_init 10 = .ok (.putfield 11, 3) := by decide +kernel
theorem dX8_init_13 : decode cX8_init 13 = .ok (.return_, 1) := by decide +kernel
theorem dX8_row_0 : decode cX8_row 0 = .ok (.iload_n 1, 1) := by decide +kernel
theorem dX8_row_1 : decode cX8_row 1 = .ok (.ifCond .lt 9, 3) := by decide +kernel
theorem dX8_row_4 : decode cX8_row 4 = .ok (.iload_n 1, 1) := by decide +kernel
theorem dX8_row_5 : decode cX8_row 5 = .ok (.bipush 60, 2) := by decide +kernel
theorem dX8_row_7 : decode cX8_row 7 = .ok (.if_icmp .lt 7, 3) := by decide +kernel
theorem dX8_row_10 : decode cX8_row 10 = .ok (.aconst_null, 1) := by decide +kernel
theorem dX8_row_11 : decode cX8_row 11 = .ok (.goto 9, 3) := by decide +kernel
theorem dX8_row_14 : decode cX8_row 14 = .ok (.aload_n 0, 1) := by decide +kernel
theorem dX8_row_15 : decode cX8_row 15 = .ok (.getfield 11, 3) := by decide +kernel
theorem dX8_row_18 : decode cX8_row 18 = .ok (.iload_n 1, 1) := by decide +kernel
theorem dX8_row_19 : decode cX8_row 19 = .ok (.aaload, 1) := by decide +kernel
theorem dX8_row_20 : decode cX8_row 20 = .ok (.areturn, 1) := by decide +kernel
theorem dX8_put_0 : decode cX8_put 0 = .ok (.iload_n 1, 1) := by decide +kernel
theorem dX8_put_1 : decode cX8_put 1 = .ok (.ifCond .lt 16, 3) := by decide +kernel
theorem dX8_put_4 : decode cX8_put 4 = .ok (.iload_n 1, 1) := by decide +kernel
theorem dX8_put_5 : decode cX8_put 5 = .ok (.bipush 60, 2) := by decide +kernel
theorem dX8_put_7 : decode cX8_put 7 = .ok (.if_icmp .ge 10, 3) := by decide +kernel
theorem dX8_put_10 : decode cX8_put 10 = .ok (.aload_n 0, 1) := by decide +kernel
theorem dX8_put_11 : decode cX8_put 11 = .ok (.getfield 11, 3) := by decide +kernel
theorem dX8_put_14 : decode cX8_put 14 = .ok (.iload_n 1, 1) := by decide +kernel
theorem dX8_put_15 : decode cX8_put 15 = .ok (.aload_n 2, 1) := by decide +kernel
theorem dX8_put_16 : decode cX8_put 16 = .ok (.aastore, 1) := by decide +kernel
theorem dX8_put_17 : decode cX8_put 17 = .ok (.return_, 1) := by decide +kernel
theorem dX8_copy_0 : decode cX8_copy 0 = .ok (.new 12, 3) := by decide +kernel
theorem dX8_copy_3 : decode cX8_copy 3 = .ok (.dup, 1) := by decide +kernel
theorem dX8_copy_4 : decode cX8_copy 4 = .ok (.invokespecial 17, 3) := by decide +kernel
theorem dX8_copy_7 : decode cX8_copy 7 = .ok (.astore_n 1, 1) := by decide +kernel
theorem dX8_copy_8 : decode cX8_copy 8 = .ok (.iconst 0, 1) := by decide +kernel
theorem dX8_copy_9 : decode cX8_copy 9 = .ok (.istore_n 2, 1) := by decide +kernel
theorem dX8_copy_10 : decode cX8_copy 10 = .ok (.iload_n 2, 1) := by decide +kernel
theorem dX8_copy_11 : decode cX8_copy 11 = .ok (.bipush 60, 2) := by decide +kernel
theorem dX8_copy_13 : decode cX8_copy 13 = .ok (.if_icmp .ge 21, 3) := by decide +kernel
theorem dX8_copy_16 : decode cX8_copy 16 = .ok (.aload_n 1, 1) := by decide +kernel
theorem dX8_copy_17 : decode cX8_copy 17 = .ok (.getfield 11, 3) := by decide +kernel
theorem dX8_copy_20 : decode cX8_copy 20 = .ok (.iload_n 2, 1) := by decide +kernel
theorem dX8_copy_21 : decode cX8_copy 21 = .ok (.aload_n 0, 1) := by decide +kernel
theorem dX8_copy_22 : decode cX8_copy 22 = .ok (.getfield 11, 3) := by decide +kernel
theorem dX8_copy_25 : decode cX8_copy 25 = .ok (.iload_n 2, 1) := by decide +kernel
theorem dX8_copy_26 : decode cX8_copy 26 = .ok (.aaload, 1) := by decide +kernel
theorem dX8_copy_27 : decode cX8_copy 27 = .ok (.aastore, 1) := by decide +kernel
theorem dX8_copy_28 : decode cX8_copy 28 = .ok (.iinc 2 1, 3) := by decide +kernel
theorem dX8_copy_31 : decode cX8_copy 31 = .ok (.goto (-21), 3) := by decide +kernel
theorem dX8_copy_34 : decode cX8_copy 34 = .ok (.aload_n 1, 1) := by decide +kernel
theorem dX8_copy_35 : decode cX8_copy 35 = .ok (.areturn, 1) := by decide +kernel

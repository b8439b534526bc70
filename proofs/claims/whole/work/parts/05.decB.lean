theorem dX9_init_0 : decode cX9_init 0 = .ok (.aload_n 0, 1) := by decide +kernel
theorem dX9_init_1 : decode cX9_init 1 = .ok (.invokespecial 1, 3) := by decide +kernel
theorem dX9_init_4 : decode cX9_init 4 = .ok (.aload_n 0, 1) := by decide +kernel
theorem dX9_init_5 : decode cX9_init 5 = .ok (.bipush 40, 2) := by decide +kernel
theorem dX9_init_7 : decode cX9_init 7 = .ok (.anewarray 9, 3) := by decide +kernel
theorem dX9_init_10 : decode cX9_init 10 = .ok (.putfield 11, 3) := by decide +kernel
theorem dX9_init_13 : decode cX9_init 13 = .ok (.aload_n 0, 1) := by decide +kernel
theorem dX9_init_14 : decode cX9_init 14 = .ok (.new 9, 3) := by decide +kernel
theorem dX9_init_17 : decode cX9_init 17 = .ok (.dup, 1) := by decide +kernel
theorem dX9_init_18 : decode cX9_init 18 = .ok (.invokespecial 15, 3) := by decide +kernel
theorem dX9_init_21 : decode cX9_init 21 = .ok (.putfield 16, 3) := by decide +kernel
theorem dX9_init_24 : decode cX9_init 24 = .ok (.aload_n 0, 1) := by decide +kernel
theorem dX9_init_25 : decode cX9_init 25 = .ok (.bipush 20, 2) := by decide +kernel
theorem dX9_init_27 : decode cX9_init 27 = .ok (.anewarray 20, 3) := by decide +kernel
theorem dX9_init_30 : decode cX9_init 30 = .ok (.putfield 22, 3) := by decide +kernel
theorem dX9_init_33 : decode cX9_init 33 = .ok (.aload_n 0, 1) := by decide +kernel
theorem dX9_init_34 : decode cX9_init 34 = .ok (.new 26, 3) := by decide +kernel
theorem dX9_init_37 : decode cX9_init 37 = .ok (.dup, 1) := by decide +kernel
theorem dX9_init_38 : decode cX9_init 38 = .ok (.invokespecial 28, 3) := by decide +kernel
theorem dX9_init_41 : decode cX9_init 41 = .ok (.putfield 29, 3) := by decide +kernel
theorem dX9_init_44 : decode cX9_init 44 = .ok (.aload_n 0, 1) := by decide +kernel
theorem dX9_init_45 : decode cX9_init 45 = .ok (.bipush 20, 2) := by decide +kernel
theorem dX9_init_47 : decode cX9_init 47 = .ok (.anewarray 33, 3) := by decide +kernel
theorem dX9_init_50 : decode cX9_init 50 = .ok (.putfield 35, 3) := by decide +kernel
theorem dX9_init_53 : decode cX9_init 53 = .ok (.aload_n 0, 1) := by decide +kernel
theorem dX9_init_54 : decode cX9_init 54 = .ok (.new 39, 3) := by decide +kernel
theorem dX9_init_57 : decode cX9_init 57 = .ok (.dup, 1) := by decide +kernel
theorem dX9_init_58 : decode cX9_init 58 = .ok (.invokespecial 41, 3) := by decide +kernel
theorem dX9_init_61 : decode cX9_init 61 = .ok (.putfield 42, 3) := by decide +kernel
theorem dX9_init_64 : decode cX9_init 64 = .ok (.aload_n 0, 1) := by decide +kernel
theorem dX9_init_65 : decode cX9_init 65 = .ok (.bipush 60, 2) := by decide +kernel
theorem dX9_init_67 : decode cX9_init 67 = .ok (.newarray .int, 2) := by decide +kernel
theorem dX9_init_69 : decode cX9_init 69 = .ok (.putfield 46, 3) := by decide +kernel
theorem dX9_init_72 : decode cX9_init 72 = .ok (.aload_n 0, 1) := by decide +kernel
theorem dX9_init_73 : decode cX9_init 73 = .ok (.getfield 11, 3) := by decide +kernel
theorem dX9_init_76 : decode cX9_init 76 = .ok (.iconst 0, 1) := by decide +kernel
theorem dX9_init_77 : decode cX9_init 77 = .ok (.aload_n 0, 1) := by decide +kernel
theorem dX9_init_78 : decode cX9_init 78 = .ok (.getfield 16, 3) := by decide +kernel
theorem dX9_init_81 : decode cX9_init 81 = .ok (.aastore, 1) := by decide +kernel
theorem dX9_init_82 : decode cX9_init 82 = .ok (.aload_n 0, 1) := by decide +kernel
theorem dX9_init_83 : decode cX9_init 83 = .ok (.iconst 1, 1) := by decide +kernel
theorem dX9_init_84 : decode cX9_init 84 = .ok (.putfield 50, 3) := by decide +kernel
theorem dX9_init_87 : decode cX9_init 87 = .ok (.return_, 1) := by decide +kernel
theorem dX9_object_0 : decode cX9_object 0 = .ok (.iload_n 1, 1) := by decide +kernel
theorem dX9_object_1 : decode cX9_object 1 = .ok (.invokestatic 54, 3) := by decide +kernel
theorem dX9_object_4 : decode cX9_object 4 = .ok (.aload_n 0, 1) := by decide +kernel
theorem dX9_object_5 : decode cX9_object 5 = .ok (.getfield 58, 3) := by decide +kernel
theorem dX9_object_8 : decode cX9_object 8 = .ok (.bipush 60, 2) := by decide +kernel
theorem dX9_object_10 : decode cX9_object 10 = .ok (.if_icmp .ge 12, 3) := by decide +kernel
theorem dX9_object_13 : decode cX9_object 13 = .ok (.aload_n 0, 1) := by decide +kernel
theorem dX9_object_14 : decode cX9_object 14 = .ok (.getfield 50, 3) := by decide +kernel
theorem dX9_object_17 : decode cX9_object 17 = .ok (.bipush 40, 2) := by decide +kernel
theorem dX9_object_19 : decode cX9_object 19 = .ok (.if_icmp .lt 5, 3) := by decide +kernel
theorem dX9_object_22 : decode cX9_object 22 = .ok (.iconst (-1), 1) := by decide +kernel
theorem dX9_object_23 : decode cX9_object 23 = .ok (.ireturn, 1) := by decide +kernel
theorem dX9_object_24 : decode cX9_object 24 = .ok (.aload_n 0, 1) := by decide +kernel
theorem dX9_object_25 : decode cX9_object 25 = .ok (.invokevirtual 61, 3) := by decide +kernel
theorem dX9_object_28 : decode cX9_object 28 = .ok (.istore_n 2, 1) := by decide +kernel
theorem dX9_object_29 : decode cX9_object 29 = .ok (.aload_n 0, 1) := by decide +kernel
theorem dX9_object_30 : decode cX9_object 30 = .ok (.getfield 16, 3) := by decide +kernel
theorem dX9_object_33 : decode cX9_object 33 = .ok (.invokevirtual 65, 3) := by decide +kernel
theorem dX9_object_36 : decode cX9_object 36 = .ok (.astore_n 3, 1) := by decide +kernel
theorem dX9_object_37 : decode cX9_object 37 = .ok (.aload_n 3, 1) := by decide +kernel
theorem dX9_object_38 : decode cX9_object 38 = .ok (.iload_n 2, 1) := by decide +kernel
theorem dX9_object_39 : decode cX9_object 39 = .ok (.new 69, 3) := by decide +kernel
theorem dX9_object_42 : decode cX9_object 42 = .ok (.dup, 1) := by decide +kernel
theorem dX9_object_43 : decode cX9_object 43 = .ok (.invokespecial 71, 3) := by decide +kernel
theorem dX9_object_46 : decode cX9_object 46 = .ok (.invokevirtual 72, 3) := by decide +kernel
theorem dX9_object_49 : decode cX9_object 49 = .ok (.aload_n 0, 1) := by decide +kernel
theorem dX9_object_50 : decode cX9_object 50 = .ok (.aload_n 3, 1) := by decide +kernel
theorem dX9_object_51 : decode cX9_object 51 = .ok (.invokevirtual 76, 3) := by decide +kernel
theorem dX9_object_54 : decode cX9_object 54 = .ok (.iload_n 2, 1) := by decide +kernel
theorem dX9_object_55 : decode cX9_object 55 = .ok (.ireturn, 1) := by decide +kernel
theorem dX9_session_0 : decode cX9_session 0 = .ok (.aload_n 0, 1) := by decide +kernel
theorem dX9_session_1 : decode cX9_session 1 = .ok (.getfield 80, 3) := by decide +kernel
theorem dX9_session_4 : decode cX9_session 4 = .ok (.bipush 20, 2) := by decide +kernel
theorem dX9_session_6 : decode cX9_session 6 = .ok (.if_icmp .lt 7, 3) := by decide +kernel
theorem dX9_session_9 : decode cX9_session 9 = .ok (.iconst (-1), 1) := by decide +kernel
theorem dX9_session_10 : decode cX9_session 10 = .ok (.goto 14, 3) := by decide +kernel
theorem dX9_session_13 : decode cX9_session 13 = .ok (.aload_n 0, 1) := by decide +kernel
theorem dX9_session_14 : decode cX9_session 14 = .ok (.aload_n 0, 1) := by decide +kernel
theorem dX9_session_15 : decode cX9_session 15 = .ok (.getfield 16, 3) := by decide +kernel
theorem dX9_session_18 : decode cX9_session 18 = .ok (.invokevirtual 83, 3) := by decide +kernel
theorem dX9_session_21 : decode cX9_session 21 = .ok (.getfield 87, 3) := by decide +kernel
theorem dX9_session_24 : decode cX9_session 24 = .ok (.ireturn, 1) := by decide +kernel
theorem dX9_set_0 : decode cX9_set 0 = .ok (.aload_n 0, 1) := by decide +kernel
theorem dX9_set_1 : decode cX9_set 1 = .ok (.iload_n 1, 1) := by decide +kernel
theorem dX9_set_2 : decode cX9_set 2 = .ok (.invokevirtual 90, 3) := by decide +kernel
theorem dX9_set_5 : decode cX9_set 5 = .ok (.astore 6, 2) := by decide +kernel
theorem dX9_set_7 : decode cX9_set 7 = .ok (.aload_n 0, 1) := by decide +kernel
theorem dX9_set_8 : decode cX9_set 8 = .ok (.iload_n 2, 1) := by decide +kernel
theorem dX9_set_9 : decode cX9_set 9 = .ok (.invokevirtual 94, 3) := by decide +kernel
theorem dX9_set_12 : decode cX9_set 12 = .ok (.iload_n 3, 1) := by decide +kernel
theorem dX9_set_13 : decode cX9_set 13 = .ok (.invokestatic 97, 3) := by decide +kernel
theorem dX9_set_16 : decode cX9_set 16 = .ok (.aload 6, 2) := by decide +kernel
theorem dX9_set_18 : decode cX9_set 18 = .ok (.invokestatic 100, 3) := by decide +kernel
theorem dX9_set_21 : decode cX9_set 21 = .ok (.aload_n 0, 1) := by decide +kernel
theorem dX9_set_22 : decode cX9_set 22 = .ok (.aload 6, 2) := by decide +kernel
theorem dX9_set_24 : decode cX9_set 24 = .ok (.iload_n 2, 1) := by decide +kernel
theorem dX9_set_25 : decode cX9_set 25 = .ok (.iload_n 3, 1) := by decide +kernel
theorem dX9_set_26 : decode cX9_set 26 = .ok (.lload 4, 2) := by decide +kernel
theorem dX9_set_28 : decode cX9_set 28 = .ok (.aload 6, 2) := by decide +kernel
theorem dX9_set_30 : decode cX9_set 30 = .ok (.getfield 104, 3) := by decide +kernel
theorem dX9_set_33 : decode cX9_set 33 = .ok (.iload_n 2, 1) := by decide +kernel
theorem dX9_set_34 : decode cX9_set 34 = .ok (.invokestatic 107, 3) := by decide +kernel
theorem dX9_set_37 : decode cX9_set 37 = .ok (.invokevirtual 111, 3) := by decide +kernel
theorem dX9_set_40 : decode cX9_set 40 = .ok (.ireturn, 1) := by decide +kernel
theorem dX9_drop_0 : decode cX9_drop 0 = .ok (.aload_n 0, 1) := by decide +kernel
theorem dX9_drop_1 : decode cX9_drop 1 = .ok (.iload_n 1, 1) := by decide +kernel
theorem dX9_drop_2 : decode cX9_drop 2 = .ok (.invokevirtual 90, 3) := by decide +kernel
theorem dX9_drop_5 : decode cX9_drop 5 = .ok (.astore_n 3, 1) := by decide +kernel
theorem dX9_drop_6 : decode cX9_drop 6 = .ok (.aload_n 0, 1) := by decide +kernel
theorem dX9_drop_7 : decode cX9_drop 7 = .ok (.iload_n 2, 1) := by decide +kernel
theorem dX9_drop_8 : decode cX9_drop 8 = .ok (.invokevirtual 94, 3) := by decide +kernel
theorem dX9_drop_11 : decode cX9_drop 11 = .ok (.aload_n 3, 1) := by decide +kernel
theorem dX9_drop_12 : decode cX9_drop 12 = .ok (.invokestatic 100, 3) := by decide +kernel
theorem dX9_drop_15 : decode cX9_drop 15 = .ok (.aload_n 0, 1) := by decide +kernel
theorem dX9_drop_16 : decode cX9_drop 16 = .ok (.getfield 29, 3) := by decide +kernel
theorem dX9_drop_19 : decode cX9_drop 19 = .ok (.aload_n 3, 1) := by decide +kernel
theorem dX9_drop_20 : decode cX9_drop 20 = .ok (.getfield 87, 3) := by decide +kernel
theorem dX9_drop_23 : decode cX9_drop 23 = .ok (.aload_n 3, 1) := by decide +kernel
theorem dX9_drop_24 : decode cX9_drop 24 = .ok (.getfield 104, 3) := by decide +kernel
theorem dX9_drop_27 : decode cX9_drop 27 = .ok (.iload_n 2, 1) := by decide +kernel
theorem dX9_drop_28 : decode cX9_drop 28 = .ok (.invokestatic 107, 3) := by decide +kernel
theorem dX9_drop_31 : decode cX9_drop 31 = .ok (.invokevirtual 115, 3) := by decide +kernel
theorem dX9_drop_34 : decode cX9_drop 34 = .ok (.ifCond .eq 5, 3) := by decide +kernel
theorem dX9_drop_37 : decode cX9_drop 37 = .ok (.iconst 0, 1) := by decide +kernel
theorem dX9_drop_38 : decode cX9_drop 38 = .ok (.ireturn, 1) := by decide +kernel
theorem dX9_drop_39 : decode cX9_drop 39 = .ok (.aload_n 3, 1) := by decide +kernel
theorem dX9_drop_40 : decode cX9_drop 40 = .ok (.iload_n 2, 1) := by decide +kernel
theorem dX9_drop_41 : decode cX9_drop 41 = .ok (.aconst_null, 1) := by decide +kernel
theorem dX9_drop_42 : decode cX9_drop 42 = .ok (.invokevirtual 119, 3) := by decide +kernel
theorem dX9_drop_45 : decode cX9_drop 45 = .ok (.iconst 1, 1) := by decide +kernel
theorem dX9_drop_46 : decode cX9_drop 46 = .ok (.ireturn, 1) := by decide +kernel
theorem dX9_make_0 : decode cX9_make 0 = .ok (.aload_n 0, 1) := by decide +kernel
theorem dX9_make_1 : decode cX9_make 1 = .ok (.iload_n 1, 1) := by decide +kernel
theorem dX9_make_2 : decode cX9_make 2 = .ok (.invokevirtual 90, 3) := by decide +kernel
theorem dX9_make_5 : decode cX9_make 5 = .ok (.astore_n 3, 1) := by decide +kernel
theorem dX9_make_6 : decode cX9_make 6 = .ok (.aload_n 3, 1) := by decide +kernel
theorem dX9_make_7 : decode cX9_make 7 = .ok (.invokestatic 100, 3) := by decide +kernel
theorem dX9_make_10 : decode cX9_make 10 = .ok (.iload_n 2, 1) := by decide +kernel
theorem dX9_make_11 : decode cX9_make 11 = .ok (.invokestatic 54, 3) := by decide +kernel
theorem dX9_make_14 : decode cX9_make 14 = .ok (.aload_n 0, 1) := by decide +kernel
theorem dX9_make_15 : decode cX9_make 15 = .ok (.getfield 58, 3) := by decide +kernel
theorem dX9_make_18 : decode cX9_make 18 = .ok (.bipush 60, 2) := by decide +kernel
theorem dX9_make_20 : decode cX9_make 20 = .ok (.if_icmp .lt 5, 3) := by decide +kernel
theorem dX9_make_23 : decode cX9_make 23 = .ok (.iconst (-1), 1) := by decide +kernel
theorem dX9_make_24 : decode cX9_make 24 = .ok (.ireturn, 1) := by decide +kernel
theorem dX9_make_25 : decode cX9_make 25 = .ok (.aload_n 0, 1) := by decide +kernel
theorem dX9_make_26 : decode cX9_make 26 = .ok (.invokevirtual 61, 3) := by decide +kernel
theorem dX9_make_29 : decode cX9_make 29 = .ok (.istore 4, 2) := by decide +kernel
theorem dX9_make_31 : decode cX9_make 31 = .ok (.aload_n 3, 1) := by decide +kernel
theorem dX9_make_32 : decode cX9_make 32 = .ok (.iload 4, 2) := by decide +kernel
theorem dX9_make_34 : decode cX9_make 34 = .ok (.new 69, 3) := by decide +kernel
theorem dX9_make_37 : decode cX9_make 37 = .ok (.dup, 1) := by decide +kernel
theorem dX9_make_38 : decode cX9_make 38 = .ok (.invokespecial 71, 3) := by decide +kernel
theorem dX9_make_41 : decode cX9_make 41 = .ok (.invokevirtual 119, 3) := by decide +kernel
theorem dX9_make_44 : decode cX9_make 44 = .ok (.iload 4, 2) := by decide +kernel
theorem dX9_make_46 : decode cX9_make 46 = .ok (.ireturn, 1) := by decide +kernel
theorem dX9_join_0 : decode cX9_join 0 = .ok (.aload_n 0, 1) := by decide +kernel
theorem dX9_join_1 : decode cX9_join 1 = .ok (.iload_n 1, 1) := by decide +kernel
theorem dX9_join_2 : decode cX9_join 2 = .ok (.invokevirtual 90, 3) := by decide +kernel
theorem dX9_join_5 : decode cX9_join 5 = .ok (.astore_n 2, 1) := by decide +kernel
theorem dX9_join_6 : decode cX9_join 6 = .ok (.aload_n 2, 1) := by decide +kernel
theorem dX9_join_7 : decode cX9_join 7 = .ok (.invokestatic 100, 3) := by decide +kernel
theorem dX9_join_10 : decode cX9_join 10 = .ok (.aload_n 0, 1) := by decide +kernel
theorem dX9_join_11 : decode cX9_join 11 = .ok (.getfield 50, 3) := by decide +kernel
theorem dX9_join_14 : decode cX9_join 14 = .ok (.bipush 40, 2) := by decide +kernel
theorem dX9_join_16 : decode cX9_join 16 = .ok (.if_icmp .lt 7, 3) := by decide +kernel
theorem dX9_join_19 : decode cX9_join 19 = .ok (.iconst (-1), 1) := by decide +kernel
theorem dX9_join_20 : decode cX9_join 20 = .ok (.goto 8, 3) := by decide +kernel
theorem dX9_join_23 : decode cX9_join 23 = .ok (.aload_n 0, 1) := by decide +kernel
theorem dX9_join_24 : decode cX9_join 24 = .ok (.aload_n 2, 1) := by decide +kernel
theorem dX9_join_25 : decode cX9_join 25 = .ok (.invokevirtual 122, 3) := by decide +kernel
theorem dX9_join_28 : decode cX9_join 28 = .ok (.ireturn, 1) := by decide +kernel
theorem dX9_conflict_0 : decode cX9_conflict 0 = .ok (.aload_n 0, 1) := by decide +kernel
theorem dX9_conflict_1 : decode cX9_conflict 1 = .ok (.iload_n 1, 1) := by decide +kernel
theorem dX9_conflict_2 : decode cX9_conflict 2 = .ok (.invokevirtual 126, 3) := by decide +kernel
theorem dX9_conflict_5 : decode cX9_conflict 5 = .ok (.astore_n 3, 1) := by decide +kernel
theorem dX9_conflict_6 : decode cX9_conflict 6 = .ok (.aload_n 0, 1) := by decide +kernel
theorem dX9_conflict_7 : decode cX9_conflict 7 = .ok (.getfield 42, 3) := by decide +kernel
theorem dX9_conflict_10 : decode cX9_conflict 10 = .ok (.iload_n 1, 1) := by decide +kernel
theorem dX9_conflict_11 : decode cX9_conflict 11 = .ok (.invokevirtual 129, 3) := by decide +kernel
theorem dX9_conflict_14 : decode cX9_conflict 14 = .ok (.istore 4, 2) := by decide +kernel
theorem dX9_conflict_16 : decode cX9_conflict 16 = .ok (.aload_n 0, 1) := by decide +kernel
theorem dX9_conflict_17 : decode cX9_conflict 17 = .ok (.getfield 42, 3) := by decide +kernel
theorem dX9_conflict_20 : decode cX9_conflict 20 = .ok (.iload_n 1, 1) := by decide +kernel
theorem dX9_conflict_21 : decode cX9_conflict 21 = .ok (.invokevirtual 133, 3) := by decide +kernel
theorem dX9_conflict_24 : decode cX9_conflict 24 = .ok (.istore 5, 2) := by decide +kernel
theorem dX9_conflict_26 : decode cX9_conflict 26 = .ok (.iload_n 2, 1) := by decide +kernel
theorem dX9_conflict_27 : decode cX9_conflict 27 = .ok (.tableswitch 40 0 2 #[25, 28, 31], 25) := by decide +kernel
theorem dX9_conflict_52 : decode cX9_conflict 52 = .ok (.iload 4, 2) := by decide +kernel
theorem dX9_conflict_54 : decode cX9_conflict 54 = .ok (.ireturn, 1) := by decide +kernel
theorem dX9_conflict_55 : decode cX9_conflict 55 = .ok (.iload 5, 2) := by decide +kernel
theorem dX9_conflict_57 : decode cX9_conflict 57 = .ok (.ireturn, 1) := by decide +kernel
theorem dX9_conflict_58 : decode cX9_conflict 58 = .ok (.aload_n 3, 1) := by decide +kernel
theorem dX9_conflict_59 : decode cX9_conflict 59 = .ok (.iload 4, 2) := by decide +kernel
theorem dX9_conflict_61 : decode cX9_conflict 61 = .ok (.iload 5, 2) := by decide +kernel
theorem dX9_conflict_63 : decode cX9_conflict 63 = .ok (.invokevirtual 136, 3) := by decide +kernel
theorem dX9_conflict_66 : decode cX9_conflict 66 = .ok (.ireturn, 1) := by decide +kernel
theorem dX9_conflict_67 : decode cX9_conflict 67 = .ok (.new 140, 3) := by decide +kernel
theorem dX9_conflict_70 : decode cX9_conflict 70 = .ok (.dup, 1) := by decide +kernel
theorem dX9_conflict_71 : decode cX9_conflict 71 = .ok (.ldc 142, 2) := by decide +kernel
theorem dX9_conflict_73 : decode cX9_conflict 73 = .ok (.invokespecial 144, 3) := by decide +kernel
theorem dX9_conflict_76 : decode cX9_conflict 76 = .ok (.athrow, 1) := by decide +kernel
theorem dX9_settle_0 : decode cX9_settle 0 = .ok (.aload_n 0, 1) := by decide +kernel
theorem dX9_settle_1 : decode cX9_settle 1 = .ok (.iload_n 1, 1) := by decide +kernel
theorem dX9_settle_2 : decode cX9_settle 2 = .ok (.invokevirtual 126, 3) := by decide +kernel
theorem dX9_settle_5 : decode cX9_settle 5 = .ok (.astore_n 3, 1) := by decide +kernel
theorem dX9_settle_6 : decode cX9_settle 6 = .ok (.aload_n 3, 1) := by decide +kernel
theorem dX9_settle_7 : decode cX9_settle 7 = .ok (.invokestatic 100, 3) := by decide +kernel
theorem dX9_settle_10 : decode cX9_settle 10 = .ok (.iload_n 2, 1) := by decide +kernel
theorem dX9_settle_11 : decode cX9_settle 11 = .ok (.ifCond .lt 8, 3) := by decide +kernel
theorem dX9_settle_14 : decode cX9_settle 14 = .ok (.iload_n 2, 1) := by decide +kernel
theorem dX9_settle_15 : decode cX9_settle 15 = .ok (.iconst 2, 1) := by decide +kernel
theorem dX9_settle_16 : decode cX9_settle 16 = .ok (.if_icmp .lt 13, 3) := by decide +kernel
theorem dX9_settle_19 : decode cX9_settle 19 = .ok (.new 147, 3) := by decide +kernel
theorem dX9_settle_22 : decode cX9_settle 22 = .ok (.dup, 1) := by decide +kernel
theorem dX9_settle_23 : decode cX9_settle 23 = .ok (.ldc 149, 2) := by decide +kernel
theorem dX9_settle_25 : decode cX9_settle 25 = .ok (.invokespecial 151, 3) := by decide +kernel
theorem dX9_settle_28 : decode cX9_settle 28 = .ok (.athrow, 1) := by decide +kernel
theorem dX9_settle_29 : decode cX9_settle 29 = .ok (.aload_n 0, 1) := by decide +kernel
theorem dX9_settle_30 : decode cX9_settle 30 = .ok (.getfield 42, 3) := by decide +kernel
theorem dX9_settle_33 : decode cX9_settle 33 = .ok (.iload_n 1, 1) := by decide +kernel
theorem dX9_settle_34 : decode cX9_settle 34 = .ok (.invokevirtual 129, 3) := by decide +kernel
theorem dX9_settle_37 : decode cX9_settle 37 = .ok (.istore 4, 2) := by decide +kernel
theorem dX9_settle_39 : decode cX9_settle 39 = .ok (.aload_n 0, 1) := by decide +kernel
theorem dX9_settle_40 : decode cX9_settle 40 = .ok (.getfield 42, 3) := by decide +kernel
theorem dX9_settle_43 : decode cX9_settle 43 = .ok (.iload_n 1, 1) := by decide +kernel
theorem dX9_settle_44 : decode cX9_settle 44 = .ok (.invokevirtual 133, 3) := by decide +kernel
theorem dX9_settle_47 : decode cX9_settle 47 = .ok (.istore 5, 2) := by decide +kernel
theorem dX9_settle_49 : decode cX9_settle 49 = .ok (.aload_n 3, 1) := by decide +kernel
theorem dX9_settle_50 : decode cX9_settle 50 = .ok (.iload 4, 2) := by decide +kernel
theorem dX9_settle_52 : decode cX9_settle 52 = .ok (.iload 5, 2) := by decide +kernel
theorem dX9_settle_54 : decode cX9_settle 54 = .ok (.invokevirtual 136, 3) := by decide +kernel
theorem dX9_settle_57 : decode cX9_settle 57 = .ok (.iload_n 2, 1) := by decide +kernel
theorem dX9_settle_58 : decode cX9_settle 58 = .ok (.if_icmp .eq 7, 3) := by decide +kernel
theorem dX9_settle_61 : decode cX9_settle 61 = .ok (.iconst 1, 1) := by decide +kernel
theorem dX9_settle_62 : decode cX9_settle 62 = .ok (.goto 4, 3) := by decide +kernel
theorem dX9_settle_65 : decode cX9_settle 65 = .ok (.iconst 0, 1) := by decide +kernel
theorem dX9_settle_66 : decode cX9_settle 66 = .ok (.istore 6, 2) := by decide +kernel
theorem dX9_settle_68 : decode cX9_settle 68 = .ok (.aload_n 3, 1) := by decide +kernel
theorem dX9_settle_69 : decode cX9_settle 69 = .ok (.iload 4, 2) := by decide +kernel
theorem dX9_settle_71 : decode cX9_settle 71 = .ok (.iload 5, 2) := by decide +kernel
theorem dX9_settle_73 : decode cX9_settle 73 = .ok (.iload_n 2, 1) := by decide +kernel
theorem dX9_settle_74 : decode cX9_settle 74 = .ok (.invokevirtual 152, 3) := by decide +kernel
theorem dX9_settle_77 : decode cX9_settle 77 = .ok (.iload 6, 2) := by decide +kernel
theorem dX9_settle_79 : decode cX9_settle 79 = .ok (.ireturn, 1) := by decide +kernel
theorem dX9_at_0 : decode cX9_at 0 = .ok (.aload_n 0, 1) := by decide +kernel
theorem dX9_at_1 : decode cX9_at 1 = .ok (.iload_n 1, 1) := by decide +kernel
theorem dX9_at_2 : decode cX9_at 2 = .ok (.invokevirtual 94, 3) := by decide +kernel
theorem dX9_at_5 : decode cX9_at 5 = .ok (.iload_n 2, 1) := by decide +kernel
theorem dX9_at_6 : decode cX9_at 6 = .ok (.invokestatic 97, 3) := by decide +kernel
theorem dX9_at_9 : decode cX9_at 9 = .ok (.aload_n 0, 1) := by decide +kernel
theorem dX9_at_10 : decode cX9_at 10 = .ok (.getfield 16, 3) := by decide +kernel
theorem dX9_at_13 : decode cX9_at 13 = .ok (.iload_n 1, 1) := by decide +kernel
theorem dX9_at_14 : decode cX9_at 14 = .ok (.invokestatic 107, 3) := by decide +kernel
theorem dX9_at_17 : decode cX9_at 17 = .ok (.iload_n 2, 1) := by decide +kernel
theorem dX9_at_18 : decode cX9_at 18 = .ok (.invokevirtual 156, 3) := by decide +kernel
theorem dX9_at_21 : decode cX9_at 21 = .ok (.lreturn, 1) := by decide +kernel
theorem dX9_lock_0 : decode cX9_lock 0 = .ok (.aload_n 0, 1) := by decide +kernel
theorem dX9_lock_1 : decode cX9_lock 1 = .ok (.iload_n 1, 1) := by decide +kernel
theorem dX9_lock_2 : decode cX9_lock 2 = .ok (.invokevirtual 90, 3) := by decide +kernel
theorem dX9_lock_5 : decode cX9_lock 5 = .ok (.astore 10, 2) := by decide +kernel
theorem dX9_lock_7 : decode cX9_lock 7 = .ok (.aload 10, 2) := by decide +kernel
theorem dX9_lock_9 : decode cX9_lock 9 = .ok (.invokestatic 100, 3) := by decide +kernel
theorem dX9_lock_12 : decode cX9_lock 12 = .ok (.lload_n 2, 1) := by decide +kernel
theorem dX9_lock_13 : decode cX9_lock 13 = .ok (.lload 6, 2) := by decide +kernel
theorem dX9_lock_15 : decode cX9_lock 15 = .ok (.lcmp, 1) := by decide +kernel
theorem dX9_lock_16 : decode cX9_lock 16 = .ok (.ifCond .gt 44, 3) := by decide +kernel
theorem dX9_lock_19 : decode cX9_lock 19 = .ok (.lload 4, 2) := by decide +kernel
theorem dX9_lock_21 : decode cX9_lock 21 = .ok (.lload 8, 2) := by decide +kernel
theorem dX9_lock_23 : decode cX9_lock 23 = .ok (.lcmp, 1) := by decide +kernel
theorem dX9_lock_24 : decode cX9_lock 24 = .ok (.ifCond .gt 36, 3) := by decide +kernel
theorem dX9_lock_27 : decode cX9_lock 27 = .ok (.aload_n 0, 1) := by decide +kernel
theorem dX9_lock_28 : decode cX9_lock 28 = .ok (.getfield 29, 3) := by decide +kernel
theorem dX9_lock_31 : decode cX9_lock 31 = .ok (.new 160, 3) := by decide +kernel
theorem dX9_lock_34 : decode cX9_lock 34 = .ok (.dup, 1) := by decide +kernel
theorem dX9_lock_35 : decode cX9_lock 35 = .ok (.aload 10, 2) := by decide +kernel
theorem dX9_lock_37 : decode cX9_lock 37 = .ok (.getfield 87, 3) := by decide +kernel
theorem dX9_lock_40 : decode cX9_lock 40 = .ok (.lload_n 2, 1) := by decide +kernel
theorem dX9_lock_41 : decode cX9_lock 41 = .ok (.lload 4, 2) := by decide +kernel
theorem dX9_lock_43 : decode cX9_lock 43 = .ok (.lload 6, 2) := by decide +kernel
theorem dX9_lock_45 : decode cX9_lock 45 = .ok (.lload 8, 2) := by decide +kernel
theorem dX9_lock_47 : decode cX9_lock 47 = .ok (.invokespecial 162, 3) := by decide +kernel
theorem dX9_lock_50 : decode cX9_lock 50 = .ok (.invokevirtual 165, 3) := by decide +kernel
theorem dX9_lock_53 : decode cX9_lock 53 = .ok (.ifCond .eq 7, 3) := by decide +kernel
theorem dX9_lock_56 : decode cX9_lock 56 = .ok (.iconst 1, 1) := by decide +kernel
theorem dX9_lock_57 : decode cX9_lock 57 = .ok (.goto 4, 3) := by decide +kernel
theorem dX9_lock_60 : decode cX9_lock 60 = .ok (.iconst 0, 1) := by decide +kernel
theorem dX9_lock_61 : decode cX9_lock 61 = .ok (.ireturn, 1) := by decide +kernel
theorem dX9_apart_0 : decode cX9_apart 0 = .ok (.aload_n 0, 1) := by decide +kernel
theorem dX9_apart_1 : decode cX9_apart 1 = .ok (.iload_n 1, 1) := by decide +kernel
theorem dX9_apart_2 : decode cX9_apart 2 = .ok (.invokevirtual 94, 3) := by decide +kernel
theorem dX9_apart_5 : decode cX9_apart 5 = .ok (.aload_n 0, 1) := by decide +kernel
theorem dX9_apart_6 : decode cX9_apart 6 = .ok (.iload_n 2, 1) := by decide +kernel
theorem dX9_apart_7 : decode cX9_apart 7 = .ok (.invokevirtual 94, 3) := by decide +kernel
theorem dX9_apart_10 : decode cX9_apart 10 = .ok (.lload_n 3, 1) := by decide +kernel
theorem dX9_apart_11 : decode cX9_apart 11 = .ok (.lconst 0, 1) := by decide +kernel
theorem dX9_apart_12 : decode cX9_apart 12 = .ok (.lcmp, 1) := by decide +kernel
theorem dX9_apart_13 : decode cX9_apart 13 = .ok (.ifCond .lt 11, 3) := by decide +kernel
theorem dX9_apart_16 : decode cX9_apart 16 = .ok (.lload_n 3, 1) := by decide +kernel
theorem dX9_apart_17 : decode cX9_apart 17 = .ok (.ldc2_w 169, 3) := by decide +kernel
theorem dX9_apart_20 : decode cX9_apart 20 = .ok (.lcmp, 1) := by decide +kernel
theorem dX9_apart_21 : decode cX9_apart 21 = .ok (.ifCond .le 13, 3) := by decide +kernel
theorem dX9_apart_24 : decode cX9_apart 24 = .ok (.new 147, 3) := by decide +kernel
theorem dX9_apart_27 : decode cX9_apart 27 = .ok (.dup, 1) := by decide +kernel
theorem dX9_apart_28 : decode cX9_apart 28 = .ok (.ldc 171, 2) := by decide +kernel
theorem dX9_apart_30 : decode cX9_apart 30 = .ok (.invokespecial 151, 3) := by decide +kernel
theorem dX9_apart_33 : decode cX9_apart 33 = .ok (.athrow, 1) := by decide +kernel
theorem dX9_apart_34 : decode cX9_apart 34 = .ok (.iload_n 1, 1) := by decide +kernel
theorem dX9_apart_35 : decode cX9_apart 35 = .ok (.iload_n 2, 1) := by decide +kernel
theorem dX9_apart_36 : decode cX9_apart 36 = .ok (.if_icmp .eq 12, 3) := by decide +kernel
theorem dX9_apart_39 : decode cX9_apart 39 = .ok (.aload_n 0, 1) := by decide +kernel
theorem dX9_apart_40 : decode cX9_apart 40 = .ok (.getfield 173, 3) := by decide +kernel
theorem dX9_apart_43 : decode cX9_apart 43 = .ok (.bipush 20, 2) := by decide +kernel
theorem dX9_apart_45 : decode cX9_apart 45 = .ok (.if_icmp .lt 5, 3) := by decide +kernel
theorem dX9_apart_48 : decode cX9_apart 48 = .ok (.iconst 0, 1) := by decide +kernel
theorem dX9_apart_49 : decode cX9_apart 49 = .ok (.ireturn, 1) := by decide +kernel
theorem dX9_apart_50 : decode cX9_apart 50 = .ok (.aload_n 0, 1) := by decide +kernel
theorem dX9_apart_51 : decode cX9_apart 51 = .ok (.getfield 35, 3) := by decide +kernel
theorem dX9_apart_54 : decode cX9_apart 54 = .ok (.aload_n 0, 1) := by decide +kernel
theorem dX9_apart_55 : decode cX9_apart 55 = .ok (.getfield 173, 3) := by decide +kernel
theorem dX9_apart_58 : decode cX9_apart 58 = .ok (.new 33, 3) := by decide +kernel
theorem dX9_apart_61 : decode cX9_apart 61 = .ok (.dup, 1) := by decide +kernel
theorem dX9_apart_62 : decode cX9_apart 62 = .ok (.iload_n 1, 1) := by decide +kernel
theorem dX9_apart_63 : decode cX9_apart 63 = .ok (.iload_n 2, 1) := by decide +kernel
theorem dX9_apart_64 : decode cX9_apart 64 = .ok (.lload_n 3, 1) := by decide +kernel
theorem dX9_apart_65 : decode cX9_apart 65 = .ok (.invokespecial 176, 3) := by decide +kernel
theorem dX9_apart_68 : decode cX9_apart 68 = .ok (.aastore, 1) := by decide +kernel
theorem dX9_apart_69 : decode cX9_apart 69 = .ok (.aload_n 0, 1) := by decide +kernel
theorem dX9_apart_70 : decode cX9_apart 70 = .ok (.dup, 1) := by decide +kernel
theorem dX9_apart_71 : decode cX9_apart 71 = .ok (.getfield 173, 3) := by decide +kernel
theorem dX9_apart_74 : decode cX9_apart 74 = .ok (.iconst 1, 1) := by decide +kernel
theorem dX9_apart_75 : decode cX9_apart 75 = .ok (.iadd, 1) := by decide +kernel
theorem dX9_apart_76 : decode cX9_apart 76 = .ok (.putfield 173, 3) := by decide +kernel
theorem dX9_apart_79 : decode cX9_apart 79 = .ok (.iconst 1, 1) := by decide +kernel
theorem dX9_apart_80 : decode cX9_apart 80 = .ok (.ireturn, 1) := by decide +kernel
theorem dX9_violation_0 : decode cX9_violation 0 = .ok (.iload_n 2, 1) := by decide +kernel
theorem dX9_violation_1 : decode cX9_violation 1 = .ok (.ifCond .eq 18, 3) := by decide +kernel
theorem dX9_violation_4 : decode cX9_violation 4 = .ok (.iload_n 2, 1) := by decide +kernel
theorem dX9_violation_5 : decode cX9_violation 5 = .ok (.iconst 1, 1) := by decide +kernel
theorem dX9_violation_6 : decode cX9_violation 6 = .ok (.if_icmp .eq 13, 3) := by decide +kernel
theorem dX9_violation_9 : decode cX9_violation 9 = .ok (.new 140, 3) := by decide +kernel
theorem dX9_violation_12 : decode cX9_violation 12 = .ok (.dup, 1) := by decide +kernel
theorem dX9_violation_13 : decode cX9_violation 13 = .ok (.ldc 179, 2) := by decide +kernel
theorem dX9_violation_15 : decode cX9_violation 15 = .ok (.invokespecial 144, 3) := by decide +kernel
theorem dX9_violation_18 : decode cX9_violation 18 = .ok (.athrow, 1) := by decide +kernel
theorem dX9_violation_19 : decode cX9_violation 19 = .ok (.iconst 0, 1) := by decide +kernel
theorem dX9_violation_20 : decode cX9_violation 20 = .ok (.istore_n 3, 1) := by decide +kernel
theorem dX9_violation_21 : decode cX9_violation 21 = .ok (.iconst 0, 1) := by decide +kernel
theorem dX9_violation_22 : decode cX9_violation 22 = .ok (.istore 4, 2) := by decide +kernel
theorem dX9_violation_24 : decode cX9_violation 24 = .ok (.iload 4, 2) := by decide +kernel
theorem dX9_violation_26 : decode cX9_violation 26 = .ok (.bipush 20, 2) := by decide +kernel
theorem dX9_violation_28 : decode cX9_violation 28 = .ok (.if_icmp .ge 64, 3) := by decide +kernel
theorem dX9_violation_31 : decode cX9_violation 31 = .ok (.aload_n 0, 1) := by decide +kernel
theorem dX9_violation_32 : decode cX9_violation 32 = .ok (.getfield 35, 3) := by decide +kernel
theorem dX9_violation_35 : decode cX9_violation 35 = .ok (.iload 4, 2) := by decide +kernel
theorem dX9_violation_37 : decode cX9_violation 37 = .ok (.aaload, 1) := by decide +kernel
theorem dX9_violation_38 : decode cX9_violation 38 = .ok (.astore 5, 2) := by decide +kernel
theorem dX9_violation_40 : decode cX9_violation 40 = .ok (.aload 5, 2) := by decide +kernel
theorem dX9_violation_42 : decode cX9_violation 42 = .ok (.ifnull 44, 3) := by decide +kernel
theorem dX9_violation_45 : decode cX9_violation 45 = .ok (.aload 5, 2) := by decide +kernel
theorem dX9_violation_47 : decode cX9_violation 47 = .ok (.aload_n 0, 1) := by decide +kernel
theorem dX9_violation_48 : decode cX9_violation 48 = .ok (.getfield 16, 3) := by decide +kernel
theorem dX9_violation_51 : decode cX9_violation 51 = .ok (.invokevirtual 181, 3) := by decide +kernel
theorem dX9_violation_54 : decode cX9_violation 54 = .ok (.ifCond .ne 6, 3) := by decide +kernel
theorem dX9_violation_57 : decode cX9_violation 57 = .ok (.goto 29, 3) := by decide +kernel
theorem dX9_violation_60 : decode cX9_violation 60 = .ok (.iload_n 3, 1) := by decide +kernel
theorem dX9_violation_61 : decode cX9_violation 61 = .ok (.iload_n 1, 1) := by decide +kernel
theorem dX9_violation_62 : decode cX9_violation 62 = .ok (.if_icmp .ne 21, 3) := by decide +kernel
theorem dX9_violation_65 : decode cX9_violation 65 = .ok (.iload_n 2, 1) := by decide +kernel
theorem dX9_violation_66 : decode cX9_violation 66 = .ok (.ifCond .ne 11, 3) := by decide +kernel
theorem dX9_violation_69 : decode cX9_violation 69 = .ok (.aload 5, 2) := by decide +kernel
theorem dX9_violation_71 : decode cX9_violation 71 = .ok (.getfield 185, 3) := by decide +kernel
theorem dX9_violation_74 : decode cX9_violation 74 = .ok (.goto 8, 3) := by decide +kernel
theorem dX9_violation_77 : decode cX9_violation 77 = .ok (.aload 5, 2) := by decide +kernel
theorem dX9_violation_79 : decode cX9_violation 79 = .ok (.getfield 188, 3) := by decide +kernel
theorem dX9_violation_82 : decode cX9_violation 82 = .ok (.ireturn, 1) := by decide +kernel
theorem dX9_violation_83 : decode cX9_violation 83 = .ok (.iinc 3 1, 3) := by decide +kernel
theorem dX9_violation_86 : decode cX9_violation 86 = .ok (.iinc 4 1, 3) := by decide +kernel
theorem dX9_violation_89 : decode cX9_violation 89 = .ok (.goto (-65), 3) := by decide +kernel
theorem dX9_violation_92 : decode cX9_violation 92 = .ok (.iconst (-1), 1) := by decide +kernel
theorem dX9_violation_93 : decode cX9_violation 93 = .ok (.ireturn, 1) := by decide +kernel
theorem dX9_version_0 : decode cX9_version 0 = .ok (.aload_n 0, 1) := by decide +kernel
theorem dX9_version_1 : decode cX9_version 1 = .ok (.getfield 50, 3) := by decide +kernel
theorem dX9_version_4 : decode cX9_version 4 = .ok (.iconst 1, 1) := by decide +kernel
theorem dX9_version_5 : decode cX9_version 5 = .ok (.isub, 1) := by decide +kernel
theorem dX9_version_6 : decode cX9_version 6 = .ok (.ireturn, 1) := by decide +kernel
theorem dX9_difference_0 : decode cX9_difference 0 = .ok (.aload_n 0, 1) := by decide +kernel
theorem dX9_difference_1 : decode cX9_difference 1 = .ok (.iload_n 1, 1) := by decide +kernel
theorem dX9_difference_2 : decode cX9_difference 2 = .ok (.invokevirtual 191, 3) := by decide +kernel
theorem dX9_difference_5 : decode cX9_difference 5 = .ok (.astore 4, 2) := by decide +kernel
theorem dX9_difference_7 : decode cX9_difference 7 = .ok (.aload_n 0, 1) := by decide +kernel
theorem dX9_difference_8 : decode cX9_difference 8 = .ok (.iload_n 2, 1) := by decide +kernel
theorem dX9_difference_9 : decode cX9_difference 9 = .ok (.invokevirtual 191, 3) := by decide +kernel
theorem dX9_difference_12 : decode cX9_difference 12 = .ok (.astore 5, 2) := by decide +kernel
theorem dX9_difference_14 : decode cX9_difference 14 = .ok (.iconst 0, 1) := by decide +kernel
theorem dX9_difference_15 : decode cX9_difference 15 = .ok (.istore 6, 2) := by decide +kernel
theorem dX9_difference_17 : decode cX9_difference 17 = .ok (.iconst 0, 1) := by decide +kernel
theorem dX9_difference_18 : decode cX9_difference 18 = .ok (.istore 7, 2) := by decide +kernel
theorem dX9_difference_20 : decode cX9_difference 20 = .ok (.iload 7, 2) := by decide +kernel
theorem dX9_difference_22 : decode cX9_difference 22 = .ok (.bipush 60, 2) := by decide +kernel
theorem dX9_difference_24 : decode cX9_difference 24 = .ok (.if_icmp .ge 68, 3) := by decide +kernel
theorem dX9_difference_27 : decode cX9_difference 27 = .ok (.iconst 0, 1) := by decide +kernel
theorem dX9_difference_28 : decode cX9_difference 28 = .ok (.istore 8, 2) := by decide +kernel
theorem dX9_difference_30 : decode cX9_difference 30 = .ok (.iload 8, 2) := by decide +kernel
theorem dX9_difference_32 : decode cX9_difference 32 = .ok (.bipush 7, 2) := by decide +kernel
theorem dX9_difference_34 : decode cX9_difference 34 = .ok (.if_icmp .ge 52, 3) := by decide +kernel
theorem dX9_difference_37 : decode cX9_difference 37 = .ok (.aload 4, 2) := by decide +kernel
theorem dX9_difference_39 : decode cX9_difference 39 = .ok (.iload 7, 2) := by decide +kernel
theorem dX9_difference_41 : decode cX9_difference 41 = .ok (.invokevirtual 195, 3) := by decide +kernel
theorem dX9_difference_44 : decode cX9_difference 44 = .ok (.aload 5, 2) := by decide +kernel
theorem dX9_difference_46 : decode cX9_difference 46 = .ok (.iload 7, 2) := by decide +kernel
theorem dX9_difference_48 : decode cX9_difference 48 = .ok (.invokevirtual 195, 3) := by decide +kernel
theorem dX9_difference_51 : decode cX9_difference 51 = .ok (.iload 8, 2) := by decide +kernel
theorem dX9_difference_53 : decode cX9_difference 53 = .ok (.invokestatic 199, 3) := by decide +kernel
theorem dX9_difference_56 : decode cX9_difference 56 = .ok (.ifCond .ne 6, 3) := by decide +kernel
theorem dX9_difference_59 : decode cX9_difference 59 = .ok (.goto 21, 3) := by decide +kernel
theorem dX9_difference_62 : decode cX9_difference 62 = .ok (.iload 6, 2) := by decide +kernel
theorem dX9_difference_64 : decode cX9_difference 64 = .ok (.iload_n 3, 1) := by decide +kernel
theorem dX9_difference_65 : decode cX9_difference 65 = .ok (.if_icmp .ne 12, 3) := by decide +kernel
theorem dX9_difference_68 : decode cX9_difference 68 = .ok (.bipush 8, 2) := by decide +kernel
theorem dX9_difference_70 : decode cX9_difference 70 = .ok (.iload 7, 2) := by decide +kernel
theorem dX9_difference_72 : decode cX9_difference 72 = .ok (.imul, 1) := by decide +kernel
theorem dX9_difference_73 : decode cX9_difference 73 = .ok (.iload 8, 2) := by decide +kernel
theorem dX9_difference_75 : decode cX9_difference 75 = .ok (.iadd, 1) := by decide +kernel
theorem dX9_difference_76 : decode cX9_difference 76 = .ok (.ireturn, 1) := by decide +kernel
theorem dX9_difference_77 : decode cX9_difference 77 = .ok (.iinc 6 1, 3) := by decide +kernel
theorem dX9_difference_80 : decode cX9_difference 80 = .ok (.iinc 8 1, 3) := by decide +kernel
theorem dX9_difference_83 : decode cX9_difference 83 = .ok (.goto (-53), 3) := by decide +kernel
theorem dX9_difference_86 : decode cX9_difference 86 = .ok (.iinc 7 1, 3) := by decide +kernel
theorem dX9_difference_89 : decode cX9_difference 89 = .ok (.goto (-69), 3) := by decide +kernel
theorem dX9_difference_92 : decode cX9_difference 92 = .ok (.iconst (-1), 1) := by decide +kernel
theorem dX9_difference_93 : decode cX9_difference 93 = .ok (.ireturn, 1) := by decide +kernel
theorem dX9_undo_0 : decode cX9_undo 0 = .ok (.aload_n 0, 1) := by decide +kernel
theorem dX9_undo_1 : decode cX9_undo 1 = .ok (.iload_n 1, 1) := by decide +kernel
theorem dX9_undo_2 : decode cX9_undo 2 = .ok (.invokevirtual 90, 3) := by decide +kernel
theorem dX9_undo_5 : decode cX9_undo 5 = .ok (.astore_n 2, 1) := by decide +kernel
theorem dX9_undo_6 : decode cX9_undo 6 = .ok (.aload_n 2, 1) := by decide +kernel
theorem dX9_undo_7 : decode cX9_undo 7 = .ok (.invokestatic 100, 3) := by decide +kernel
theorem dX9_undo_10 : decode cX9_undo 10 = .ok (.aload_n 2, 1) := by decide +kernel
theorem dX9_undo_11 : decode cX9_undo 11 = .ok (.invokevirtual 203, 3) := by decide +kernel
theorem dX9_undo_14 : decode cX9_undo 14 = .ok (.ireturn, 1) := by decide +kernel
theorem dX9_branch_0 : decode cX9_branch 0 = .ok (.aload_n 0, 1) := by decide +kernel
theorem dX9_branch_1 : decode cX9_branch 1 = .ok (.iload_n 1, 1) := by decide +kernel
theorem dX9_branch_2 : decode cX9_branch 2 = .ok (.invokevirtual 191, 3) := by decide +kernel
theorem dX9_branch_5 : decode cX9_branch 5 = .ok (.astore_n 2, 1) := by decide +kernel
theorem dX9_branch_6 : decode cX9_branch 6 = .ok (.aload_n 0, 1) := by decide +kernel
theorem dX9_branch_7 : decode cX9_branch 7 = .ok (.getfield 80, 3) := by decide +kernel
theorem dX9_branch_10 : decode cX9_branch 10 = .ok (.bipush 20, 2) := by decide +kernel
theorem dX9_branch_12 : decode cX9_branch 12 = .ok (.if_icmp .lt 7, 3) := by decide +kernel
theorem dX9_branch_15 : decode cX9_branch 15 = .ok (.iconst (-1), 1) := by decide +kernel
theorem dX9_branch_16 : decode cX9_branch 16 = .ok (.goto 11, 3) := by decide +kernel
theorem dX9_branch_19 : decode cX9_branch 19 = .ok (.aload_n 0, 1) := by decide +kernel
theorem dX9_branch_20 : decode cX9_branch 20 = .ok (.aload_n 2, 1) := by decide +kernel
theorem dX9_branch_21 : decode cX9_branch 21 = .ok (.invokevirtual 83, 3) := by decide +kernel
theorem dX9_branch_24 : decode cX9_branch 24 = .ok (.getfield 87, 3) := by decide +kernel
theorem dX9_branch_27 : decode cX9_branch 27 = .ok (.ireturn, 1) := by decide +kernel
theorem dX9_play_0 : decode cX9_play 0 = .ok (.iload_n 3, 1) := by decide +kernel
theorem dX9_play_1 : decode cX9_play 1 = .ok (.ifCond .lt 9, 3) := by decide +kernel
theorem dX9_play_4 : decode cX9_play 4 = .ok (.iload_n 3, 1) := by decide +kernel
theorem dX9_play_5 : decode cX9_play 5 = .ok (.bipush 100, 2) := by decide +kernel
theorem dX9_play_7 : decode cX9_play 7 = .ok (.if_icmp .le 13, 3) := by decide +kernel
theorem dX9_play_10 : decode cX9_play 10 = .ok (.new 147, 3) := by decide +kernel
theorem dX9_play_13 : decode cX9_play 13 = .ok (.dup, 1) := by decide +kernel
theorem dX9_play_14 : decode cX9_play 14 = .ok (.ldc 207, 2) := by decide +kernel
theorem dX9_play_16 : decode cX9_play 16 = .ok (.invokespecial 151, 3) := by decide +kernel
theorem dX9_play_19 : decode cX9_play 19 = .ok (.athrow, 1) := by decide +kernel
theorem dX9_play_20 : decode cX9_play 20 = .ok (.aload_n 0, 1) := by decide +kernel
theorem dX9_play_21 : decode cX9_play 21 = .ok (.getfield 80, 3) := by decide +kernel
theorem dX9_play_24 : decode cX9_play 24 = .ok (.bipush 20, 2) := by decide +kernel
theorem dX9_play_26 : decode cX9_play 26 = .ok (.if_icmp .ge 12, 3) := by decide +kernel
theorem dX9_play_29 : decode cX9_play 29 = .ok (.aload_n 0, 1) := by decide +kernel
theorem dX9_play_30 : decode cX9_play 30 = .ok (.getfield 50, 3) := by decide +kernel
theorem dX9_play_33 : decode cX9_play 33 = .ok (.bipush 40, 2) := by decide +kernel
theorem dX9_play_35 : decode cX9_play 35 = .ok (.if_icmp .lt 5, 3) := by decide +kernel
theorem dX9_play_38 : decode cX9_play 38 = .ok (.iconst (-1), 1) := by decide +kernel
theorem dX9_play_39 : decode cX9_play 39 = .ok (.ireturn, 1) := by decide +kernel
theorem dX9_play_40 : decode cX9_play 40 = .ok (.aload_n 0, 1) := by decide +kernel
theorem dX9_play_41 : decode cX9_play 41 = .ok (.aload_n 0, 1) := by decide +kernel
theorem dX9_play_42 : decode cX9_play 42 = .ok (.getfield 16, 3) := by decide +kernel
theorem dX9_play_45 : decode cX9_play 45 = .ok (.invokevirtual 83, 3) := by decide +kernel
theorem dX9_play_48 : decode cX9_play 48 = .ok (.astore 4, 2) := by decide +kernel
theorem dX9_play_50 : decode cX9_play 50 = .ok (.new 209, 3) := by decide +kernel
theorem dX9_play_53 : decode cX9_play 53 = .ok (.dup, 1) := by decide +kernel
theorem dX9_play_54 : decode cX9_play 54 = .ok (.lload_n 1, 1) := by decide +kernel
theorem dX9_play_55 : decode cX9_play 55 = .ok (.invokespecial 211, 3) := by decide +kernel
theorem dX9_play_58 : decode cX9_play 58 = .ok (.astore 5, 2) := by decide +kernel
theorem dX9_play_60 : decode cX9_play 60 = .ok (.iconst 0, 1) := by decide +kernel
theorem dX9_play_61 : decode cX9_play 61 = .ok (.istore 6, 2) := by decide +kernel
theorem dX9_play_63 : decode cX9_play 63 = .ok (.iconst 0, 1) := by decide +kernel
theorem dX9_play_64 : decode cX9_play 64 = .ok (.istore 7, 2) := by decide +kernel
theorem dX9_play_66 : decode cX9_play 66 = .ok (.iload 7, 2) := by decide +kernel
theorem dX9_play_68 : decode cX9_play 68 = .ok (.iload_n 3, 1) := by decide +kernel
theorem dX9_play_69 : decode cX9_play 69 = .ok (.if_icmp .ge 23, 3) := by decide +kernel
theorem dX9_play_72 : decode cX9_play 72 = .ok (.aload_n 0, 1) := by decide +kernel
theorem dX9_play_73 : decode cX9_play 73 = .ok (.aload 4, 2) := by decide +kernel
theorem dX9_play_75 : decode cX9_play 75 = .ok (.aload 5, 2) := by decide +kernel
theorem dX9_play_77 : decode cX9_play 77 = .ok (.invokevirtual 214, 3) := by decide +kernel
theorem dX9_play_80 : decode cX9_play 80 = .ok (.ifCond .eq 6, 3) := by decide +kernel
theorem dX9_play_83 : decode cX9_play 83 = .ok (.iinc 6 1, 3) := by decide +kernel
theorem dX9_play_86 : decode cX9_play 86 = .ok (.iinc 7 1, 3) := by decide +kernel
theorem dX9_play_89 : decode cX9_play 89 = .ok (.goto (-23), 3) := by decide +kernel
theorem dX9_play_92 : decode cX9_play 92 = .ok (.aload_n 0, 1) := by decide +kernel
theorem dX9_play_93 : decode cX9_play 93 = .ok (.aload 4, 2) := by decide +kernel
theorem dX9_play_95 : decode cX9_play 95 = .ok (.invokevirtual 122, 3) := by decide +kernel
theorem dX9_play_98 : decode cX9_play 98 = .ok (.pop, 1) := by decide +kernel
theorem dX9_play_99 : decode cX9_play 99 = .ok (.iload 6, 2) := by decide +kernel
theorem dX9_play_101 : decode cX9_play 101 = .ok (.ireturn, 1) := by decide +kernel
theorem dX9_mark_0 : decode cX9_mark 0 = .ok (.aload_n 0, 1) := by decide +kernel
theorem dX9_mark_1 : decode cX9_mark 1 = .ok (.iload_n 1, 1) := by decide +kernel
theorem dX9_mark_2 : decode cX9_mark 2 = .ok (.invokevirtual 94, 3) := by decide +kernel
theorem dX9_mark_5 : decode cX9_mark 5 = .ok (.aload_n 0, 1) := by decide +kernel
theorem dX9_mark_6 : decode cX9_mark 6 = .ok (.getfield 16, 3) := by decide +kernel
theorem dX9_mark_9 : decode cX9_mark 9 = .ok (.iload_n 1, 1) := by decide +kernel
theorem dX9_mark_10 : decode cX9_mark 10 = .ok (.invokevirtual 195, 3) := by decide +kernel
theorem dX9_mark_13 : decode cX9_mark 13 = .ok (.ifnonnull 13, 3) := by decide +kernel
theorem dX9_mark_16 : decode cX9_mark 16 = .ok (.new 140, 3) := by decide +kernel
theorem dX9_mark_19 : decode cX9_mark 19 = .ok (.dup, 1) := by decide +kernel
theorem dX9_mark_20 : decode cX9_mark 20 = .ok (.ldc 218, 2) := by decide +kernel
theorem dX9_mark_22 : decode cX9_mark 22 = .ok (.invokespecial 144, 3) := by decide +kernel
theorem dX9_mark_25 : decode cX9_mark 25 = .ok (.athrow, 1) := by decide +kernel
theorem dX9_mark_26 : decode cX9_mark 26 = .ok (.iload_n 2, 1) := by decide +kernel
theorem dX9_mark_27 : decode cX9_mark 27 = .ok (.ifCond .lt 9, 3) := by decide +kernel
theorem dX9_mark_30 : decode cX9_mark 30 = .ok (.iload_n 2, 1) := by decide +kernel
theorem dX9_mark_31 : decode cX9_mark 31 = .ok (.bipush 32, 2) := by decide +kernel
theorem dX9_mark_33 : decode cX9_mark 33 = .ok (.if_icmp .lt 13, 3) := by decide +kernel
theorem dX9_mark_36 : decode cX9_mark 36 = .ok (.new 147, 3) := by decide +kernel
theorem dX9_mark_39 : decode cX9_mark 39 = .ok (.dup, 1) := by decide +kernel
theorem dX9_mark_40 : decode cX9_mark 40 = .ok (.ldc 220, 2) := by decide +kernel
theorem dX9_mark_42 : decode cX9_mark 42 = .ok (.invokespecial 151, 3) := by decide +kernel
theorem dX9_mark_45 : decode cX9_mark 45 = .ok (.athrow, 1) := by decide +kernel
theorem dX9_mark_46 : decode cX9_mark 46 = .ok (.aload_n 0, 1) := by decide +kernel
theorem dX9_mark_47 : decode cX9_mark 47 = .ok (.getfield 46, 3) := by decide +kernel
theorem dX9_mark_50 : decode cX9_mark 50 = .ok (.iload_n 1, 1) := by decide +kernel
theorem dX9_mark_51 : decode cX9_mark 51 = .ok (.dup2, 1) := by decide +kernel
theorem dX9_mark_52 : decode cX9_mark 52 = .ok (.iaload, 1) := by decide +kernel
theorem dX9_mark_53 : decode cX9_mark 53 = .ok (.iconst 1, 1) := by decide +kernel
theorem dX9_mark_54 : decode cX9_mark 54 = .ok (.iload_n 2, 1) := by decide +kernel
theorem dX9_mark_55 : decode cX9_mark 55 = .ok (.ishl, 1) := by decide +kernel
theorem dX9_mark_56 : decode cX9_mark 56 = .ok (.ior, 1) := by decide +kernel
theorem dX9_mark_57 : decode cX9_mark 57 = .ok (.iastore, 1) := by decide +kernel
theorem dX9_mark_58 : decode cX9_mark 58 = .ok (.aload_n 0, 1) := by decide +kernel
theorem dX9_mark_59 : decode cX9_mark 59 = .ok (.getfield 46, 3) := by decide +kernel
theorem dX9_mark_62 : decode cX9_mark 62 = .ok (.iload_n 1, 1) := by decide +kernel
theorem dX9_mark_63 : decode cX9_mark 63 = .ok (.iaload, 1) := by decide +kernel
theorem dX9_mark_64 : decode cX9_mark 64 = .ok (.invokestatic 222, 3) := by decide +kernel
theorem dX9_mark_67 : decode cX9_mark 67 = .ok (.ireturn, 1) := by decide +kernel
theorem dX9_sessionOf_0 : decode cX9_sessionOf 0 = .ok (.iload_n 1, 1) := by decide +kernel
theorem dX9_sessionOf_1 : decode cX9_sessionOf 1 = .ok (.ifCond .lt 11, 3) := by decide +kernel
theorem dX9_sessionOf_4 : decode cX9_sessionOf 4 = .ok (.iload_n 1, 1) := by decide +kernel
theorem dX9_sessionOf_5 : decode cX9_sessionOf 5 = .ok (.aload_n 0, 1) := by decide +kernel
theorem dX9_sessionOf_6 : decode cX9_sessionOf 6 = .ok (.getfield 80, 3) := by decide +kernel
theorem dX9_sessionOf_9 : decode cX9_sessionOf 9 = .ok (.if_icmp .lt 7, 3) := by decide +kernel
theorem dX9_sessionOf_12 : decode cX9_sessionOf 12 = .ok (.aconst_null, 1) := by decide +kernel
theorem dX9_sessionOf_13 : decode cX9_sessionOf 13 = .ok (.goto 9, 3) := by decide +kernel
theorem dX9_sessionOf_16 : decode cX9_sessionOf 16 = .ok (.aload_n 0, 1) := by decide +kernel
theorem dX9_sessionOf_17 : decode cX9_sessionOf 17 = .ok (.getfield 22, 3) := by decide +kernel
theorem dX9_sessionOf_20 : decode cX9_sessionOf 20 = .ok (.iload_n 1, 1) := by decide +kernel
theorem dX9_sessionOf_21 : decode cX9_sessionOf 21 = .ok (.aaload, 1) := by decide +kernel
theorem dX9_sessionOf_22 : decode cX9_sessionOf 22 = .ok (.astore_n 2, 1) := by decide +kernel
theorem dX9_sessionOf_23 : decode cX9_sessionOf 23 = .ok (.aload_n 2, 1) := by decide +kernel
theorem dX9_sessionOf_24 : decode cX9_sessionOf 24 = .ok (.ifnonnull 13, 3) := by decide +kernel
theorem dX9_sessionOf_27 : decode cX9_sessionOf 27 = .ok (.new 140, 3) := by decide +kernel
theorem dX9_sessionOf_30 : decode cX9_sessionOf 30 = .ok (.dup, 1) := by decide +kernel
theorem dX9_sessionOf_31 : decode cX9_sessionOf 31 = .ok (.ldc 227, 2) := by decide +kernel
theorem dX9_sessionOf_33 : decode cX9_sessionOf 33 = .ok (.invokespecial 144, 3) := by decide +kernel
theorem dX9_sessionOf_36 : decode cX9_sessionOf 36 = .ok (.athrow, 1) := by decide +kernel
theorem dX9_sessionOf_37 : decode cX9_sessionOf 37 = .ok (.aload_n 2, 1) := by decide +kernel
theorem dX9_sessionOf_38 : decode cX9_sessionOf 38 = .ok (.areturn, 1) := by decide +kernel
theorem dX9_versionOf_0 : decode cX9_versionOf 0 = .ok (.iload_n 1, 1) := by decide +kernel
theorem dX9_versionOf_1 : decode cX9_versionOf 1 = .ok (.ifCond .lt 11, 3) := by decide +kernel
theorem dX9_versionOf_4 : decode cX9_versionOf 4 = .ok (.iload_n 1, 1) := by decide +kernel
theorem dX9_versionOf_5 : decode cX9_versionOf 5 = .ok (.aload_n 0, 1) := by decide +kernel
theorem dX9_versionOf_6 : decode cX9_versionOf 6 = .ok (.getfield 50, 3) := by decide +kernel
theorem dX9_versionOf_9 : decode cX9_versionOf 9 = .ok (.if_icmp .lt 7, 3) := by decide +kernel
theorem dX9_versionOf_12 : decode cX9_versionOf 12 = .ok (.aconst_null, 1) := by decide +kernel
theorem dX9_versionOf_13 : decode cX9_versionOf 13 = .ok (.goto 9, 3) := by decide +kernel
theorem dX9_versionOf_16 : decode cX9_versionOf 16 = .ok (.aload_n 0, 1) := by decide +kernel
theorem dX9_versionOf_17 : decode cX9_versionOf 17 = .ok (.getfield 11, 3) := by decide +kernel
theorem dX9_versionOf_20 : decode cX9_versionOf 20 = .ok (.iload_n 1, 1) := by decide +kernel
theorem dX9_versionOf_21 : decode cX9_versionOf 21 = .ok (.aaload, 1) := by decide +kernel
theorem dX9_versionOf_22 : decode cX9_versionOf 22 = .ok (.astore_n 2, 1) := by decide +kernel
theorem dX9_versionOf_23 : decode cX9_versionOf 23 = .ok (.aload_n 2, 1) := by decide +kernel
theorem dX9_versionOf_24 : decode cX9_versionOf 24 = .ok (.ifnonnull 13, 3) := by decide +kernel
theorem dX9_versionOf_27 : decode cX9_versionOf 27 = .ok (.new 140, 3) := by decide +kernel
theorem dX9_versionOf_30 : decode cX9_versionOf 30 = .ok (.dup, 1) := by decide +kernel
theorem dX9_versionOf_31 : decode cX9_versionOf 31 = .ok (.ldc 229, 2) := by decide +kernel
theorem dX9_versionOf_33 : decode cX9_versionOf 33 = .ok (.invokespecial 144, 3) := by decide +kernel
theorem dX9_versionOf_36 : decode cX9_versionOf 36 = .ok (.athrow, 1) := by decide +kernel
theorem dX9_versionOf_37 : decode cX9_versionOf 37 = .ok (.aload_n 2, 1) := by decide +kernel
theorem dX9_versionOf_38 : decode cX9_versionOf 38 = .ok (.areturn, 1) := by decide +kernel
theorem dX9_sessionOfConflict_0 : decode cX9_sessionOfConflict 0 = .ok (.aload_n 0, 1) := by decide +kernel
theorem dX9_sessionOfConflict_1 : decode cX9_sessionOfConflict 1 = .ok (.getfield 42, 3) := by decide +kernel
theorem dX9_sessionOfConflict_4 : decode cX9_sessionOfConflict 4 = .ok (.iload_n 1, 1) := by decide +kernel
theorem dX9_sessionOfConflict_5 : decode cX9_sessionOfConflict 5 = .ok (.invokevirtual 231, 3) := by decide +kernel
theorem dX9_sessionOfConflict_8 : decode cX9_sessionOfConflict 8 = .ok (.ifCond .eq 13, 3) := by decide +kernel
theorem dX9_sessionOfConflict_11 : decode cX9_sessionOfConflict 11 = .ok (.aload_n 0, 1) := by decide +kernel
theorem dX9_sessionOfConflict_12 : decode cX9_sessionOfConflict 12 = .ok (.getfield 42, 3) := by decide +kernel
theorem dX9_sessionOfConflict_15 : decode cX9_sessionOfConflict 15 = .ok (.getfield 235, 3) := by decide +kernel
theorem dX9_sessionOfConflict_18 : decode cX9_sessionOfConflict 18 = .ok (.goto 4, 3) := by decide +kernel
theorem dX9_sessionOfConflict_21 : decode cX9_sessionOfConflict 21 = .ok (.aconst_null, 1) := by decide +kernel
theorem dX9_sessionOfConflict_22 : decode cX9_sessionOfConflict 22 = .ok (.astore_n 2, 1) := by decide +kernel
theorem dX9_sessionOfConflict_23 : decode cX9_sessionOfConflict 23 = .ok (.aload_n 2, 1) := by decide +kernel
theorem dX9_sessionOfConflict_24 : decode cX9_sessionOfConflict 24 = .ok (.ifnonnull 13, 3) := by decide +kernel
theorem dX9_sessionOfConflict_27 : decode cX9_sessionOfConflict 27 = .ok (.new 140, 3) := by decide +kernel
theorem dX9_sessionOfConflict_30 : decode cX9_sessionOfConflict 30 = .ok (.dup, 1) := by decide +kernel
theorem dX9_sessionOfConflict_31 : decode cX9_sessionOfConflict 31 = .ok (.ldc 239, 2) := by decide +kernel
theorem dX9_sessionOfConflict_33 : decode cX9_sessionOfConflict 33 = .ok (.invokespecial 144, 3) := by decide +kernel
theorem dX9_sessionOfConflict_36 : decode cX9_sessionOfConflict 36 = .ok (.athrow, 1) := by decide +kernel
theorem dX9_sessionOfConflict_37 : decode cX9_sessionOfConflict 37 = .ok (.aload_n 2, 1) := by decide +kernel
theorem dX9_sessionOfConflict_38 : decode cX9_sessionOfConflict 38 = .ok (.areturn, 1) := by decide +kernel
theorem dX9_rowOf_0 : decode cX9_rowOf 0 = .ok (.aload_n 0, 1) := by decide +kernel
theorem dX9_rowOf_1 : decode cX9_rowOf 1 = .ok (.iload_n 1, 1) := by decide +kernel
theorem dX9_rowOf_2 : decode cX9_rowOf 2 = .ok (.invokevirtual 195, 3) := by decide +kernel
theorem dX9_rowOf_5 : decode cX9_rowOf 5 = .ok (.astore_n 2, 1) := by decide +kernel
theorem dX9_rowOf_6 : decode cX9_rowOf 6 = .ok (.aload_n 2, 1) := by decide +kernel
theorem dX9_rowOf_7 : decode cX9_rowOf 7 = .ok (.ifnonnull 13, 3) := by decide +kernel
theorem dX9_rowOf_10 : decode cX9_rowOf 10 = .ok (.new 241, 3) := by decide +kernel
theorem dX9_rowOf_13 : decode cX9_rowOf 13 = .ok (.dup, 1) := by decide +kernel
theorem dX9_rowOf_14 : decode cX9_rowOf 14 = .ok (.ldc 243, 2) := by decide +kernel
theorem dX9_rowOf_16 : decode cX9_rowOf 16 = .ok (.invokespecial 245, 3) := by decide +kernel
theorem dX9_rowOf_19 : decode cX9_rowOf 19 = .ok (.athrow, 1) := by decide +kernel
theorem dX9_rowOf_20 : decode cX9_rowOf 20 = .ok (.aload_n 2, 1) := by decide +kernel
theorem dX9_rowOf_21 : decode cX9_rowOf 21 = .ok (.areturn, 1) := by decide +kernel
theorem dX9_checkObject_0 : decode cX9_checkObject 0 = .ok (.iload_n 1, 1) := by decide +kernel
theorem dX9_checkObject_1 : decode cX9_checkObject 1 = .ok (.ifCond .lt 11, 3) := by decide +kernel
theorem dX9_checkObject_4 : decode cX9_checkObject 4 = .ok (.iload_n 1, 1) := by decide +kernel
theorem dX9_checkObject_5 : decode cX9_checkObject 5 = .ok (.aload_n 0, 1) := by decide +kernel
theorem dX9_checkObject_6 : decode cX9_checkObject 6 = .ok (.getfield 58, 3) := by decide +kernel
theorem dX9_checkObject_9 : decode cX9_checkObject 9 = .ok (.if_icmp .lt 13, 3) := by decide +kernel
theorem dX9_checkObject_12 : decode cX9_checkObject 12 = .ok (.new 140, 3) := by decide +kernel
theorem dX9_checkObject_15 : decode cX9_checkObject 15 = .ok (.dup, 1) := by decide +kernel
theorem dX9_checkObject_16 : decode cX9_checkObject 16 = .ok (.ldc 246, 2) := by decide +kernel
theorem dX9_checkObject_18 : decode cX9_checkObject 18 = .ok (.invokespecial 144, 3) := by decide +kernel
theorem dX9_checkObject_21 : decode cX9_checkObject 21 = .ok (.athrow, 1) := by decide +kernel
theorem dX9_checkObject_22 : decode cX9_checkObject 22 = .ok (.return_, 1) := by decide +kernel
theorem dX9_checkField_0 : decode cX9_checkField 0 = .ok (.iload_n 0, 1) := by decide +kernel
theorem dX9_checkField_1 : decode cX9_checkField 1 = .ok (.ifCond .lt 9, 3) := by decide +kernel
theorem dX9_checkField_4 : decode cX9_checkField 4 = .ok (.iload_n 0, 1) := by decide +kernel
theorem dX9_checkField_5 : decode cX9_checkField 5 = .ok (.bipush 6, 2) := by decide +kernel
theorem dX9_checkField_7 : decode cX9_checkField 7 = .ok (.if_icmp .lt 13, 3) := by decide +kernel
theorem dX9_checkField_10 : decode cX9_checkField 10 = .ok (.new 140, 3) := by decide +kernel
theorem dX9_checkField_13 : decode cX9_checkField 13 = .ok (.dup, 1) := by decide +kernel
theorem dX9_checkField_14 : decode cX9_checkField 14 = .ok (.ldc 248, 2) := by decide +kernel
theorem dX9_checkField_16 : decode cX9_checkField 16 = .ok (.invokespecial 144, 3) := by decide +kernel
theorem dX9_checkField_19 : decode cX9_checkField 19 = .ok (.athrow, 1) := by decide +kernel
theorem dX9_checkField_20 : decode cX9_checkField 20 = .ok (.return_, 1) := by decide +kernel
theorem dX9_checkOpen_0 : decode cX9_checkOpen 0 = .ok (.aload_n 0, 1) := by decide +kernel
theorem dX9_checkOpen_1 : decode cX9_checkOpen 1 = .ok (.getfield 250, 3) := by decide +kernel
theorem dX9_checkOpen_4 : decode cX9_checkOpen 4 = .ok (.ifCond .ne 13, 3) := by decide +kernel
theorem dX9_checkOpen_7 : decode cX9_checkOpen 7 = .ok (.new 241, 3) := by decide +kernel
theorem dX9_checkOpen_10 : decode cX9_checkOpen 10 = .ok (.dup, 1) := by decide +kernel
theorem dX9_checkOpen_11 : decode cX9_checkOpen 11 = .ok (.ldc 254, 2) := by decide +kernel
theorem dX9_checkOpen_13 : decode cX9_checkOpen 13 = .ok (.invokespecial 245, 3) := by decide +kernel
theorem dX9_checkOpen_16 : decode cX9_checkOpen 16 = .ok (.athrow, 1) := by decide +kernel
theorem dX9_checkOpen_17 : decode cX9_checkOpen 17 = .ok (.return_, 1) := by decide +kernel
theorem dX9_checkKind_0 : decode cX9_checkKind 0 = .ok (.iload_n 0, 1) := by decide +kernel
theorem dX9_checkKind_1 : decode cX9_checkKind 1 = .ok (.ifCond .lt 9, 3) := by decide +kernel
theorem dX9_checkKind_4 : decode cX9_checkKind 4 = .ok (.iload_n 0, 1) := by decide +kernel
theorem dX9_checkKind_5 : decode cX9_checkKind 5 = .ok (.bipush 10, 2) := by decide +kernel
theorem dX9_checkKind_7 : decode cX9_checkKind 7 = .ok (.if_icmp .lt 14, 3) := by decide +kernel
theorem dX9_checkKind_10 : decode cX9_checkKind 10 = .ok (.new 147, 3) := by decide +kernel
theorem dX9_checkKind_13 : decode cX9_checkKind 13 = .ok (.dup, 1) := by decide +kernel
theorem dX9_checkKind_14 : decode cX9_checkKind 14 = .ok (.ldc_w 256, 3) := by decide +kernel
theorem dX9_checkKind_17 : decode cX9_checkKind 17 = .ok (.invokespecial 151, 3) := by decide +kernel
theorem dX9_checkKind_20 : decode cX9_checkKind 20 = .ok (.athrow, 1) := by decide +kernel
theorem dX9_checkKind_21 : decode cX9_checkKind 21 = .ok (.return_, 1) := by decide +kernel
theorem dX9_newNumber_0 : decode cX9_newNumber 0 = .ok (.aload_n 0, 1) := by decide +kernel
theorem dX9_newNumber_1 : decode cX9_newNumber 1 = .ok (.getfield 58, 3) := by decide +kernel
theorem dX9_newNumber_4 : decode cX9_newNumber 4 = .ok (.istore_n 1, 1) := by decide +kernel
theorem dX9_newNumber_5 : decode cX9_newNumber 5 = .ok (.aload_n 0, 1) := by decide +kernel
theorem dX9_newNumber_6 : decode cX9_newNumber 6 = .ok (.dup, 1) := by decide +kernel
theorem dX9_newNumber_7 : decode cX9_newNumber 7 = .ok (.getfield 58, 3) := by decide +kernel
theorem dX9_newNumber_10 : decode cX9_newNumber 10 = .ok (.iconst 1, 1) := by decide +kernel
theorem dX9_newNumber_11 : decode cX9_newNumber 11 = .ok (.iadd, 1) := by decide +kernel
theorem dX9_newNumber_12 : decode cX9_newNumber 12 = .ok (.putfield 58, 3) := by decide +kernel
theorem dX9_newNumber_15 : decode cX9_newNumber 15 = .ok (.iload_n 1, 1) := by decide +kernel
theorem dX9_newNumber_16 : decode cX9_newNumber 16 = .ok (.ireturn, 1) := by decide +kernel
theorem dX9_begin_0 : decode cX9_begin 0 = .ok (.new 20, 3) := by decide +kernel
theorem dX9_begin_3 : decode cX9_begin 3 = .ok (.dup, 1) := by decide +kernel
theorem dX9_begin_4 : decode cX9_begin 4 = .ok (.aload_n 0, 1) := by decide +kernel
theorem dX9_begin_5 : decode cX9_begin 5 = .ok (.getfield 80, 3) := by decide +kernel
theorem dX9_begin_8 : decode cX9_begin 8 = .ok (.aload_n 1, 1) := by decide +kernel
theorem dX9_begin_9 : decode cX9_begin 9 = .ok (.invokespecial 258, 3) := by decide +kernel
theorem dX9_begin_12 : decode cX9_begin 12 = .ok (.astore_n 2, 1) := by decide +kernel
theorem dX9_begin_13 : decode cX9_begin 13 = .ok (.aload_n 0, 1) := by decide +kernel
theorem dX9_begin_14 : decode cX9_begin 14 = .ok (.getfield 80, 3) := by decide +kernel
theorem dX9_begin_17 : decode cX9_begin 17 = .ok (.bipush 20, 2) := by decide +kernel
theorem dX9_begin_19 : decode cX9_begin 19 = .ok (.if_icmp .ge 23, 3) := by decide +kernel
theorem dX9_begin_22 : decode cX9_begin 22 = .ok (.aload_n 0, 1) := by decide +kernel
theorem dX9_begin_23 : decode cX9_begin 23 = .ok (.getfield 22, 3) := by decide +kernel
theorem dX9_begin_26 : decode cX9_begin 26 = .ok (.aload_n 0, 1) := by decide +kernel
theorem dX9_begin_27 : decode cX9_begin 27 = .ok (.getfield 80, 3) := by decide +kernel
theorem dX9_begin_30 : decode cX9_begin 30 = .ok (.aload_n 2, 1) := by decide +kernel
theorem dX9_begin_31 : decode cX9_begin 31 = .ok (.aastore, 1) := by decide +kernel
theorem dX9_begin_32 : decode cX9_begin 32 = .ok (.aload_n 0, 1) := by decide +kernel
theorem dX9_begin_33 : decode cX9_begin 33 = .ok (.dup, 1) := by decide +kernel
theorem dX9_begin_34 : decode cX9_begin 34 = .ok (.getfield 80, 3) := by decide +kernel
theorem dX9_begin_37 : decode cX9_begin 37 = .ok (.iconst 1, 1) := by decide +kernel
theorem dX9_begin_38 : decode cX9_begin 38 = .ok (.iadd, 1) := by decide +kernel
theorem dX9_begin_39 : decode cX9_begin 39 = .ok (.putfield 80, 3) := by decide +kernel
theorem dX9_begin_42 : decode cX9_begin 42 = .ok (.aload_n 2, 1) := by decide +kernel
theorem dX9_begin_43 : decode cX9_begin 43 = .ok (.areturn, 1) := by decide +kernel
theorem dX9_addVersion_0 : decode cX9_addVersion 0 = .ok (.aload_n 0, 1) := by decide +kernel
theorem dX9_addVersion_1 : decode cX9_addVersion 1 = .ok (.getfield 50, 3) := by decide +kernel
theorem dX9_addVersion_4 : decode cX9_addVersion 4 = .ok (.bipush 40, 2) := by decide +kernel
theorem dX9_addVersion_6 : decode cX9_addVersion 6 = .ok (.if_icmp .ge 28, 3) := by decide +kernel
theorem dX9_addVersion_9 : decode cX9_addVersion 9 = .ok (.aload_n 0, 1) := by decide +kernel
theorem dX9_addVersion_10 : decode cX9_addVersion 10 = .ok (.getfield 11, 3) := by decide +kernel
theorem dX9_addVersion_13 : decode cX9_addVersion 13 = .ok (.aload_n 0, 1) := by decide +kernel
theorem dX9_addVersion_14 : decode cX9_addVersion 14 = .ok (.getfield 50, 3) := by decide +kernel
theorem dX9_addVersion_17 : decode cX9_addVersion 17 = .ok (.aload_n 1, 1) := by decide +kernel
theorem dX9_addVersion_18 : decode cX9_addVersion 18 = .ok (.aastore, 1) := by decide +kernel
theorem dX9_addVersion_19 : decode cX9_addVersion 19 = .ok (.aload_n 0, 1) := by decide +kernel
theorem dX9_addVersion_20 : decode cX9_addVersion 20 = .ok (.dup, 1) := by decide +kernel
theorem dX9_addVersion_21 : decode cX9_addVersion 21 = .ok (.getfield 50, 3) := by decide +kernel
theorem dX9_addVersion_24 : decode cX9_addVersion 24 = .ok (.iconst 1, 1) := by decide +kernel
theorem dX9_addVersion_25 : decode cX9_addVersion 25 = .ok (.iadd, 1) := by decide +kernel
theorem dX9_addVersion_26 : decode cX9_addVersion 26 = .ok (.putfield 50, 3) := by decide +kernel
theorem dX9_addVersion_29 : decode cX9_addVersion 29 = .ok (.aload_n 0, 1) := by decide +kernel
theorem dX9_addVersion_30 : decode cX9_addVersion 30 = .ok (.aload_n 1, 1) := by decide +kernel
theorem dX9_addVersion_31 : decode cX9_addVersion 31 = .ok (.putfield 16, 3) := by decide +kernel
theorem dX9_addVersion_34 : decode cX9_addVersion 34 = .ok (.return_, 1) := by decide +kernel
theorem dX9_write_0 : decode cX9_write 0 = .ok (.aload 6, 2) := by decide +kernel
theorem dX9_write_2 : decode cX9_write 2 = .ok (.iload_n 3, 1) := by decide +kernel
theorem dX9_write_3 : decode cX9_write 3 = .ok (.invokevirtual 156, 3) := by decide +kernel
theorem dX9_write_6 : decode cX9_write 6 = .ok (.lload 4, 2) := by decide +kernel
theorem dX9_write_8 : decode cX9_write 8 = .ok (.lcmp, 1) := by decide +kernel
theorem dX9_write_9 : decode cX9_write 9 = .ok (.ifCond .eq 19, 3) := by decide +kernel
theorem dX9_write_12 : decode cX9_write 12 = .ok (.aload_n 0, 1) := by decide +kernel
theorem dX9_write_13 : decode cX9_write 13 = .ok (.getfield 29, 3) := by decide +kernel
theorem dX9_write_16 : decode cX9_write 16 = .ok (.aload_n 1, 1) := by decide +kernel
theorem dX9_write_17 : decode cX9_write 17 = .ok (.getfield 87, 3) := by decide +kernel
theorem dX9_write_20 : decode cX9_write 20 = .ok (.aload 6, 2) := by decide +kernel
theorem dX9_write_22 : decode cX9_write 22 = .ok (.invokevirtual 115, 3) := by decide +kernel
theorem dX9_write_25 : decode cX9_write 25 = .ok (.ifCond .eq 5, 3) := by decide +kernel
theorem dX9_write_28 : decode cX9_write 28 = .ok (.iconst 0, 1) := by decide +kernel
theorem dX9_write_29 : decode cX9_write 29 = .ok (.ireturn, 1) := by decide +kernel
theorem dX9_write_30 : decode cX9_write 30 = .ok (.aload_n 1, 1) := by decide +kernel
theorem dX9_write_31 : decode cX9_write 31 = .ok (.iload_n 2, 1) := by decide +kernel
theorem dX9_write_32 : decode cX9_write 32 = .ok (.aload 6, 2) := by decide +kernel
theorem dX9_write_34 : decode cX9_write 34 = .ok (.iload_n 3, 1) := by decide +kernel
theorem dX9_write_35 : decode cX9_write 35 = .ok (.lload 4, 2) := by decide +kernel
theorem dX9_write_37 : decode cX9_write 37 = .ok (.invokevirtual 261, 3) := by decide +kernel
theorem dX9_write_40 : decode cX9_write 40 = .ok (.invokevirtual 119, 3) := by decide +kernel
theorem dX9_write_43 : decode cX9_write 43 = .ok (.iconst 1, 1) := by decide +kernel
theorem dX9_write_44 : decode cX9_write 44 = .ok (.ireturn, 1) := by decide +kernel
theorem dX9_playTurn_0 : decode cX9_playTurn 0 = .ok (.aload_n 0, 1) := by decide +kernel
theorem dX9_playTurn_1 : decode cX9_playTurn 1 = .ok (.getfield 58, 3) := by decide +kernel
theorem dX9_playTurn_4 : decode cX9_playTurn 4 = .ok (.ifCond .ne 5, 3) := by decide +kernel
theorem dX9_playTurn_7 : decode cX9_playTurn 7 = .ok (.iconst 0, 1) := by decide +kernel
theorem dX9_playTurn_8 : decode cX9_playTurn 8 = .ok (.ireturn, 1) := by decide +kernel
theorem dX9_playTurn_9 : decode cX9_playTurn 9 = .ok (.aload_n 2, 1) := by decide +kernel
theorem dX9_playTurn_10 : decode cX9_playTurn 10 = .ok (.aload_n 0, 1) := by decide +kernel
theorem dX9_playTurn_11 : decode cX9_playTurn 11 = .ok (.getfield 58, 3) := by decide +kernel
theorem dX9_playTurn_14 : decode cX9_playTurn 14 = .ok (.invokevirtual 265, 3) := by decide +kernel
theorem dX9_playTurn_17 : decode cX9_playTurn 17 = .ok (.istore_n 3, 1) := by decide +kernel
theorem dX9_playTurn_18 : decode cX9_playTurn 18 = .ok (.aload_n 1, 1) := by decide +kernel
theorem dX9_playTurn_19 : decode cX9_playTurn 19 = .ok (.getfield 104, 3) := by decide +kernel
theorem dX9_playTurn_22 : decode cX9_playTurn 22 = .ok (.iload_n 3, 1) := by decide +kernel
theorem dX9_playTurn_23 : decode cX9_playTurn 23 = .ok (.invokevirtual 195, 3) := by decide +kernel
theorem dX9_playTurn_26 : decode cX9_playTurn 26 = .ok (.astore 4, 2) := by decide +kernel
theorem dX9_playTurn_28 : decode cX9_playTurn 28 = .ok (.aload 4, 2) := by decide +kernel
theorem dX9_playTurn_30 : decode cX9_playTurn 30 = .ok (.ifnonnull 5, 3) := by decide +kernel
theorem dX9_playTurn_33 : decode cX9_playTurn 33 = .ok (.iconst 0, 1) := by decide +kernel
theorem dX9_playTurn_34 : decode cX9_playTurn 34 = .ok (.ireturn, 1) := by decide +kernel
theorem dX9_playTurn_35 : decode cX9_playTurn 35 = .ok (.aload_n 2, 1) := by decide +kernel
theorem dX9_playTurn_36 : decode cX9_playTurn 36 = .ok (.bipush 6, 2) := by decide +kernel
theorem dX9_playTurn_38 : decode cX9_playTurn 38 = .ok (.invokevirtual 265, 3) := by decide +kernel
theorem dX9_playTurn_41 : decode cX9_playTurn 41 = .ok (.istore 5, 2) := by decide +kernel
theorem dX9_playTurn_43 : decode cX9_playTurn 43 = .ok (.aload_n 2, 1) := by decide +kernel
theorem dX9_playTurn_44 : decode cX9_playTurn 44 = .ok (.bipush 100, 2) := by decide +kernel
theorem dX9_playTurn_46 : decode cX9_playTurn 46 = .ok (.invokevirtual 265, 3) := by decide +kernel
theorem dX9_playTurn_49 : decode cX9_playTurn 49 = .ok (.i2l, 1) := by decide +kernel
theorem dX9_playTurn_50 : decode cX9_playTurn 50 = .ok (.lstore 6, 2) := by decide +kernel
theorem dX9_playTurn_52 : decode cX9_playTurn 52 = .ok (.aload_n 0, 1) := by decide +kernel
theorem dX9_playTurn_53 : decode cX9_playTurn 53 = .ok (.aload_n 1, 1) := by decide +kernel
theorem dX9_playTurn_54 : decode cX9_playTurn 54 = .ok (.iload_n 3, 1) := by decide +kernel
theorem dX9_playTurn_55 : decode cX9_playTurn 55 = .ok (.iload 5, 2) := by decide +kernel
theorem dX9_playTurn_57 : decode cX9_playTurn 57 = .ok (.lload 6, 2) := by decide +kernel
theorem dX9_playTurn_59 : decode cX9_playTurn 59 = .ok (.aload 4, 2) := by decide +kernel
theorem dX9_playTurn_61 : decode cX9_playTurn 61 = .ok (.invokevirtual 111, 3) := by decide +kernel
theorem dX9_playTurn_64 : decode cX9_playTurn 64 = .ok (.ireturn, 1) := by decide +kernel
theorem dX9_tryJoin_0 : decode cX9_tryJoin 0 = .ok (.aload_n 0, 1) := by decide +kernel
theorem dX9_tryJoin_1 : decode cX9_tryJoin 1 = .ok (.getfield 42, 3) := by decide +kernel
theorem dX9_tryJoin_4 : decode cX9_tryJoin 4 = .ok (.aload_n 1, 1) := by decide +kernel
theorem dX9_tryJoin_5 : decode cX9_tryJoin 5 = .ok (.aload_n 0, 1) := by decide +kernel
theorem dX9_tryJoin_6 : decode cX9_tryJoin 6 = .ok (.getfield 16, 3) := by decide +kernel
theorem dX9_tryJoin_9 : decode cX9_tryJoin 9 = .ok (.invokevirtual 268, 3) := by decide +kernel
theorem dX9_tryJoin_12 : decode cX9_tryJoin 12 = .ok (.aload_n 0, 1) := by decide +kernel
theorem dX9_tryJoin_13 : decode cX9_tryJoin 13 = .ok (.getfield 42, 3) := by decide +kernel
theorem dX9_tryJoin_16 : decode cX9_tryJoin 16 = .ok (.invokevirtual 272, 3) := by decide +kernel
theorem dX9_tryJoin_19 : decode cX9_tryJoin 19 = .ok (.istore_n 2, 1) := by decide +kernel
theorem dX9_tryJoin_20 : decode cX9_tryJoin 20 = .ok (.iload_n 2, 1) := by decide +kernel
theorem dX9_tryJoin_21 : decode cX9_tryJoin 21 = .ok (.ifCond .ne 8, 3) := by decide +kernel
theorem dX9_tryJoin_24 : decode cX9_tryJoin 24 = .ok (.aload_n 0, 1) := by decide +kernel
theorem dX9_tryJoin_25 : decode cX9_tryJoin 25 = .ok (.aload_n 1, 1) := by decide +kernel
theorem dX9_tryJoin_26 : decode cX9_tryJoin 26 = .ok (.invokevirtual 275, 3) := by decide +kernel
theorem dX9_tryJoin_29 : decode cX9_tryJoin 29 = .ok (.iload_n 2, 1) := by decide +kernel
theorem dX9_tryJoin_30 : decode cX9_tryJoin 30 = .ok (.ireturn, 1) := by decide +kernel
theorem dX9_takeIn_0 : decode cX9_takeIn 0 = .ok (.new 9, 3) := by decide +kernel
theorem dX9_takeIn_3 : decode cX9_takeIn 3 = .ok (.dup, 1) := by decide +kernel
theorem dX9_takeIn_4 : decode cX9_takeIn 4 = .ok (.invokespecial 15, 3) := by decide +kernel
theorem dX9_takeIn_7 : decode cX9_takeIn 7 = .ok (.astore_n 2, 1) := by decide +kernel
theorem dX9_takeIn_8 : decode cX9_takeIn 8 = .ok (.iconst 0, 1) := by decide +kernel
theorem dX9_takeIn_9 : decode cX9_takeIn 9 = .ok (.istore_n 3, 1) := by decide +kernel
theorem dX9_takeIn_10 : decode cX9_takeIn 10 = .ok (.iload_n 3, 1) := by decide +kernel
theorem dX9_takeIn_11 : decode cX9_takeIn 11 = .ok (.bipush 60, 2) := by decide +kernel
theorem dX9_takeIn_13 : decode cX9_takeIn 13 = .ok (.if_icmp .ge 50, 3) := by decide +kernel
theorem dX9_takeIn_16 : decode cX9_takeIn 16 = .ok (.aload_n 1, 1) := by decide +kernel
theorem dX9_takeIn_17 : decode cX9_takeIn 17 = .ok (.iload_n 3, 1) := by decide +kernel
theorem dX9_takeIn_18 : decode cX9_takeIn 18 = .ok (.aload_n 0, 1) := by decide +kernel
theorem dX9_takeIn_19 : decode cX9_takeIn 19 = .ok (.getfield 16, 3) := by decide +kernel
theorem dX9_takeIn_22 : decode cX9_takeIn 22 = .ok (.invokevirtual 278, 3) := by decide +kernel
theorem dX9_takeIn_25 : decode cX9_takeIn 25 = .ok (.astore 4, 2) := by decide +kernel
theorem dX9_takeIn_27 : decode cX9_takeIn 27 = .ok (.aload_n 2, 1) := by decide +kernel
theorem dX9_takeIn_28 : decode cX9_takeIn 28 = .ok (.iload_n 3, 1) := by decide +kernel
theorem dX9_takeIn_29 : decode cX9_takeIn 29 = .ok (.aload 4, 2) := by decide +kernel
theorem dX9_takeIn_31 : decode cX9_takeIn 31 = .ok (.invokevirtual 72, 3) := by decide +kernel
theorem dX9_takeIn_34 : decode cX9_takeIn 34 = .ok (.aload 4, 2) := by decide +kernel
theorem dX9_takeIn_36 : decode cX9_takeIn 36 = .ok (.aload_n 0, 1) := by decide +kernel
theorem dX9_takeIn_37 : decode cX9_takeIn 37 = .ok (.getfield 16, 3) := by decide +kernel
theorem dX9_takeIn_40 : decode cX9_takeIn 40 = .ok (.iload_n 3, 1) := by decide +kernel
theorem dX9_takeIn_41 : decode cX9_takeIn 41 = .ok (.invokevirtual 195, 3) := by decide +kernel
theorem dX9_takeIn_44 : decode cX9_takeIn 44 = .ok (.invokestatic 282, 3) := by decide +kernel
theorem dX9_takeIn_47 : decode cX9_takeIn 47 = .ok (.ifCond .ne 10, 3) := by decide +kernel
theorem dX9_takeIn_50 : decode cX9_takeIn 50 = .ok (.aload_n 0, 1) := by decide +kernel
theorem dX9_takeIn_51 : decode cX9_takeIn 51 = .ok (.getfield 46, 3) := by decide +kernel
theorem dX9_takeIn_54 : decode cX9_takeIn 54 = .ok (.iload_n 3, 1) := by decide +kernel
theorem dX9_takeIn_55 : decode cX9_takeIn 55 = .ok (.iconst 0, 1) := by decide +kernel
theorem dX9_takeIn_56 : decode cX9_takeIn 56 = .ok (.iastore, 1) := by decide +kernel
theorem dX9_takeIn_57 : decode cX9_takeIn 57 = .ok (.iinc 3 1, 3) := by decide +kernel
theorem dX9_takeIn_60 : decode cX9_takeIn 60 = .ok (.goto (-50), 3) := by decide +kernel
theorem dX9_takeIn_63 : decode cX9_takeIn 63 = .ok (.aload_n 0, 1) := by decide +kernel
theorem dX9_takeIn_64 : decode cX9_takeIn 64 = .ok (.aload_n 2, 1) := by decide +kernel
theorem dX9_takeIn_65 : decode cX9_takeIn 65 = .ok (.invokevirtual 76, 3) := by decide +kernel
theorem dX9_takeIn_68 : decode cX9_takeIn 68 = .ok (.aload_n 1, 1) := by decide +kernel
theorem dX9_takeIn_69 : decode cX9_takeIn 69 = .ok (.iconst 0, 1) := by decide +kernel
theorem dX9_takeIn_70 : decode cX9_takeIn 70 = .ok (.putfield 250, 3) := by decide +kernel
theorem dX9_takeIn_73 : decode cX9_takeIn 73 = .ok (.aload_n 0, 1) := by decide +kernel
theorem dX9_takeIn_74 : decode cX9_takeIn 74 = .ok (.getfield 29, 3) := by decide +kernel
theorem dX9_takeIn_77 : decode cX9_takeIn 77 = .ok (.aload_n 1, 1) := by decide +kernel
theorem dX9_takeIn_78 : decode cX9_takeIn 78 = .ok (.getfield 87, 3) := by decide +kernel
theorem dX9_takeIn_81 : decode cX9_takeIn 81 = .ok (.invokevirtual 286, 3) := by decide +kernel
theorem dX9_takeIn_84 : decode cX9_takeIn 84 = .ok (.return_, 1) := by decide +kernel

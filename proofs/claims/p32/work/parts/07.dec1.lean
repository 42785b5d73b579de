theorem dX3_likeBefore_10 : decode cX3_likeBefore 10 = .ok (.if_icmp .ge 39, 3) := by decide +kernel
theorem dX3_likeBefore_13 : decode cX3_likeBefore 13 = .ok (.aload_n 0, 1) := by decide +kernel
theorem dX3_likeBefore_14 : decode cX3_likeBefore 14 = .ok (.getfield 14, 3) := by decide +kernel
theorem dX3_likeBefore_17 : decode cX3_likeBefore 17 = .ok (.aload_n 0, 1) := by decide +kernel
theorem dX3_likeBefore_18 : decode cX3_likeBefore 18 = .ok (.getfield 14, 3) := by decide +kernel
theorem dX3_likeBefore_21 : decode cX3_likeBefore 21 = .ok (.getfield 78, 3) := by decide +kernel
theorem dX3_likeBefore_24 : decode cX3_likeBefore 24 = .ok (.iconst 1, 1) := by decide +kernel
theorem dX3_likeBefore_25 : decode cX3_likeBefore 25 = .ok (.isub, 1) := by decide +kernel
theorem dX3_likeBefore_26 : decode cX3_likeBefore 26 = .ok (.iload_n 3, 1) := by decide +kernel
theorem dX3_likeBefore_27 : decode cX3_likeBefore 27 = .ok (.isub, 1) := by decide +kernel
theorem dX3_likeBefore_28 : decode cX3_likeBefore 28 = .ok (.invokevirtual 81, 3) := by decide +kernel
theorem dX3_likeBefore_31 : decode cX3_likeBefore 31 = .ok (.aload_n 1, 1) := by decide +kernel
theorem dX3_likeBefore_32 : decode cX3_likeBefore 32 = .ok (.iload_n 2, 1) := by decide +kernel
theorem dX3_likeBefore_33 : decode cX3_likeBefore 33 = .ok (.iconst 1, 1) := by decide +kernel
theorem dX3_likeBefore_34 : decode cX3_likeBefore 34 = .ok (.isub, 1) := by decide +kernel
theorem dX3_likeBefore_35 : decode cX3_likeBefore 35 = .ok (.iload_n 3, 1) := by decide +kernel
theorem dX3_likeBefore_36 : decode cX3_likeBefore 36 = .ok (.isub, 1) := by decide +kernel
theorem dX3_likeBefore_37 : decode cX3_likeBefore 37 = .ok (.invokevirtual 81, 3) := by decide +kernel
theorem dX3_likeBefore_40 : decode cX3_likeBefore 40 = .ok (.if_icmp .ne 9, 3) := by decide +kernel
theorem dX3_likeBefore_43 : decode cX3_likeBefore 43 = .ok (.iinc 3 1, 3) := by decide +kernel
theorem dX3_likeBefore_46 : decode cX3_likeBefore 46 = .ok (.goto (-44), 3) := by decide +kernel
theorem dX3_likeBefore_49 : decode cX3_likeBefore 49 = .ok (.iload_n 3, 1) := by decide +kernel
theorem dX3_likeBefore_50 : decode cX3_likeBefore 50 = .ok (.ireturn, 1) := by decide +kernel
theorem dX3_likeBehind_0 : decode cX3_likeBehind 0 = .ok (.iconst 0, 1) := by decide +kernel
theorem dX3_likeBehind_1 : decode cX3_likeBehind 1 = .ok (.istore_n 3, 1) := by decide +kernel
theorem dX3_likeBehind_2 : decode cX3_likeBehind 2 = .ok (.iload_n 3, 1) := by decide +kernel
theorem dX3_likeBehind_3 : decode cX3_likeBehind 3 = .ok (.aload_n 0, 1) := by decide +kernel
theorem dX3_likeBehind_4 : decode cX3_likeBehind 4 = .ok (.getfield 23, 3) := by decide +kernel
theorem dX3_likeBehind_7 : decode cX3_likeBehind 7 = .ok (.getfield 78, 3) := by decide +kernel
theorem dX3_likeBehind_10 : decode cX3_likeBehind 10 = .ok (.if_icmp .ge 27, 3) := by decide +kernel
theorem dX3_likeBehind_13 : decode cX3_likeBehind 13 = .ok (.aload_n 0, 1) := by decide +kernel
theorem dX3_likeBehind_14 : decode cX3_likeBehind 14 = .ok (.getfield 23, 3) := by decide +kernel
theorem dX3_likeBehind_17 : decode cX3_likeBehind 17 = .ok (.iload_n 3, 1) := by decide +kernel
theorem dX3_likeBehind_18 : decode cX3_likeBehind 18 = .ok (.invokevirtual 81, 3) := by decide +kernel
theorem dX3_likeBehind_21 : decode cX3_likeBehind 21 = .ok (.aload_n 1, 1) := by decide +kernel
theorem dX3_likeBehind_22 : decode cX3_likeBehind 22 = .ok (.iload_n 2, 1) := by decide +kernel
theorem dX3_likeBehind_23 : decode cX3_likeBehind 23 = .ok (.iload_n 3, 1) := by decide +kernel
theorem dX3_likeBehind_24 : decode cX3_likeBehind 24 = .ok (.iadd, 1) := by decide +kernel
theorem dX3_likeBehind_25 : decode cX3_likeBehind 25 = .ok (.invokevirtual 81, 3) := by decide +kernel
theorem dX3_likeBehind_28 : decode cX3_likeBehind 28 = .ok (.if_icmp .ne 9, 3) := by decide +kernel
theorem dX3_likeBehind_31 : decode cX3_likeBehind 31 = .ok (.iinc 3 1, 3) := by decide +kernel
theorem dX3_likeBehind_34 : decode cX3_likeBehind 34 = .ok (.goto (-32), 3) := by decide +kernel
theorem dX3_likeBehind_37 : decode cX3_likeBehind 37 = .ok (.iload_n 3, 1) := by decide +kernel
theorem dX3_likeBehind_38 : decode cX3_likeBehind 38 = .ok (.ireturn, 1) := by decide +kernel
theorem dX4_init_0 : decode cX4_init 0 = .ok (.aload_n 0, 1) := by decide +kernel
theorem dX4_init_1 : decode cX4_init 1 = .ok (.invokespecial 3, 3) := by decide +kernel
theorem dX4_init_4 : decode cX4_init 4 = .ok (.aload_n 0, 1) := by decide +kernel
theorem dX4_init_5 : decode cX4_init 5 = .ok (.new 9, 3) := by decide +kernel
theorem dX4_init_8 : decode cX4_init 8 = .ok (.dup, 1) := by decide +kernel
theorem dX4_init_9 : decode cX4_init 9 = .ok (.bipush 120, 2) := by decide +kernel
theorem dX4_init_11 : decode cX4_init 11 = .ok (.invokespecial 11, 3) := by decide +kernel
theorem dX4_init_14 : decode cX4_init 14 = .ok (.putfield 14, 3) := by decide +kernel
theorem dX4_init_17 : decode cX4_init 17 = .ok (.aload_n 0, 1) := by decide +kernel
theorem dX4_init_18 : decode cX4_init 18 = .ok (.bipush 10, 2) := by decide +kernel
theorem dX4_init_20 : decode cX4_init 20 = .ok (.anewarray 20, 3) := by decide +kernel
theorem dX4_init_23 : decode cX4_init 23 = .ok (.putfield 22, 3) := by decide +kernel
theorem dX4_init_26 : decode cX4_init 26 = .ok (.iconst 0, 1) := by decide +kernel
theorem dX4_init_27 : decode cX4_init 27 = .ok (.istore_n 1, 1) := by decide +kernel
theorem dX4_init_28 : decode cX4_init 28 = .ok (.iload_n 1, 1) := by decide +kernel
theorem dX4_init_29 : decode cX4_init 29 = .ok (.aload_n 0, 1) := by decide +kernel
theorem dX4_init_30 : decode cX4_init 30 = .ok (.getfield 22, 3) := by decide +kernel
theorem dX4_init_33 : decode cX4_init 33 = .ok (.arraylength, 1) := by decide +kernel
theorem dX4_init_34 : decode cX4_init 34 = .ok (.if_icmp .ge 22, 3) := by decide +kernel
theorem dX4_init_37 : decode cX4_init 37 = .ok (.aload_n 0, 1) := by decide +kernel
theorem dX4_init_38 : decode cX4_init 38 = .ok (.getfield 22, 3) := by decide +kernel
theorem dX4_init_41 : decode cX4_init 41 = .ok (.iload_n 1, 1) := by decide +kernel
theorem dX4_init_42 : decode cX4_init 42 = .ok (.new 20, 3) := by decide +kernel
theorem dX4_init_45 : decode cX4_init 45 = .ok (.dup, 1) := by decide +kernel
theorem dX4_init_46 : decode cX4_init 46 = .ok (.invokespecial 26, 3) := by decide +kernel
theorem dX4_init_49 : decode cX4_init 49 = .ok (.aastore, 1) := by decide +kernel
theorem dX4_init_50 : decode cX4_init 50 = .ok (.iinc 1 1, 3) := by decide +kernel
theorem dX4_init_53 : decode cX4_init 53 = .ok (.goto (-25), 3) := by decide +kernel
theorem dX4_init_56 : decode cX4_init 56 = .ok (.return_, 1) := by decide +kernel
theorem dX4_become_0 : decode cX4_become 0 = .ok (.aload_n 0, 1) := by decide +kernel
theorem dX4_become_1 : decode cX4_become 1 = .ok (.getfield 14, 3) := by decide +kernel
theorem dX4_become_4 : decode cX4_become 4 = .ok (.aload_n 1, 1) := by decide +kernel
theorem dX4_become_5 : decode cX4_become 5 = .ok (.getfield 14, 3) := by decide +kernel
theorem dX4_become_8 : decode cX4_become 8 = .ok (.invokevirtual 27, 3) := by decide +kernel
theorem dX4_become_11 : decode cX4_become 11 = .ok (.aload_n 0, 1) := by decide +kernel
theorem dX4_become_12 : decode cX4_become 12 = .ok (.aload_n 1, 1) := by decide +kernel
theorem dX4_become_13 : decode cX4_become 13 = .ok (.getfield 31, 3) := by decide +kernel
theorem dX4_become_16 : decode cX4_become 16 = .ok (.aload_n 0, 1) := by decide +kernel
theorem dX4_become_17 : decode cX4_become 17 = .ok (.getfield 22, 3) := by decide +kernel
theorem dX4_become_20 : decode cX4_become 20 = .ok (.arraylength, 1) := by decide +kernel
theorem dX4_become_21 : decode cX4_become 21 = .ok (.invokestatic 35, 3) := by decide +kernel
theorem dX4_become_24 : decode cX4_become 24 = .ok (.putfield 31, 3) := by decide +kernel
theorem dX4_become_27 : decode cX4_become 27 = .ok (.aload_n 0, 1) := by decide +kernel
theorem dX4_become_28 : decode cX4_become 28 = .ok (.aload_n 1, 1) := by decide +kernel
theorem dX4_become_29 : decode cX4_become 29 = .ok (.getfield 41, 3) := by decide +kernel
theorem dX4_become_32 : decode cX4_become 32 = .ok (.putfield 41, 3) := by decide +kernel
theorem dX4_become_35 : decode cX4_become 35 = .ok (.iconst 0, 1) := by decide +kernel
theorem dX4_become_36 : decode cX4_become 36 = .ok (.istore_n 2, 1) := by decide +kernel
theorem dX4_become_37 : decode cX4_become 37 = .ok (.iload_n 2, 1) := by decide +kernel
theorem dX4_become_38 : decode cX4_become 38 = .ok (.aload_n 0, 1) := by decide +kernel
theorem dX4_become_39 : decode cX4_become 39 = .ok (.getfield 31, 3) := by decide +kernel
theorem dX4_become_42 : decode cX4_become 42 = .ok (.if_icmp .ge 33, 3) := by decide +kernel
theorem dX4_become_45 : decode cX4_become 45 = .ok (.iload_n 2, 1) := by decide +kernel
theorem dX4_become_46 : decode cX4_become 46 = .ok (.aload_n 1, 1) := by decide +kernel
theorem dX4_become_47 : decode cX4_become 47 = .ok (.getfield 22, 3) := by decide +kernel
theorem dX4_become_50 : decode cX4_become 50 = .ok (.arraylength, 1) := by decide +kernel
theorem dX4_become_51 : decode cX4_become 51 = .ok (.if_icmp .ge 24, 3) := by decide +kernel
theorem dX4_become_54 : decode cX4_become 54 = .ok (.aload_n 0, 1) := by decide +kernel
theorem dX4_become_55 : decode cX4_become 55 = .ok (.getfield 22, 3) := by decide +kernel
theorem dX4_become_58 : decode cX4_become 58 = .ok (.iload_n 2, 1) := by decide +kernel
theorem dX4_become_59 : decode cX4_become 59 = .ok (.aaload, 1) := by decide +kernel
theorem dX4_become_60 : decode cX4_become 60 = .ok (.aload_n 1, 1) := by decide +kernel
theorem dX4_become_61 : decode cX4_become 61 = .ok (.getfield 22, 3) := by decide +kernel
theorem dX4_become_64 : decode cX4_become 64 = .ok (.iload_n 2, 1) := by decide +kernel
theorem dX4_become_65 : decode cX4_become 65 = .ok (.aaload, 1) := by decide +kernel
theorem dX4_become_66 : decode cX4_become 66 = .ok (.invokevirtual 44, 3) := by decide +kernel
theorem dX4_become_69 : decode cX4_become 69 = .ok (.iinc 2 1, 3) := by decide +kernel
theorem dX4_become_72 : decode cX4_become 72 = .ok (.goto (-35), 3) := by decide +kernel
theorem dX4_become_75 : decode cX4_become 75 = .ok (.return_, 1) := by decide +kernel
theorem dX4_indexOf_0 : decode cX4_indexOf 0 = .ok (.iconst 0, 1) := by decide +kernel
theorem dX4_indexOf_1 : decode cX4_indexOf 1 = .ok (.istore_n 2, 1) := by decide +kernel
theorem dX4_indexOf_2 : decode cX4_indexOf 2 = .ok (.iload_n 2, 1) := by decide +kernel
theorem dX4_indexOf_3 : decode cX4_indexOf 3 = .ok (.aload_n 0, 1) := by decide +kernel
theorem dX4_indexOf_4 : decode cX4_indexOf 4 = .ok (.getfield 31, 3) := by decide +kernel
theorem dX4_indexOf_7 : decode cX4_indexOf 7 = .ok (.if_icmp .ge 33, 3) := by decide +kernel
theorem dX4_indexOf_10 : decode cX4_indexOf 10 = .ok (.iload_n 2, 1) := by decide +kernel
theorem dX4_indexOf_11 : decode cX4_indexOf 11 = .ok (.aload_n 0, 1) := by decide +kernel
theorem dX4_indexOf_12 : decode cX4_indexOf 12 = .ok (.getfield 22, 3) := by decide +kernel
theorem dX4_indexOf_15 : decode cX4_indexOf 15 = .ok (.arraylength, 1) := by decide +kernel
theorem dX4_indexOf_16 : decode cX4_indexOf 16 = .ok (.if_icmp .ge 24, 3) := by decide +kernel
theorem dX4_indexOf_19 : decode cX4_indexOf 19 = .ok (.aload_n 0, 1) := by decide +kernel
theorem dX4_indexOf_20 : decode cX4_indexOf 20 = .ok (.getfield 22, 3) := by decide +kernel
theorem dX4_indexOf_23 : decode cX4_indexOf 23 = .ok (.iload_n 2, 1) := by decide +kernel
theorem dX4_indexOf_24 : decode cX4_indexOf 24 = .ok (.aaload, 1) := by decide +kernel
theorem dX4_indexOf_25 : decode cX4_indexOf 25 = .ok (.getfield 47, 3) := by decide +kernel
theorem dX4_indexOf_28 : decode cX4_indexOf 28 = .ok (.iload_n 1, 1) := by decide +kernel
theorem dX4_indexOf_29 : decode cX4_indexOf 29 = .ok (.if_icmp .ne 5, 3) := by decide +kernel
theorem dX4_indexOf_32 : decode cX4_indexOf 32 = .ok (.iload_n 2, 1) := by decide +kernel
theorem dX4_indexOf_33 : decode cX4_indexOf 33 = .ok (.ireturn, 1) := by decide +kernel
theorem dX4_indexOf_34 : decode cX4_indexOf 34 = .ok (.iinc 2 1, 3) := by decide +kernel
theorem dX4_indexOf_37 : decode cX4_indexOf 37 = .ok (.goto (-35), 3) := by decide +kernel
theorem dX4_indexOf_40 : decode cX4_indexOf 40 = .ok (.iconst (-1), 1) := by decide +kernel
theorem dX4_indexOf_41 : decode cX4_indexOf 41 = .ok (.ireturn, 1) := by decide +kernel
theorem dX4_find_0 : decode cX4_find 0 = .ok (.aload_n 0, 1) := by decide +kernel
theorem dX4_find_1 : decode cX4_find 1 = .ok (.iload_n 1, 1) := by decide +kernel
theorem dX4_find_2 : decode cX4_find 2 = .ok (.invokevirtual 50, 3) := by decide +kernel
theorem dX4_find_5 : decode cX4_find 5 = .ok (.istore_n 2, 1) := by decide +kernel
theorem dX4_find_6 : decode cX4_find 6 = .ok (.iload_n 2, 1) := by decide +kernel
theorem dX4_find_7 : decode cX4_find 7 = .ok (.ifCond .lt 21, 3) := by decide +kernel
theorem dX4_find_10 : decode cX4_find 10 = .ok (.iload_n 2, 1) := by decide +kernel
theorem dX4_find_11 : decode cX4_find 11 = .ok (.aload_n 0, 1) := by decide +kernel
theorem dX4_find_12 : decode cX4_find 12 = .ok (.getfield 22, 3) := by decide +kernel
theorem dX4_find_15 : decode cX4_find 15 = .ok (.arraylength, 1) := by decide +kernel
theorem dX4_find_16 : decode cX4_find 16 = .ok (.if_icmp .ge 12, 3) := by decide +kernel
theorem dX4_find_19 : decode cX4_find 19 = .ok (.aload_n 0, 1) := by decide +kernel
theorem dX4_find_20 : decode cX4_find 20 = .ok (.getfield 22, 3) := by decide +kernel
theorem dX4_find_23 : decode cX4_find 23 = .ok (.iload_n 2, 1) := by decide +kernel
theorem dX4_find_24 : decode cX4_find 24 = .ok (.aaload, 1) := by decide +kernel
theorem dX4_find_25 : decode cX4_find 25 = .ok (.goto 4, 3) := by decide +kernel
theorem dX4_find_28 : decode cX4_find 28 = .ok (.aconst_null, 1) := by decide +kernel
theorem dX4_find_29 : decode cX4_find 29 = .ok (.areturn, 1) := by decide +kernel
theorem dX4_addNote_0 : decode cX4_addNote 0 = .ok (.aload_n 0, 1) := by decide +kernel
theorem dX4_addNote_1 : decode cX4_addNote 1 = .ok (.getfield 31, 3) := by decide +kernel
theorem dX4_addNote_4 : decode cX4_addNote 4 = .ok (.ifCond .lt 15, 3) := by decide +kernel
theorem dX4_addNote_7 : decode cX4_addNote 7 = .ok (.aload_n 0, 1) := by decide +kernel
theorem dX4_addNote_8 : decode cX4_addNote 8 = .ok (.getfield 31, 3) := by decide +kernel
theorem dX4_addNote_11 : decode cX4_addNote 11 = .ok (.aload_n 0, 1) := by decide +kernel
theorem dX4_addNote_12 : decode cX4_addNote 12 = .ok (.getfield 22, 3) := by decide +kernel
theorem dX4_addNote_15 : decode cX4_addNote 15 = .ok (.arraylength, 1) := by decide +kernel
theorem dX4_addNote_16 : decode cX4_addNote 16 = .ok (.if_icmp .lt 7, 3) := by decide +kernel
theorem dX4_addNote_19 : decode cX4_addNote 19 = .ok (.sipush (-1004), 3) := by decide +kernel
theorem dX4_addNote_22 : decode cX4_addNote 22 = .ok (.ireturn, 1) := by decide +kernel
theorem dX4_addNote_23 : decode cX4_addNote 23 = .ok (.aload_n 0, 1) := by decide +kernel
theorem dX4_addNote_24 : decode cX4_addNote 24 = .ok (.getfield 41, 3) := by decide +kernel
theorem dX4_addNote_27 : decode cX4_addNote 27 = .ok (.istore_n 3, 1) := by decide +kernel
theorem dX4_addNote_28 : decode cX4_addNote 28 = .ok (.aload_n 0, 1) := by decide +kernel
theorem dX4_addNote_29 : decode cX4_addNote 29 = .ok (.getfield 22, 3) := by decide +kernel
theorem dX4_addNote_32 : decode cX4_addNote 32 = .ok (.aload_n 0, 1) := by decide +kernel
theorem dX4_addNote_33 : decode cX4_addNote 33 = .ok (.getfield 31, 3) := by decide +kernel
theorem dX4_addNote_36 : decode cX4_addNote 36 = .ok (.aaload, 1) := by decide +kernel
theorem dX4_addNote_37 : decode cX4_addNote 37 = .ok (.iload_n 3, 1) := by decide +kernel
theorem dX4_addNote_38 : decode cX4_addNote 38 = .ok (.iload_n 1, 1) := by decide +kernel
theorem dX4_addNote_39 : decode cX4_addNote 39 = .ok (.iload_n 2, 1) := by decide +kernel
theorem dX4_addNote_40 : decode cX4_addNote 40 = .ok (.aload_n 0, 1) := by decide +kernel
theorem dX4_addNote_41 : decode cX4_addNote 41 = .ok (.getfield 14, 3) := by decide +kernel
theorem dX4_addNote_44 : decode cX4_addNote 44 = .ok (.invokevirtual 54, 3) := by decide +kernel
theorem dX4_addNote_47 : decode cX4_addNote 47 = .ok (.aload_n 0, 1) := by decide +kernel
theorem dX4_addNote_48 : decode cX4_addNote 48 = .ok (.dup, 1) := by decide +kernel
theorem dX4_addNote_49 : decode cX4_addNote 49 = .ok (.getfield 31, 3) := by decide +kernel
theorem dX4_addNote_52 : decode cX4_addNote 52 = .ok (.iconst 1, 1) := by decide +kernel
theorem dX4_addNote_53 : decode cX4_addNote 53 = .ok (.iadd, 1) := by decide +kernel
theorem dX4_addNote_54 : decode cX4_addNote 54 = .ok (.putfield 31, 3) := by decide +kernel
theorem dX4_addNote_57 : decode cX4_addNote 57 = .ok (.aload_n 0, 1) := by decide +kernel
theorem dX4_addNote_58 : decode cX4_addNote 58 = .ok (.dup, 1) := by decide +kernel
theorem dX4_addNote_59 : decode cX4_addNote 59 = .ok (.getfield 41, 3) := by decide +kernel
theorem dX4_addNote_62 : decode cX4_addNote 62 = .ok (.iconst 1, 1) := by decide +kernel
theorem dX4_addNote_63 : decode cX4_addNote 63 = .ok (.iadd, 1) := by decide +kernel
theorem dX4_addNote_64 : decode cX4_addNote 64 = .ok (.putfield 41, 3) := by decide +kernel
theorem dX4_addNote_67 : decode cX4_addNote 67 = .ok (.iload_n 3, 1) := by decide +kernel
theorem dX4_addNote_68 : decode cX4_addNote 68 = .ok (.ireturn, 1) := by decide +kernel
theorem dX4_drop_0 : decode cX4_drop 0 = .ok (.iload_n 1, 1) := by decide +kernel
theorem dX4_drop_1 : decode cX4_drop 1 = .ok (.ifCond .lt 23, 3) := by decide +kernel
theorem dX4_drop_4 : decode cX4_drop 4 = .ok (.iload_n 1, 1) := by decide +kernel
theorem dX4_drop_5 : decode cX4_drop 5 = .ok (.aload_n 0, 1) := by decide +kernel
theorem dX4_drop_6 : decode cX4_drop 6 = .ok (.getfield 31, 3) := by decide +kernel
theorem dX4_drop_9 : decode cX4_drop 9 = .ok (.if_icmp .ge 15, 3) := by decide +kernel
theorem dX4_drop_12 : decode cX4_drop 12 = .ok (.aload_n 0, 1) := by decide +kernel
theorem dX4_drop_13 : decode cX4_drop 13 = .ok (.getfield 31, 3) := by decide +kernel
theorem dX4_drop_16 : decode cX4_drop 16 = .ok (.aload_n 0, 1) := by decide +kernel
theorem dX4_drop_17 : decode cX4_drop 17 = .ok (.getfield 22, 3) := by decide +kernel
theorem dX4_drop_20 : decode cX4_drop 20 = .ok (.arraylength, 1) := by decide +kernel
theorem dX4_drop_21 : decode cX4_drop 21 = .ok (.if_icmp .le 4, 3) := by decide +kernel
theorem dX4_drop_24 : decode cX4_drop 24 = .ok (.return_, 1) := by decide +kernel
theorem dX4_drop_25 : decode cX4_drop 25 = .ok (.aload_n 0, 1) := by decide +kernel
theorem dX4_drop_26 : decode cX4_drop 26 = .ok (.getfield 22, 3) := by decide +kernel
theorem dX4_drop_29 : decode cX4_drop 29 = .ok (.iload_n 1, 1) := by decide +kernel
theorem dX4_drop_30 : decode cX4_drop 30 = .ok (.aaload, 1) := by decide +kernel
theorem dX4_drop_31 : decode cX4_drop 31 = .ok (.astore_n 2, 1) := by decide +kernel
theorem dX4_drop_32 : decode cX4_drop 32 = .ok (.iload_n 1, 1) := by decide +kernel
theorem dX4_drop_33 : decode cX4_drop 33 = .ok (.iconst 1, 1) := by decide +kernel
theorem dX4_drop_34 : decode cX4_drop 34 = .ok (.iadd, 1) := by decide +kernel
theorem dX4_drop_35 : decode cX4_drop 35 = .ok (.istore_n 3, 1) := by decide +kernel
theorem dX4_drop_36 : decode cX4_drop 36 = .ok (.iload_n 3, 1) := by decide +kernel
theorem dX4_drop_37 : decode cX4_drop 37 = .ok (.aload_n 0, 1) := by decide +kernel
theorem dX4_drop_38 : decode cX4_drop 38 = .ok (.getfield 31, 3) := by decide +kernel
theorem dX4_drop_41 : decode cX4_drop 41 = .ok (.if_icmp .ge 23, 3) := by decide +kernel
theorem dX4_drop_44 : decode cX4_drop 44 = .ok (.aload_n 0, 1) := by decide +kernel
theorem dX4_drop_45 : decode cX4_drop 45 = .ok (.getfield 22, 3) := by decide +kernel
theorem dX4_drop_48 : decode cX4_drop 48 = .ok (.iload_n 3, 1) := by decide +kernel
theorem dX4_drop_49 : decode cX4_drop 49 = .ok (.iconst 1, 1) := by decide +kernel
theorem dX4_drop_50 : decode cX4_drop 50 = .ok (.isub, 1) := by decide +kernel
theorem dX4_drop_51 : decode cX4_drop 51 = .ok (.aload_n 0, 1) := by decide +kernel
theorem dX4_drop_52 : decode cX4_drop 52 = .ok (.getfield 22, 3) := by decide +kernel
theorem dX4_drop_55 : decode cX4_drop 55 = .ok (.iload_n 3, 1) := by decide +kernel
theorem dX4_drop_56 : decode cX4_drop 56 = .ok (.aaload, 1) := by decide +kernel
theorem dX4_drop_57 : decode cX4_drop 57 = .ok (.aastore, 1) := by decide +kernel
theorem dX4_drop_58 : decode cX4_drop 58 = .ok (.iinc 3 1, 3) := by decide +kernel
theorem dX4_drop_61 : decode cX4_drop 61 = .ok (.goto (-25), 3) := by decide +kernel
theorem dX4_drop_64 : decode cX4_drop 64 = .ok (.aload_n 0, 1) := by decide +kernel
theorem dX4_drop_65 : decode cX4_drop 65 = .ok (.dup, 1) := by decide +kernel
theorem dX4_drop_66 : decode cX4_drop 66 = .ok (.getfield 31, 3) := by decide +kernel
theorem dX4_drop_69 : decode cX4_drop 69 = .ok (.iconst 1, 1) := by decide +kernel
theorem dX4_drop_70 : decode cX4_drop 70 = .ok (.isub, 1) := by decide +kernel
theorem dX4_drop_71 : decode cX4_drop 71 = .ok (.putfield 31, 3) := by decide +kernel
theorem dX4_drop_74 : decode cX4_drop 74 = .ok (.aload_n 0, 1) := by decide +kernel
theorem dX4_drop_75 : decode cX4_drop 75 = .ok (.getfield 22, 3) := by decide +kernel
theorem dX4_drop_78 : decode cX4_drop 78 = .ok (.aload_n 0, 1) := by decide +kernel
theorem dX4_drop_79 : decode cX4_drop 79 = .ok (.getfield 31, 3) := by decide +kernel
theorem dX4_drop_82 : decode cX4_drop 82 = .ok (.aload_n 2, 1) := by decide +kernel
theorem dX4_drop_83 : decode cX4_drop 83 = .ok (.aastore, 1) := by decide +kernel
theorem dX4_drop_84 : decode cX4_drop 84 = .ok (.return_, 1) := by decide +kernel
theorem dX4_replaceDocument_0 : decode cX4_replaceDocument 0 = .ok (.aload_n 0, 1) := by decide +kernel
theorem dX4_replaceDocument_1 : decode cX4_replaceDocument 1 = .ok (.getfield 14, 3) := by decide +kernel
theorem dX4_replaceDocument_4 : decode cX4_replaceDocument 4 = .ok (.aload_n 1, 1) := by decide +kernel
theorem dX4_replaceDocument_5 : decode cX4_replaceDocument 5 = .ok (.invokevirtual 27, 3) := by decide +kernel
theorem dX4_replaceDocument_8 : decode cX4_replaceDocument 8 = .ok (.iconst 0, 1) := by decide +kernel
theorem dX4_replaceDocument_9 : decode cX4_replaceDocument 9 = .ok (.istore_n 2, 1) := by decide +kernel
theorem dX4_replaceDocument_10 : decode cX4_replaceDocument 10 = .ok (.iload_n 2, 1) := by decide +kernel
theorem dX4_replaceDocument_11 : decode cX4_replaceDocument 11 = .ok (.aload_n 0, 1) := by decide +kernel
theorem dX4_replaceDocument_12 : decode cX4_replaceDocument 12 = .ok (.getfield 31, 3) := by decide +kernel
theorem dX4_replaceDocument_15 : decode cX4_replaceDocument 15 = .ok (.if_icmp .ge 34, 3) := by decide +kernel
theorem dX4_replaceDocument_18 : decode cX4_replaceDocument 18 = .ok (.iload_n 2, 1) := by decide +kernel
theorem dX4_replaceDocument_19 : decode cX4_replaceDocument 19 = .ok (.aload_n 0, 1) := by decide +kernel
theorem dX4_replaceDocument_20 : decode cX4_replaceDocument 20 = .ok (.getfield 22, 3) := by decide +kernel
theorem dX4_replaceDocument_23 : decode cX4_replaceDocument 23 = .ok (.arraylength, 1) := by decide +kernel
theorem dX4_replaceDocument_24 : decode cX4_replaceDocument 24 = .ok (.if_icmp .ge 25, 3) := by decide +kernel
theorem dX4_replaceDocument_27 : decode cX4_replaceDocument 27 = .ok (.aload_n 0, 1) := by decide +kernel
theorem dX4_replaceDocument_28 : decode cX4_replaceDocument 28 = .ok (.getfield 22, 3) := by decide +kernel
theorem dX4_replaceDocument_31 : decode cX4_replaceDocument 31 = .ok (.iload_n 2, 1) := by decide +kernel
theorem dX4_replaceDocument_32 : decode cX4_replaceDocument 32 = .ok (.aaload, 1) := by decide +kernel
theorem dX4_replaceDocument_33 : decode cX4_replaceDocument 33 = .ok (.aload_n 0, 1) := by decide +kernel
theorem dX4_replaceDocument_34 : decode cX4_replaceDocument 34 = .ok (.getfield 14, 3) := by decide +kernel
theorem dX4_replaceDocument_37 : decode cX4_replaceDocument 37 = .ok (.getfield 58, 3) := by decide +kernel
theorem dX4_replaceDocument_40 : decode cX4_replaceDocument 40 = .ok (.invokevirtual 61, 3) := by decide +kernel
theorem dX4_replaceDocument_43 : decode cX4_replaceDocument 43 = .ok (.iinc 2 1, 3) := by decide +kernel
theorem dX4_replaceDocument_46 : decode cX4_replaceDocument 46 = .ok (.goto (-36), 3) := by decide +kernel
theorem dX4_replaceDocument_49 : decode cX4_replaceDocument 49 = .ok (.return_, 1) := by decide +kernel
theorem dX4_putIn_0 : decode cX4_putIn 0 = .ok (.aload_n 0, 1) := by decide +kernel
theorem dX4_putIn_1 : decode cX4_putIn 1 = .ok (.getfield 14, 3) := by decide +kernel
theorem dX4_putIn_4 : decode cX4_putIn 4 = .ok (.iload_n 1, 1) := by decide +kernel
theorem dX4_putIn_5 : decode cX4_putIn 5 = .ok (.aload_n 2, 1) := by decide +kernel
theorem dX4_putIn_6 : decode cX4_putIn 6 = .ok (.invokevirtual 64, 3) := by decide +kernel
theorem dX4_putIn_9 : decode cX4_putIn 9 = .ok (.iconst 0, 1) := by decide +kernel
theorem dX4_putIn_10 : decode cX4_putIn 10 = .ok (.istore_n 3, 1) := by decide +kernel
theorem dX4_putIn_11 : decode cX4_putIn 11 = .ok (.iload_n 3, 1) := by decide +kernel
theorem dX4_putIn_12 : decode cX4_putIn 12 = .ok (.aload_n 0, 1) := by decide +kernel
theorem dX4_putIn_13 : decode cX4_putIn 13 = .ok (.getfield 31, 3) := by decide +kernel
theorem dX4_putIn_16 : decode cX4_putIn 16 = .ok (.if_icmp .ge 32, 3) := by decide +kernel
theorem dX4_putIn_19 : decode cX4_putIn 19 = .ok (.iload_n 3, 1) := by decide +kernel
theorem dX4_putIn_20 : decode cX4_putIn 20 = .ok (.aload_n 0, 1) := by decide +kernel
theorem dX4_putIn_21 : decode cX4_putIn 21 = .ok (.getfield 22, 3) := by decide +kernel
theorem dX4_putIn_24 : decode cX4_putIn 24 = .ok (.arraylength, 1) := by decide +kernel
theorem dX4_putIn_25 : decode cX4_putIn 25 = .ok (.if_icmp .ge 23, 3) := by decide +kernel
theorem dX4_putIn_28 : decode cX4_putIn 28 = .ok (.aload_n 0, 1) := by decide +kernel
theorem dX4_putIn_29 : decode cX4_putIn 29 = .ok (.getfield 22, 3) := by decide +kernel
theorem dX4_putIn_32 : decode cX4_putIn 32 = .ok (.iload_n 3, 1) := by decide +kernel
theorem dX4_putIn_33 : decode cX4_putIn 33 = .ok (.aaload, 1) := by decide +kernel
theorem dX4_putIn_34 : decode cX4_putIn 34 = .ok (.iload_n 1, 1) := by decide +kernel
theorem dX4_putIn_35 : decode cX4_putIn 35 = .ok (.aload_n 2, 1) := by decide +kernel
theorem dX4_putIn_36 : decode cX4_putIn 36 = .ok (.getfield 58, 3) := by decide +kernel
theorem dX4_putIn_39 : decode cX4_putIn 39 = .ok (.invokevirtual 68, 3) := by decide +kernel
theorem dX4_putIn_42 : decode cX4_putIn 42 = .ok (.iinc 3 1, 3) := by decide +kernel
theorem dX4_putIn_45 : decode cX4_putIn 45 = .ok (.goto (-34), 3) := by decide +kernel
theorem dX4_putIn_48 : decode cX4_putIn 48 = .ok (.return_, 1) := by decide +kernel
theorem dX4_cutOut_0 : decode cX4_cutOut 0 = .ok (.aload_n 0, 1) := by decide +kernel
theorem dX4_cutOut_1 : decode cX4_cutOut 1 = .ok (.getfield 14, 3) := by decide +kernel
theorem dX4_cutOut_4 : decode cX4_cutOut 4 = .ok (.iload_n 1, 1) := by decide +kernel
theorem dX4_cutOut_5 : decode cX4_cutOut 5 = .ok (.iload_n 2, 1) := by decide +kernel
theorem dX4_cutOut_6 : decode cX4_cutOut 6 = .ok (.invokevirtual 72, 3) := by decide +kernel
theorem dX4_cutOut_9 : decode cX4_cutOut 9 = .ok (.iconst 0, 1) := by decide +kernel
theorem dX4_cutOut_10 : decode cX4_cutOut 10 = .ok (.istore_n 3, 1) := by decide +kernel
theorem dX4_cutOut_11 : decode cX4_cutOut 11 = .ok (.iconst 0, 1) := by decide +kernel
theorem dX4_cutOut_12 : decode cX4_cutOut 12 = .ok (.istore 4, 2) := by decide +kernel
theorem dX4_cutOut_14 : decode cX4_cutOut 14 = .ok (.iload 4, 2) := by decide +kernel
theorem dX4_cutOut_16 : decode cX4_cutOut 16 = .ok (.aload_n 0, 1) := by decide +kernel
theorem dX4_cutOut_17 : decode cX4_cutOut 17 = .ok (.getfield 31, 3) := by decide +kernel
theorem dX4_cutOut_20 : decode cX4_cutOut 20 = .ok (.if_icmp .ge 37, 3) := by decide +kernel
theorem dX4_cutOut_23 : decode cX4_cutOut 23 = .ok (.iload 4, 2) := by decide +kernel
theorem dX4_cutOut_25 : decode cX4_cutOut 25 = .ok (.aload_n 0, 1) := by decide +kernel
theorem dX4_cutOut_26 : decode cX4_cutOut 26 = .ok (.getfield 22, 3) := by decide +kernel
theorem dX4_cutOut_29 : decode cX4_cutOut 29 = .ok (.arraylength, 1) := by decide +kernel
theorem dX4_cutOut_30 : decode cX4_cutOut 30 = .ok (.if_icmp .ge 27, 3) := by decide +kernel
theorem dX4_cutOut_33 : decode cX4_cutOut 33 = .ok (.aload_n 0, 1) := by decide +kernel
theorem dX4_cutOut_34 : decode cX4_cutOut 34 = .ok (.getfield 22, 3) := by decide +kernel
theorem dX4_cutOut_37 : decode cX4_cutOut 37 = .ok (.iload 4, 2) := by decide +kernel
theorem dX4_cutOut_39 : decode cX4_cutOut 39 = .ok (.aaload, 1) := by decide +kernel
theorem dX4_cutOut_40 : decode cX4_cutOut 40 = .ok (.iload_n 1, 1) := by decide +kernel
theorem dX4_cutOut_41 : decode cX4_cutOut 41 = .ok (.iload_n 2, 1) := by decide +kernel
theorem dX4_cutOut_42 : decode cX4_cutOut 42 = .ok (.invokevirtual 75, 3) := by decide +kernel
theorem dX4_cutOut_45 : decode cX4_cutOut 45 = .ok (.ifCond .eq 6, 3) := by decide +kernel
theorem dX4_cutOut_48 : decode cX4_cutOut 48 = .ok (.iinc 3 1, 3) := by decide +kernel
theorem dX4_cutOut_51 : decode cX4_cutOut 51 = .ok (.iinc 4 1, 3) := by decide +kernel
theorem dX4_cutOut_54 : decode cX4_cutOut 54 = .ok (.goto (-40), 3) := by decide +kernel
theorem dX4_cutOut_57 : decode cX4_cutOut 57 = .ok (.iload_n 3, 1) := by decide +kernel
theorem dX4_cutOut_58 : decode cX4_cutOut 58 = .ok (.ireturn, 1) := by decide +kernel
theorem dX4_hasTwins_0 : decode cX4_hasTwins 0 = .ok (.iconst 0, 1) := by decide +kernel
theorem dX4_hasTwins_1 : decode cX4_hasTwins 1 = .ok (.istore_n 1, 1) := by decide +kernel
theorem dX4_hasTwins_2 : decode cX4_hasTwins 2 = .ok (.iload_n 1, 1) := by decide +kernel
theorem dX4_hasTwins_3 : decode cX4_hasTwins 3 = .ok (.aload_n 0, 1) := by decide +kernel
theorem dX4_hasTwins_4 : decode cX4_hasTwins 4 = .ok (.getfield 31, 3) := by decide +kernel
theorem dX4_hasTwins_7 : decode cX4_hasTwins 7 = .ok (.if_icmp .ge 28, 3) := by decide +kernel
theorem dX4_hasTwins_10 : decode cX4_hasTwins 10 = .ok (.iload_n 1, 1) := by decide +kernel
theorem dX4_hasTwins_11 : decode cX4_hasTwins 11 = .ok (.aload_n 0, 1) := by decide +kernel
theorem dX4_hasTwins_12 : decode cX4_hasTwins 12 = .ok (.getfield 22, 3) := by decide +kernel
theorem dX4_hasTwins_15 : decode cX4_hasTwins 15 = .ok (.arraylength, 1) := by decide +kernel
theorem dX4_hasTwins_16 : decode cX4_hasTwins 16 = .ok (.if_icmp .ge 19, 3) := by decide +kernel
theorem dX4_hasTwins_19 : decode cX4_hasTwins 19 = .ok (.aload_n 0, 1) := by decide +kernel
theorem dX4_hasTwins_20 : decode cX4_hasTwins 20 = .ok (.iload_n 1, 1) := by decide +kernel
theorem dX4_hasTwins_21 : decode cX4_hasTwins 21 = .ok (.invokevirtual 79, 3) := by decide +kernel
theorem dX4_hasTwins_24 : decode cX4_hasTwins 24 = .ok (.ifCond .lt 5, 3) := by decide +kernel
theorem dX4_hasTwins_27 : decode cX4_hasTwins 27 = .ok (.iconst 1, 1) := by decide +kernel
theorem dX4_hasTwins_28 : decode cX4_hasTwins 28 = .ok (.ireturn, 1) := by decide +kernel
theorem dX4_hasTwins_29 : decode cX4_hasTwins 29 = .ok (.iinc 1 1, 3) := by decide +kernel
theorem dX4_hasTwins_32 : decode cX4_hasTwins 32 = .ok (.goto (-30), 3) := by decide +kernel
theorem dX4_hasTwins_35 : decode cX4_hasTwins 35 = .ok (.iconst 0, 1) := by decide +kernel
theorem dX4_hasTwins_36 : decode cX4_hasTwins 36 = .ok (.ireturn, 1) := by decide +kernel
theorem dX4_mergeTwins_0 : decode cX4_mergeTwins 0 = .ok (.iconst 0, 1) := by decide +kernel
theorem dX4_mergeTwins_1 : decode cX4_mergeTwins 1 = .ok (.istore_n 1, 1) := by decide +kernel
theorem dX4_mergeTwins_2 : decode cX4_mergeTwins 2 = .ok (.aload_n 0, 1) := by decide +kernel
theorem dX4_mergeTwins_3 : decode cX4_mergeTwins 3 = .ok (.getfield 31, 3) := by decide +kernel
theorem dX4_mergeTwins_6 : decode cX4_mergeTwins 6 = .ok (.iconst 1, 1) := by decide +kernel
theorem dX4_mergeTwins_7 : decode cX4_mergeTwins 7 = .ok (.isub, 1) := by decide +kernel
theorem dX4_mergeTwins_8 : decode cX4_mergeTwins 8 = .ok (.istore_n 2, 1) := by decide +kernel
theorem dX4_mergeTwins_9 : decode cX4_mergeTwins 9 = .ok (.iload_n 2, 1) := by decide +kernel
theorem dX4_mergeTwins_10 : decode cX4_mergeTwins 10 = .ok (.ifCond .lt 68, 3) := by decide +kernel
theorem dX4_mergeTwins_13 : decode cX4_mergeTwins 13 = .ok (.iload_n 2, 1) := by decide +kernel
theorem dX4_mergeTwins_14 : decode cX4_mergeTwins 14 = .ok (.aload_n 0, 1) := by decide +kernel
theorem dX4_mergeTwins_15 : decode cX4_mergeTwins 15 = .ok (.getfield 22, 3) := by decide +kernel
theorem dX4_mergeTwins_18 : decode cX4_mergeTwins 18 = .ok (.arraylength, 1) := by decide +kernel
theorem dX4_mergeTwins_19 : decode cX4_mergeTwins 19 = .ok (.if_icmp .ge 59, 3) := by decide +kernel
theorem dX4_mergeTwins_22 : decode cX4_mergeTwins 22 = .ok (.aload_n 0, 1) := by decide +kernel
theorem dX4_mergeTwins_23 : decode cX4_mergeTwins 23 = .ok (.iload_n 2, 1) := by decide +kernel
theorem dX4_mergeTwins_24 : decode cX4_mergeTwins 24 = .ok (.invokevirtual 79, 3) := by decide +kernel
theorem dX4_mergeTwins_27 : decode cX4_mergeTwins 27 = .ok (.istore_n 3, 1) := by decide +kernel
theorem dX4_mergeTwins_28 : decode cX4_mergeTwins 28 = .ok (.iload_n 3, 1) := by decide +kernel
theorem dX4_mergeTwins_29 : decode cX4_mergeTwins 29 = .ok (.ifCond .lt 43, 3) := by decide +kernel
theorem dX4_mergeTwins_32 : decode cX4_mergeTwins 32 = .ok (.iload_n 3, 1) := by decide +kernel
theorem dX4_mergeTwins_33 : decode cX4_mergeTwins 33 = .ok (.aload_n 0, 1) := by decide +kernel
theorem dX4_mergeTwins_34 : decode cX4_mergeTwins 34 = .ok (.getfield 22, 3) := by decide +kernel
theorem dX4_mergeTwins_37 : decode cX4_mergeTwins 37 = .ok (.arraylength, 1) := by decide +kernel
theorem dX4_mergeTwins_38 : decode cX4_mergeTwins 38 = .ok (.if_icmp .ge 34, 3) := by decide +kernel
theorem dX4_mergeTwins_41 : decode cX4_mergeTwins 41 = .ok (.aload_n 0, 1) := by decide +kernel
theorem dX4_mergeTwins_42 : decode cX4_mergeTwins 42 = .ok (.getfield 22, 3) := by decide +kernel
theorem dX4_mergeTwins_45 : decode cX4_mergeTwins 45 = .ok (.iload_n 3, 1) := by decide +kernel
theorem dX4_mergeTwins_46 : decode cX4_mergeTwins 46 = .ok (.aaload, 1) := by decide +kernel
theorem dX4_mergeTwins_47 : decode cX4_mergeTwins 47 = .ok (.dup, 1) := by decide +kernel
theorem dX4_mergeTwins_48 : decode cX4_mergeTwins 48 = .ok (.getfield 82, 3) := by decide +kernel
theorem dX4_mergeTwins_51 : decode cX4_mergeTwins 51 = .ok (.aload_n 0, 1) := by decide +kernel
theorem dX4_mergeTwins_52 : decode cX4_mergeTwins 52 = .ok (.getfield 22, 3) := by decide +kernel
theorem dX4_mergeTwins_55 : decode cX4_mergeTwins 55 = .ok (.iload_n 2, 1) := by decide +kernel
theorem dX4_mergeTwins_56 : decode cX4_mergeTwins 56 = .ok (.aaload, 1) := by decide +kernel
theorem dX4_mergeTwins_57 : decode cX4_mergeTwins 57 = .ok (.getfield 82, 3) := by decide +kernel
theorem dX4_mergeTwins_60 : decode cX4_mergeTwins 60 = .ok (.iadd, 1) := by decide +kernel
theorem dX4_mergeTwins_61 : decode cX4_mergeTwins 61 = .ok (.putfield 82, 3) := by decide +kernel
theorem dX4_mergeTwins_64 : decode cX4_mergeTwins 64 = .ok (.aload_n 0, 1) := by decide +kernel
theorem dX4_mergeTwins_65 : decode cX4_mergeTwins 65 = .ok (.iload_n 2, 1) := by decide +kernel
theorem dX4_mergeTwins_66 : decode cX4_mergeTwins 66 = .ok (.invokevirtual 85, 3) := by decide +kernel
theorem dX4_mergeTwins_69 : decode cX4_mergeTwins 69 = .ok (.iinc 1 1, 3) := by decide +kernel
theorem dX4_mergeTwins_72 : decode cX4_mergeTwins 72 = .ok (.iinc 2 (-1), 3) := by decide +kernel
theorem dX4_mergeTwins_75 : decode cX4_mergeTwins 75 = .ok (.goto (-66), 3) := by decide +kernel
theorem dX4_mergeTwins_78 : decode cX4_mergeTwins 78 = .ok (.iload_n 1, 1) := by decide +kernel
theorem dX4_mergeTwins_79 : decode cX4_mergeTwins 79 = .ok (.ireturn, 1) := by decide +kernel
theorem dX4_firstTwin_0 : decode cX4_firstTwin 0 = .ok (.iload_n 1, 1) := by decide +kernel
theorem dX4_firstTwin_1 : decode cX4_firstTwin 1 = .ok (.ifCond .lt 12, 3) := by decide +kernel
theorem dX4_firstTwin_4 : decode cX4_firstTwin 4 = .ok (.iload_n 1, 1) := by decide +kernel
theorem dX4_firstTwin_5 : decode cX4_firstTwin 5 = .ok (.aload_n 0, 1) := by decide +kernel
theorem dX4_firstTwin_6 : decode cX4_firstTwin 6 = .ok (.getfield 22, 3) := by decide +kernel
theorem dX4_firstTwin_9 : decode cX4_firstTwin 9 = .ok (.arraylength, 1) := by decide +kernel
theorem dX4_firstTwin_10 : decode cX4_firstTwin 10 = .ok (.if_icmp .lt 5, 3) := by decide +kernel
theorem dX4_firstTwin_13 : decode cX4_firstTwin 13 = .ok (.iconst (-1), 1) := by decide +kernel
theorem dX4_firstTwin_14 : decode cX4_firstTwin 14 = .ok (.ireturn, 1) := by decide +kernel
theorem dX4_firstTwin_15 : decode cX4_firstTwin 15 = .ok (.iconst 0, 1) := by decide +kernel
theorem dX4_firstTwin_16 : decode cX4_firstTwin 16 = .ok (.istore_n 2, 1) := by decide +kernel
theorem dX4_firstTwin_17 : decode cX4_firstTwin 17 = .ok (.iload_n 2, 1) := by decide +kernel
theorem dX4_firstTwin_18 : decode cX4_firstTwin 18 = .ok (.iload_n 1, 1) := by decide +kernel
theorem dX4_firstTwin_19 : decode cX4_firstTwin 19 = .ok (.if_icmp .ge 29, 3) := by decide +kernel
theorem dX4_firstTwin_22 : decode cX4_firstTwin 22 = .ok (.aload_n 0, 1) := by decide +kernel
theorem dX4_firstTwin_23 : decode cX4_firstTwin 23 = .ok (.getfield 22, 3) := by decide +kernel
theorem dX4_firstTwin_26 : decode cX4_firstTwin 26 = .ok (.iload_n 2, 1) := by decide +kernel
theorem dX4_firstTwin_27 : decode cX4_firstTwin 27 = .ok (.aaload, 1) := by decide +kernel
theorem dX4_firstTwin_28 : decode cX4_firstTwin 28 = .ok (.aload_n 0, 1) := by decide +kernel
theorem dX4_firstTwin_29 : decode cX4_firstTwin 29 = .ok (.getfield 22, 3) := by decide +kernel
theorem dX4_firstTwin_32 : decode cX4_firstTwin 32 = .ok (.iload_n 1, 1) := by decide +kernel
theorem dX4_firstTwin_33 : decode cX4_firstTwin 33 = .ok (.aaload, 1) := by decide +kernel
theorem dX4_firstTwin_34 : decode cX4_firstTwin 34 = .ok (.invokevirtual 88, 3) := by decide +kernel
theorem dX4_firstTwin_37 : decode cX4_firstTwin 37 = .ok (.ifCond .eq 5, 3) := by decide +kernel
theorem dX4_firstTwin_40 : decode cX4_firstTwin 40 = .ok (.iload_n 2, 1) := by decide +kernel
theorem dX4_firstTwin_41 : decode cX4_firstTwin 41 = .ok (.ireturn, 1) := by decide +kernel
theorem dX4_firstTwin_42 : decode cX4_firstTwin 42 = .ok (.iinc 2 1, 3) := by decide +kernel
theorem dX4_firstTwin_45 : decode cX4_firstTwin 45 = .ok (.goto (-28), 3) := by decide +kernel
theorem dX4_firstTwin_48 : decode cX4_firstTwin 48 = .ok (.iconst (-1), 1) := by decide +kernel
theorem dX4_firstTwin_49 : decode cX4_firstTwin 49 = .ok (.ireturn, 1) := by decide +kernel
theorem dX4_numberCovering_0 : decode cX4_numberCovering 0 = .ok (.iconst 0, 1) := by decide +kernel
theorem dX4_numberCovering_1 : decode cX4_numberCovering 1 = .ok (.istore_n 3, 1) := by decide +kernel
theorem dX4_numberCovering_2 : decode cX4_numberCovering 2 = .ok (.iload_n 3, 1) := by decide +kernel
theorem dX4_numberCovering_3 : decode cX4_numberCovering 3 = .ok (.aload_n 0, 1) := by decide +kernel
theorem dX4_numberCovering_4 : decode cX4_numberCovering 4 = .ok (.getfield 31, 3) := by decide +kernel
theorem dX4_numberCovering_7 : decode cX4_numberCovering 7 = .ok (.if_icmp .ge 56, 3) := by decide +kernel
theorem dX4_numberCovering_10 : decode cX4_numberCovering 10 = .ok (.iload_n 3, 1) := by decide +kernel
theorem dX4_numberCovering_11 : decode cX4_numberCovering 11 = .ok (.aload_n 0, 1) := by decide +kernel
theorem dX4_numberCovering_12 : decode cX4_numberCovering 12 = .ok (.getfield 22, 3) := by decide +kernel
theorem dX4_numberCovering_15 : decode cX4_numberCovering 15 = .ok (.arraylength, 1) := by decide +kernel
theorem dX4_numberCovering_16 : decode cX4_numberCovering 16 = .ok (.if_icmp .ge 47, 3) := by decide +kernel
theorem dX4_numberCovering_19 : decode cX4_numberCovering 19 = .ok (.aload_n 0, 1) := by decide +kernel
theorem dX4_numberCovering_20 : decode cX4_numberCovering 20 = .ok (.getfield 22, 3) := by decide +kernel
theorem dX4_numberCovering_23 : decode cX4_numberCovering 23 = .ok (.iload_n 3, 1) := by decide +kernel
theorem dX4_numberCovering_24 : decode cX4_numberCovering 24 = .ok (.aaload, 1) := by decide +kernel
theorem dX4_numberCovering_25 : decode cX4_numberCovering 25 = .ok (.iload_n 1, 1) := by decide +kernel
theorem dX4_numberCovering_26 : decode cX4_numberCovering 26 = .ok (.invokevirtual 92, 3) := by decide +kernel
theorem dX4_numberCovering_29 : decode cX4_numberCovering 29 = .ok (.ifCond .eq 28, 3) := by decide +kernel
theorem dX4_numberCovering_32 : decode cX4_numberCovering 32 = .ok (.aload_n 0, 1) := by decide +kernel
theorem dX4_numberCovering_33 : decode cX4_numberCovering 33 = .ok (.aload_n 0, 1) := by decide +kernel
theorem dX4_numberCovering_34 : decode cX4_numberCovering 34 = .ok (.getfield 22, 3) := by decide +kernel
theorem dX4_numberCovering_37 : decode cX4_numberCovering 37 = .ok (.iload_n 3, 1) := by decide +kernel
theorem dX4_numberCovering_38 : decode cX4_numberCovering 38 = .ok (.aaload, 1) := by decide +kernel
theorem dX4_numberCovering_39 : decode cX4_numberCovering 39 = .ok (.iload_n 1, 1) := by decide +kernel
theorem dX4_numberCovering_40 : decode cX4_numberCovering 40 = .ok (.invokevirtual 96, 3) := by decide +kernel
theorem dX4_numberCovering_43 : decode cX4_numberCovering 43 = .ok (.iload_n 2, 1) := by decide +kernel
theorem dX4_numberCovering_44 : decode cX4_numberCovering 44 = .ok (.if_icmp .ne 13, 3) := by decide +kernel
theorem dX4_numberCovering_47 : decode cX4_numberCovering 47 = .ok (.aload_n 0, 1) := by decide +kernel
theorem dX4_numberCovering_48 : decode cX4_numberCovering 48 = .ok (.getfield 22, 3) := by decide +kernel
theorem dX4_numberCovering_51 : decode cX4_numberCovering 51 = .ok (.iload_n 3, 1) := by decide +kernel
theorem dX4_numberCovering_52 : decode cX4_numberCovering 52 = .ok (.aaload, 1) := by decide +kernel
theorem dX4_numberCovering_53 : decode cX4_numberCovering 53 = .ok (.getfield 47, 3) := by decide +kernel
theorem dX4_numberCovering_56 : decode cX4_numberCovering 56 = .ok (.ireturn, 1) := by decide +kernel
theorem dX4_numberCovering_57 : decode cX4_numberCovering 57 = .ok (.iinc 3 1, 3) := by decide +kernel
theorem dX4_numberCovering_60 : decode cX4_numberCovering 60 = .ok (.goto (-58), 3) := by decide +kernel
theorem dX4_numberCovering_63 : decode cX4_numberCovering 63 = .ok (.sipush (-1005), 3) := by decide +kernel
theorem dX4_numberCovering_66 : decode cX4_numberCovering 66 = .ok (.ireturn, 1) := by decide +kernel
theorem dX4_rankOf_0 : decode cX4_rankOf 0 = .ok (.iconst 0, 1) := by decide +kernel
theorem dX4_rankOf_1 : decode cX4_rankOf 1 = .ok (.istore_n 3, 1) := by decide +kernel
theorem dX4_rankOf_2 : decode cX4_rankOf 2 = .ok (.iconst 0, 1) := by decide +kernel
theorem dX4_rankOf_3 : decode cX4_rankOf 3 = .ok (.istore 4, 2) := by decide +kernel
theorem dX4_rankOf_5 : decode cX4_rankOf 5 = .ok (.iload 4, 2) := by decide +kernel
theorem dX4_rankOf_7 : decode cX4_rankOf 7 = .ok (.aload_n 0, 1) := by decide +kernel
theorem dX4_rankOf_8 : decode cX4_rankOf 8 = .ok (.getfield 31, 3) := by decide +kernel
theorem dX4_rankOf_11 : decode cX4_rankOf 11 = .ok (.if_icmp .ge 50, 3) := by decide +kernel
theorem dX4_rankOf_14 : decode cX4_rankOf 14 = .ok (.iload 4, 2) := by decide +kernel
theorem dX4_rankOf_16 : decode cX4_rankOf 16 = .ok (.aload_n 0, 1) := by decide +kernel
theorem dX4_rankOf_17 : decode cX4_rankOf 17 = .ok (.getfield 22, 3) := by decide +kernel
theorem dX4_rankOf_20 : decode cX4_rankOf 20 = .ok (.arraylength, 1) := by decide +kernel
theorem dX4_rankOf_21 : decode cX4_rankOf 21 = .ok (.if_icmp .ge 40, 3) := by decide +kernel
theorem dX4_rankOf_24 : decode cX4_rankOf 24 = .ok (.aload_n 0, 1) := by decide +kernel
theorem dX4_rankOf_25 : decode cX4_rankOf 25 = .ok (.getfield 22, 3) := by decide +kernel
theorem dX4_rankOf_28 : decode cX4_rankOf 28 = .ok (.iload 4, 2) := by decide +kernel
theorem dX4_rankOf_30 : decode cX4_rankOf 30 = .ok (.aaload, 1) := by decide +kernel
theorem dX4_rankOf_31 : decode cX4_rankOf 31 = .ok (.iload_n 2, 1) := by decide +kernel
theorem dX4_rankOf_32 : decode cX4_rankOf 32 = .ok (.invokevirtual 92, 3) := by decide +kernel
theorem dX4_rankOf_35 : decode cX4_rankOf 35 = .ok (.ifCond .eq 20, 3) := by decide +kernel
theorem dX4_rankOf_38 : decode cX4_rankOf 38 = .ok (.aload_n 0, 1) := by decide +kernel
theorem dX4_rankOf_39 : decode cX4_rankOf 39 = .ok (.getfield 22, 3) := by decide +kernel
theorem dX4_rankOf_42 : decode cX4_rankOf 42 = .ok (.iload 4, 2) := by decide +kernel
theorem dX4_rankOf_44 : decode cX4_rankOf 44 = .ok (.aaload, 1) := by decide +kernel
theorem dX4_rankOf_45 : decode cX4_rankOf 45 = .ok (.aload_n 1, 1) := by decide +kernel
theorem dX4_rankOf_46 : decode cX4_rankOf 46 = .ok (.invokevirtual 100, 3) := by decide +kernel
theorem dX4_rankOf_49 : decode cX4_rankOf 49 = .ok (.ifCond .eq 6, 3) := by decide +kernel
theorem dX4_rankOf_52 : decode cX4_rankOf 52 = .ok (.iinc 3 1, 3) := by decide +kernel
theorem dX4_rankOf_55 : decode cX4_rankOf 55 = .ok (.iinc 4 1, 3) := by decide +kernel
theorem dX4_rankOf_58 : decode cX4_rankOf 58 = .ok (.goto (-53), 3) := by decide +kernel
theorem dX4_rankOf_61 : decode cX4_rankOf 61 = .ok (.iload_n 3, 1) := by decide +kernel
theorem dX4_rankOf_62 : decode cX4_rankOf 62 = .ok (.ireturn, 1) := by decide +kernel
theorem dX5_init_0 : decode cX5_init 0 = .ok (.aload_n 0, 1) := by decide +kernel
theorem dX5_init_1 : decode cX5_init 1 = .ok (.invokespecial 3, 3) := by decide +kernel
theorem dX5_init_4 : decode cX5_init 4 = .ok (.aload_n 0, 1) := by decide +kernel
theorem dX5_init_5 : decode cX5_init 5 = .ok (.bipush 10, 2) := by decide +kernel
theorem dX5_init_7 : decode cX5_init 7 = .ok (.anewarray 9, 3) := by decide +kernel
theorem dX5_init_10 : decode cX5_init 10 = .ok (.putfield 11, 3) := by decide +kernel
theorem dX5_init_13 : decode cX5_init 13 = .ok (.aload_n 0, 1) := by decide +kernel
theorem dX5_init_14 : decode cX5_init 14 = .ok (.bipush 11, 2) := by decide +kernel
theorem dX5_init_16 : decode cX5_init 16 = .ok (.anewarray 17, 3) := by decide +kernel
theorem dX5_init_19 : decode cX5_init 19 = .ok (.putfield 19, 3) := by decide +kernel
theorem dX5_init_22 : decode cX5_init 22 = .ok (.new 9, 3) := by decide +kernel
theorem dX5_init_25 : decode cX5_init 25 = .ok (.dup, 1) := by decide +kernel
theorem dX5_init_26 : decode cX5_init 26 = .ok (.invokespecial 23, 3) := by decide +kernel
theorem dX5_init_29 : decode cX5_init 29 = .ok (.astore_n 1, 1) := by decide +kernel
theorem dX5_init_30 : decode cX5_init 30 = .ok (.iconst 0, 1) := by decide +kernel
theorem dX5_init_31 : decode cX5_init 31 = .ok (.istore_n 2, 1) := by decide +kernel
theorem dX5_init_32 : decode cX5_init 32 = .ok (.iload_n 2, 1) := by decide +kernel
theorem dX5_init_33 : decode cX5_init 33 = .ok (.aload_n 0, 1) := by decide +kernel
theorem dX5_init_34 : decode cX5_init 34 = .ok (.getfield 11, 3) := by decide +kernel
theorem dX5_init_37 : decode cX5_init 37 = .ok (.arraylength, 1) := by decide +kernel
theorem dX5_init_38 : decode cX5_init 38 = .ok (.if_icmp .ge 16, 3) := by decide +kernel
theorem dX5_init_41 : decode cX5_init 41 = .ok (.aload_n 0, 1) := by decide +kernel
theorem dX5_init_42 : decode cX5_init 42 = .ok (.getfield 11, 3) := by decide +kernel
theorem dX5_init_45 : decode cX5_init 45 = .ok (.iload_n 2, 1) := by decide +kernel
theorem dX5_init_46 : decode cX5_init 46 = .ok (.aload_n 1, 1) := by decide +kernel
theorem dX5_init_47 : decode cX5_init 47 = .ok (.aastore, 1) := by decide +kernel
theorem dX5_init_48 : decode cX5_init 48 = .ok (.iinc 2 1, 3) := by decide +kernel
theorem dX5_init_51 : decode cX5_init 51 = .ok (.goto (-19), 3) := by decide +kernel
theorem dX5_init_54 : decode cX5_init 54 = .ok (.iconst 0, 1) := by decide +kernel
theorem dX5_init_55 : decode cX5_init 55 = .ok (.istore_n 2, 1) := by decide +kernel
theorem dX5_init_56 : decode cX5_init 56 = .ok (.iload_n 2, 1) := by decide +kernel
theorem dX5_init_57 : decode cX5_init 57 = .ok (.aload_n 0, 1) := by decide +kernel
theorem dX5_init_58 : decode cX5_init 58 = .ok (.getfield 19, 3) := by decide +kernel
theorem dX5_init_61 : decode cX5_init 61 = .ok (.arraylength, 1) := by decide +kernel
theorem dX5_init_62 : decode cX5_init 62 = .ok (.if_icmp .ge 22, 3) := by decide +kernel
theorem dX5_init_65 : decode cX5_init 65 = .ok (.aload_n 0, 1) := by decide +kernel
theorem dX5_init_66 : decode cX5_init 66 = .ok (.getfield 19, 3) := by decide +kernel
theorem dX5_init_69 : decode cX5_init 69 = .ok (.iload_n 2, 1) := by decide +kernel
theorem dX5_init_70 : decode cX5_init 70 = .ok (.new 17, 3) := by decide +kernel
theorem dX5_init_73 : decode cX5_init 73 = .ok (.dup, 1) := by decide +kernel
theorem dX5_init_74 : decode cX5_init 74 = .ok (.invokespecial 24, 3) := by decide +kernel
theorem dX5_init_77 : decode cX5_init 77 = .ok (.aastore, 1) := by decide +kernel
theorem dX5_init_78 : decode cX5_init 78 = .ok (.iinc 2 1, 3) := by decide +kernel
theorem dX5_init_81 : decode cX5_init 81 = .ok (.goto (-25), 3) := by decide +kernel
theorem dX5_init_84 : decode cX5_init 84 = .ok (.return_, 1) := by decide +kernel
theorem dX5_gather_0 : decode cX5_gather 0 = .ok (.aload_n 0, 1) := by decide +kernel
theorem dX5_gather_1 : decode cX5_gather 1 = .ok (.iconst 0, 1) := by decide +kernel
theorem dX5_gather_2 : decode cX5_gather 2 = .ok (.putfield 25, 3) := by decide +kernel
theorem dX5_gather_5 : decode cX5_gather 5 = .ok (.iconst 0, 1) := by decide +kernel
theorem dX5_gather_6 : decode cX5_gather 6 = .ok (.istore_n 2, 1) := by decide +kernel
theorem dX5_gather_7 : decode cX5_gather 7 = .ok (.iload_n 2, 1) := by decide +kernel
theorem dX5_gather_8 : decode cX5_gather 8 = .ok (.aload_n 1, 1) := by decide +kernel
theorem dX5_gather_9 : decode cX5_gather 9 = .ok (.getfield 29, 3) := by decide +kernel
theorem dX5_gather_12 : decode cX5_gather 12 = .ok (.if_icmp .ge 40, 3) := by decide +kernel
theorem dX5_gather_15 : decode cX5_gather 15 = .ok (.iload_n 2, 1) := by decide +kernel
theorem dX5_gather_16 : decode cX5_gather 16 = .ok (.aload_n 1, 1) := by decide +kernel
theorem dX5_gather_17 : decode cX5_gather 17 = .ok (.getfield 32, 3) := by decide +kernel
theorem dX5_gather_20 : decode cX5_gather 20 = .ok (.arraylength, 1) := by decide +kernel
theorem dX5_gather_21 : decode cX5_gather 21 = .ok (.if_icmp .ge 31, 3) := by decide +kernel
theorem dX5_gather_24 : decode cX5_gather 24 = .ok (.aload_n 1, 1) := by decide +kernel
theorem dX5_gather_25 : decode cX5_gather 25 = .ok (.getfield 32, 3) := by decide +kernel
theorem dX5_gather_28 : decode cX5_gather 28 = .ok (.iload_n 2, 1) := by decide +kernel
theorem dX5_gather_29 : decode cX5_gather 29 = .ok (.aaload, 1) := by decide +kernel
theorem dX5_gather_30 : decode cX5_gather 30 = .ok (.getfield 35, 3) := by decide +kernel
theorem dX5_gather_33 : decode cX5_gather 33 = .ok (.ifCond .ne 13, 3) := by decide +kernel
theorem dX5_gather_36 : decode cX5_gather 36 = .ok (.aload_n 0, 1) := by decide +kernel
theorem dX5_gather_37 : decode cX5_gather 37 = .ok (.aload_n 1, 1) := by decide +kernel
theorem dX5_gather_38 : decode cX5_gather 38 = .ok (.getfield 32, 3) := by decide +kernel
theorem dX5_gather_41 : decode cX5_gather 41 = .ok (.iload_n 2, 1) := by decide +kernel
theorem dX5_gather_42 : decode cX5_gather 42 = .ok (.aaload, 1) := by decide +kernel
theorem dX5_gather_43 : decode cX5_gather 43 = .ok (.invokevirtual 38, 3) := by decide +kernel
theorem dX5_gather_46 : decode cX5_gather 46 = .ok (.iinc 2 1, 3) := by decide +kernel
theorem dX5_gather_49 : decode cX5_gather 49 = .ok (.goto (-42), 3) := by decide +kernel
theorem dX5_gather_52 : decode cX5_gather 52 = .ok (.aload_n 0, 1) := by decide +kernel
theorem dX5_gather_53 : decode cX5_gather 53 = .ok (.getfield 25, 3) := by decide +kernel
theorem dX5_gather_56 : decode cX5_gather 56 = .ok (.ireturn, 1) := by decide +kernel
theorem dX5_takeIn_0 : decode cX5_takeIn 0 = .ok (.aload_n 0, 1) := by decide +kernel
theorem dX5_takeIn_1 : decode cX5_takeIn 1 = .ok (.getfield 25, 3) := by decide +kernel
theorem dX5_takeIn_4 : decode cX5_takeIn 4 = .ok (.ifCond .lt 15, 3) := by decide +kernel
theorem dX5_takeIn_7 : decode cX5_takeIn 7 = .ok (.aload_n 0, 1) := by decide +kernel
theorem dX5_takeIn_8 : decode cX5_takeIn 8 = .ok (.getfield 25, 3) := by decide +kernel
theorem dX5_takeIn_11 : decode cX5_takeIn 11 = .ok (.aload_n 0, 1) := by decide +kernel
theorem dX5_takeIn_12 : decode cX5_takeIn 12 = .ok (.getfield 11, 3) := by decide +kernel
theorem dX5_takeIn_15 : decode cX5_takeIn 15 = .ok (.arraylength, 1) := by decide +kernel
theorem dX5_takeIn_16 : decode cX5_takeIn 16 = .ok (.if_icmp .lt 4, 3) := by decide +kernel
theorem dX5_takeIn_19 : decode cX5_takeIn 19 = .ok (.return_, 1) := by decide +kernel
theorem dX5_takeIn_20 : decode cX5_takeIn 20 = .ok (.aload_n 0, 1) := by decide +kernel
theorem dX5_takeIn_21 : decode cX5_takeIn 21 = .ok (.getfield 25, 3) := by decide +kernel
theorem dX5_takeIn_24 : decode cX5_takeIn 24 = .ok (.istore_n 2, 1) := by decide +kernel
theorem dX5_takeIn_25 : decode cX5_takeIn 25 = .ok (.iload_n 2, 1) := by decide +kernel
theorem dX5_takeIn_26 : decode cX5_takeIn 26 = .ok (.ifCond .le 41, 3) := by decide +kernel
theorem dX5_takeIn_29 : decode cX5_takeIn 29 = .ok (.aload_n 0, 1) := by decide +kernel
theorem dX5_takeIn_30 : decode cX5_takeIn 30 = .ok (.getfield 11, 3) := by decide +kernel
theorem dX5_takeIn_33 : decode cX5_takeIn 33 = .ok (.iload_n 2, 1) := by decide +kernel
theorem dX5_takeIn_34 : decode cX5_takeIn 34 = .ok (.iconst 1, 1) := by decide +kernel
theorem dX5_takeIn_35 : decode cX5_takeIn 35 = .ok (.isub, 1) := by decide +kernel
theorem dX5_takeIn_36 : decode cX5_takeIn 36 = .ok (.aaload, 1) := by decide +kernel
theorem dX5_takeIn_37 : decode cX5_takeIn 37 = .ok (.getfield 42, 3) := by decide +kernel
theorem dX5_takeIn_40 : decode cX5_takeIn 40 = .ok (.aload_n 1, 1) := by decide +kernel
theorem dX5_takeIn_41 : decode cX5_takeIn 41 = .ok (.getfield 42, 3) := by decide +kernel
theorem dX5_takeIn_44 : decode cX5_takeIn 44 = .ok (.if_icmp .le 23, 3) := by decide +kernel
theorem dX5_takeIn_47 : decode cX5_takeIn 47 = .ok (.aload_n 0, 1) := by decide +kernel
theorem dX5_takeIn_48 : decode cX5_takeIn 48 = .ok (.getfield 11, 3) := by decide +kernel
theorem dX5_takeIn_51 : decode cX5_takeIn 51 = .ok (.iload_n 2, 1) := by decide +kernel
theorem dX5_takeIn_52 : decode cX5_takeIn 52 = .ok (.aload_n 0, 1) := by decide +kernel
theorem dX5_takeIn_53 : decode cX5_takeIn 53 = .ok (.getfield 11, 3) := by decide +kernel
theorem dX5_takeIn_56 : decode cX5_takeIn 56 = .ok (.iload_n 2, 1) := by decide +kernel
theorem dX5_takeIn_57 : decode cX5_takeIn 57 = .ok (.iconst 1, 1) := by decide +kernel
theorem dX5_takeIn_58 : decode cX5_takeIn 58 = .ok (.isub, 1) := by decide +kernel
theorem dX5_takeIn_59 : decode cX5_takeIn 59 = .ok (.aaload, 1) := by decide +kernel
theorem dX5_takeIn_60 : decode cX5_takeIn 60 = .ok (.aastore, 1) := by decide +kernel
theorem dX5_takeIn_61 : decode cX5_takeIn 61 = .ok (.iinc 2 (-1), 3) := by decide +kernel
theorem dX5_takeIn_64 : decode cX5_takeIn 64 = .ok (.goto (-39), 3) := by decide +kernel
theorem dX5_takeIn_67 : decode cX5_takeIn 67 = .ok (.aload_n 0, 1) := by decide +kernel
theorem dX5_takeIn_68 : decode cX5_takeIn 68 = .ok (.getfield 11, 3) := by decide +kernel
theorem dX5_takeIn_71 : decode cX5_takeIn 71 = .ok (.iload_n 2, 1) := by decide +kernel
theorem dX5_takeIn_72 : decode cX5_takeIn 72 = .ok (.aload_n 1, 1) := by decide +kernel
theorem dX5_takeIn_73 : decode cX5_takeIn 73 = .ok (.aastore, 1) := by decide +kernel
theorem dX5_takeIn_74 : decode cX5_takeIn 74 = .ok (.aload_n 0, 1) := by decide +kernel
theorem dX5_takeIn_75 : decode cX5_takeIn 75 = .ok (.dup, 1) := by decide +kernel
theorem dX5_takeIn_76 : decode cX5_takeIn 76 = .ok (.getfield 25, 3) := by decide +kernel
theorem dX5_takeIn_79 : decode cX5_takeIn 79 = .ok (.iconst 1, 1) := by decide +kernel
theorem dX5_takeIn_80 : decode cX5_takeIn 80 = .ok (.iadd, 1) := by decide +kernel
theorem dX5_takeIn_81 : decode cX5_takeIn 81 = .ok (.putfield 25, 3) := by decide +kernel
theorem dX5_takeIn_84 : decode cX5_takeIn 84 = .ok (.return_, 1) := by decide +kernel
theorem dX5_plan_0 : decode cX5_plan 0 = .ok (.aload_n 0, 1) := by decide +kernel
theorem dX5_plan_1 : decode cX5_plan 1 = .ok (.getfield 25, 3) := by decide +kernel
theorem dX5_plan_4 : decode cX5_plan 4 = .ok (.ifCond .lt 15, 3) := by decide +kernel
theorem dX5_plan_7 : decode cX5_plan 7 = .ok (.aload_n 0, 1) := by decide +kernel
theorem dX5_plan_8 : decode cX5_plan 8 = .ok (.getfield 25, 3) := by decide +kernel
theorem dX5_plan_11 : decode cX5_plan 11 = .ok (.aload_n 0, 1) := by decide +kernel
theorem dX5_plan_12 : decode cX5_plan 12 = .ok (.getfield 19, 3) := by decide +kernel
theorem dX5_plan_15 : decode cX5_plan 15 = .ok (.arraylength, 1) := by decide +kernel
theorem dX5_plan_16 : decode cX5_plan 16 = .ok (.if_icmp .lt 4, 3) := by decide +kernel
theorem dX5_plan_19 : decode cX5_plan 19 = .ok (.return_, 1) := by decide +kernel
theorem dX5_plan_20 : decode cX5_plan 20 = .ok (.aload_n 0, 1) := by decide +kernel
theorem dX5_plan_21 : decode cX5_plan 21 = .ok (.getfield 19, 3) := by decide +kernel
theorem dX5_plan_24 : decode cX5_plan 24 = .ok (.aload_n 0, 1) := by decide +kernel
theorem dX5_plan_25 : decode cX5_plan 25 = .ok (.getfield 25, 3) := by decide +kernel
theorem dX5_plan_28 : decode cX5_plan 28 = .ok (.aaload, 1) := by decide +kernel
theorem dX5_plan_29 : decode cX5_plan 29 = .ok (.invokevirtual 45, 3) := by decide +kernel
theorem dX5_plan_32 : decode cX5_plan 32 = .ok (.aload_n 0, 1) := by decide +kernel
theorem dX5_plan_33 : decode cX5_plan 33 = .ok (.getfield 25, 3) := by decide +kernel
theorem dX5_plan_36 : decode cX5_plan 36 = .ok (.iconst 1, 1) := by decide +kernel
theorem dX5_plan_37 : decode cX5_plan 37 = .ok (.isub, 1) := by decide +kernel
theorem dX5_plan_38 : decode cX5_plan 38 = .ok (.istore 4, 2) := by decide +kernel
theorem dX5_plan_40 : decode cX5_plan 40 = .ok (.iload 4, 2) := by decide +kernel
theorem dX5_plan_42 : decode cX5_plan 42 = .ok (.ifCond .lt 58, 3) := by decide +kernel
theorem dX5_plan_45 : decode cX5_plan 45 = .ok (.iload 4, 2) := by decide +kernel
theorem dX5_plan_47 : decode cX5_plan 47 = .ok (.aload_n 0, 1) := by decide +kernel
theorem dX5_plan_48 : decode cX5_plan 48 = .ok (.getfield 11, 3) := by decide +kernel
theorem dX5_plan_51 : decode cX5_plan 51 = .ok (.arraylength, 1) := by decide +kernel
theorem dX5_plan_52 : decode cX5_plan 52 = .ok (.if_icmp .ge 48, 3) := by decide +kernel
theorem dX5_plan_55 : decode cX5_plan 55 = .ok (.aload_n 0, 1) := by decide +kernel
theorem dX5_plan_56 : decode cX5_plan 56 = .ok (.getfield 19, 3) := by decide +kernel
theorem dX5_plan_59 : decode cX5_plan 59 = .ok (.iload 4, 2) := by decide +kernel
theorem dX5_plan_61 : decode cX5_plan 61 = .ok (.aaload, 1) := by decide +kernel
theorem dX5_plan_62 : decode cX5_plan 62 = .ok (.aload_n 0, 1) := by decide +kernel
theorem dX5_plan_63 : decode cX5_plan 63 = .ok (.getfield 11, 3) := by decide +kernel
theorem dX5_plan_66 : decode cX5_plan 66 = .ok (.iload 4, 2) := by decide +kernel
theorem dX5_plan_68 : decode cX5_plan 68 = .ok (.aaload, 1) := by decide +kernel
theorem dX5_plan_69 : decode cX5_plan 69 = .ok (.aload_n 1, 1) := by decide +kernel
theorem dX5_plan_70 : decode cX5_plan 70 = .ok (.iload_n 2, 1) := by decide +kernel
theorem dX5_plan_71 : decode cX5_plan 71 = .ok (.aload_n 3, 1) := by decide +kernel
theorem dX5_plan_72 : decode cX5_plan 72 = .ok (.invokevirtual 48, 3) := by decide +kernel
theorem dX5_plan_75 : decode cX5_plan 75 = .ok (.aload_n 0, 1) := by decide +kernel
theorem dX5_plan_76 : decode cX5_plan 76 = .ok (.getfield 19, 3) := by decide +kernel
theorem dX5_plan_79 : decode cX5_plan 79 = .ok (.iload 4, 2) := by decide +kernel
theorem dX5_plan_81 : decode cX5_plan 81 = .ok (.aaload, 1) := by decide +kernel
theorem dX5_plan_82 : decode cX5_plan 82 = .ok (.aload_n 0, 1) := by decide +kernel
theorem dX5_plan_83 : decode cX5_plan 83 = .ok (.getfield 19, 3) := by decide +kernel
theorem dX5_plan_86 : decode cX5_plan 86 = .ok (.iload 4, 2) := by decide +kernel
theorem dX5_plan_88 : decode cX5_plan 88 = .ok (.iconst 1, 1) := by decide +kernel
theorem dX5_plan_89 : decode cX5_plan 89 = .ok (.iadd, 1) := by decide +kernel
theorem dX5_plan_90 : decode cX5_plan 90 = .ok (.aaload, 1) := by decide +kernel
theorem dX5_plan_91 : decode cX5_plan 91 = .ok (.invokevirtual 52, 3) := by decide +kernel
theorem dX5_plan_94 : decode cX5_plan 94 = .ok (.iinc 4 (-1), 3) := by decide +kernel
theorem dX5_plan_97 : decode cX5_plan 97 = .ok (.goto (-57), 3) := by decide +kernel
theorem dX5_plan_100 : decode cX5_plan 100 = .ok (.return_, 1) := by decide +kernel
theorem dX5_carryOut_0 : decode cX5_carryOut 0 = .ok (.iconst 0, 1) := by decide +kernel
theorem dX5_carryOut_1 : decode cX5_carryOut 1 = .ok (.istore_n 1, 1) := by decide +kernel
theorem dX5_carryOut_2 : decode cX5_carryOut 2 = .ok (.iconst 0, 1) := by decide +kernel
theorem dX5_carryOut_3 : decode cX5_carryOut 3 = .ok (.istore_n 2, 1) := by decide +kernel
theorem dX5_carryOut_4 : decode cX5_carryOut 4 = .ok (.iconst 0, 1) := by decide +kernel
theorem dX5_carryOut_5 : decode cX5_carryOut 5 = .ok (.istore_n 3, 1) := by decide +kernel
theorem dX5_carryOut_6 : decode cX5_carryOut 6 = .ok (.iload_n 3, 1) := by decide +kernel
theorem dX5_carryOut_7 : decode cX5_carryOut 7 = .ok (.aload_n 0, 1) := by decide +kernel
theorem dX5_carryOut_8 : decode cX5_carryOut 8 = .ok (.getfield 25, 3) := by decide +kernel
theorem dX5_carryOut_11 : decode cX5_carryOut 11 = .ok (.if_icmp .ge 85, 3) := by decide +kernel
theorem dX5_carryOut_14 : decode cX5_carryOut 14 = .ok (.iload_n 3, 1) := by decide +kernel
theorem dX5_carryOut_15 : decode cX5_carryOut 15 = .ok (.aload_n 0, 1) := by decide +kernel
theorem dX5_carryOut_16 : decode cX5_carryOut 16 = .ok (.getfield 11, 3) := by decide +kernel
theorem dX5_carryOut_19 : decode cX5_carryOut 19 = .ok (.arraylength, 1) := by decide +kernel
theorem dX5_carryOut_20 : decode cX5_carryOut 20 = .ok (.if_icmp .ge 76, 3) := by decide +kernel
theorem dX5_carryOut_23 : decode cX5_carryOut 23 = .ok (.iload_n 3, 1) := by decide +kernel
theorem dX5_carryOut_24 : decode cX5_carryOut 24 = .ok (.iconst 1, 1) := by decide +kernel
theorem dX5_carryOut_25 : decode cX5_carryOut 25 = .ok (.iadd, 1) := by decide +kernel
theorem dX5_carryOut_26 : decode cX5_carryOut 26 = .ok (.aload_n 0, 1) := by decide +kernel
theorem dX5_carryOut_27 : decode cX5_carryOut 27 = .ok (.getfield 19, 3) := by decide +kernel
theorem dX5_carryOut_30 : decode cX5_carryOut 30 = .ok (.arraylength, 1) := by decide +kernel
theorem dX5_carryOut_31 : decode cX5_carryOut 31 = .ok (.if_icmp .ge 65, 3) := by decide +kernel
theorem dX5_carryOut_34 : decode cX5_carryOut 34 = .ok (.aload_n 0, 1) := by decide +kernel
theorem dX5_carryOut_35 : decode cX5_carryOut 35 = .ok (.getfield 19, 3) := by decide +kernel
theorem dX5_carryOut_38 : decode cX5_carryOut 38 = .ok (.iload_n 3, 1) := by decide +kernel
theorem dX5_carryOut_39 : decode cX5_carryOut 39 = .ok (.aaload, 1) := by decide +kernel
theorem dX5_carryOut_40 : decode cX5_carryOut 40 = .ok (.iload_n 2, 1) := by decide +kernel
theorem dX5_carryOut_41 : decode cX5_carryOut 41 = .ok (.aload_n 0, 1) := by decide +kernel
theorem dX5_carryOut_42 : decode cX5_carryOut 42 = .ok (.getfield 19, 3) := by decide +kernel
theorem dX5_carryOut_45 : decode cX5_carryOut 45 = .ok (.iload_n 3, 1) := by decide +kernel
theorem dX5_carryOut_46 : decode cX5_carryOut 46 = .ok (.iconst 1, 1) := by decide +kernel
theorem dX5_carryOut_47 : decode cX5_carryOut 47 = .ok (.iadd, 1) := by decide +kernel
theorem dX5_carryOut_48 : decode cX5_carryOut 48 = .ok (.aaload, 1) := by decide +kernel
theorem dX5_carryOut_49 : decode cX5_carryOut 49 = .ok (.invokevirtual 56, 3) := by decide +kernel
theorem dX5_carryOut_52 : decode cX5_carryOut 52 = .ok (.istore 4, 2) := by decide +kernel
theorem dX5_carryOut_54 : decode cX5_carryOut 54 = .ok (.iload 4, 2) := by decide +kernel
theorem dX5_carryOut_56 : decode cX5_carryOut 56 = .ok (.sipush (-1005), 3) := by decide +kernel
theorem dX5_carryOut_59 : decode cX5_carryOut 59 = .ok (.if_icmp .eq 31, 3) := by decide +kernel
theorem dX5_carryOut_62 : decode cX5_carryOut 62 = .ok (.aload_n 0, 1) := by decide +kernel
theorem dX5_carryOut_63 : decode cX5_carryOut 63 = .ok (.getfield 11, 3) := by decide +kernel
theorem dX5_carryOut_66 : decode cX5_carryOut 66 = .ok (.iload_n 3, 1) := by decide +kernel
theorem dX5_carryOut_67 : decode cX5_carryOut 67 = .ok (.aaload, 1) := by decide +kernel
theorem dX5_carryOut_68 : decode cX5_carryOut 68 = .ok (.iload 4, 2) := by decide +kernel
theorem dX5_carryOut_70 : decode cX5_carryOut 70 = .ok (.aload_n 0, 1) := by decide +kernel
theorem dX5_carryOut_71 : decode cX5_carryOut 71 = .ok (.getfield 19, 3) := by decide +kernel
theorem dX5_carryOut_74 : decode cX5_carryOut 74 = .ok (.iload_n 3, 1) := by decide +kernel
theorem dX5_carryOut_75 : decode cX5_carryOut 75 = .ok (.aaload, 1) := by decide +kernel
theorem dX5_carryOut_76 : decode cX5_carryOut 76 = .ok (.iload 4, 2) := by decide +kernel
theorem dX5_carryOut_78 : decode cX5_carryOut 78 = .ok (.invokevirtual 60, 3) := by decide +kernel
theorem dX5_carryOut_81 : decode cX5_carryOut 81 = .ok (.invokevirtual 64, 3) := by decide +kernel
theorem dX5_carryOut_84 : decode cX5_carryOut 84 = .ok (.iload 4, 2) := by decide +kernel
theorem dX5_carryOut_86 : decode cX5_carryOut 86 = .ok (.istore_n 2, 1) := by decide +kernel
theorem dX5_carryOut_87 : decode cX5_carryOut 87 = .ok (.iinc 1 1, 3) := by decide +kernel
theorem dX5_carryOut_90 : decode cX5_carryOut 90 = .ok (.iinc 3 1, 3) := by decide +kernel
theorem dX5_carryOut_93 : decode cX5_carryOut 93 = .ok (.goto (-87), 3) := by decide +kernel
theorem dX5_carryOut_96 : decode cX5_carryOut 96 = .ok (.iload_n 1, 1) := by decide +kernel
theorem dX5_carryOut_97 : decode cX5_carryOut 97 = .ok (.ireturn, 1) := by decide +kernel
theorem dX6_init_0 : decode cX6_init 0 = .ok (.aload_n 0, 1) := by decide +kernel
theorem dX6_init_1 : decode cX6_init 1 = .ok (.invokespecial 1, 3) := by decide +kernel
theorem dX6_init_4 : decode cX6_init 4 = .ok (.aload_n 0, 1) := by decide +kernel
theorem dX6_init_5 : decode cX6_init 5 = .ok (.new 7, 3) := by decide +kernel
theorem dX6_init_8 : decode cX6_init 8 = .ok (.dup, 1) := by decide +kernel
theorem dX6_init_9 : decode cX6_init 9 = .ok (.invokespecial 9, 3) := by decide +kernel
theorem dX6_init_12 : decode cX6_init 12 = .ok (.putfield 10, 3) := by decide +kernel
theorem dX6_init_15 : decode cX6_init 15 = .ok (.return_, 1) := by decide +kernel
theorem dX7_init_0 : decode cX7_init 0 = .ok (.aload_n 0, 1) := by decide +kernel
theorem dX7_init_1 : decode cX7_init 1 = .ok (.invokespecial 3, 3) := by decide +kernel
theorem dX7_init_4 : decode cX7_init 4 = .ok (.aload_n 0, 1) := by decide +kernel
theorem dX7_init_5 : decode cX7_init 5 = .ok (.iconst 0, 1) := by decide +kernel
theorem dX7_init_6 : decode cX7_init 6 = .ok (.iload_n 1, 1) := by decide +kernel
theorem dX7_init_7 : decode cX7_init 7 = .ok (.invokestatic 9, 3) := by decide +kernel
theorem dX7_init_10 : decode cX7_init 10 = .ok (.newarray .int, 2) := by decide +kernel
theorem dX7_init_12 : decode cX7_init 12 = .ok (.putfield 15, 3) := by decide +kernel
theorem dX7_init_15 : decode cX7_init 15 = .ok (.aload_n 0, 1) := by decide +kernel
theorem dX7_init_16 : decode cX7_init 16 = .ok (.iconst 0, 1) := by decide +kernel
theorem dX7_init_17 : decode cX7_init 17 = .ok (.putfield 21, 3) := by decide +kernel
theorem dX7_init_20 : decode cX7_init 20 = .ok (.return_, 1) := by decide +kernel
theorem dX7_at_0 : decode cX7_at 0 = .ok (.iload_n 1, 1) := by decide +kernel
theorem dX7_at_1 : decode cX7_at 1 = .ok (.ifCond .lt 29, 3) := by decide +kernel
theorem dX7_at_4 : decode cX7_at 4 = .ok (.iload_n 1, 1) := by decide +kernel
theorem dX7_at_5 : decode cX7_at 5 = .ok (.aload_n 0, 1) := by decide +kernel
theorem dX7_at_6 : decode cX7_at 6 = .ok (.getfield 21, 3) := by decide +kernel
theorem dX7_at_9 : decode cX7_at 9 = .ok (.if_icmp .ge 21, 3) := by decide +kernel
theorem dX7_at_12 : decode cX7_at 12 = .ok (.iload_n 1, 1) := by decide +kernel
theorem dX7_at_13 : decode cX7_at 13 = .ok (.aload_n 0, 1) := by decide +kernel
theorem dX7_at_14 : decode cX7_at 14 = .ok (.getfield 15, 3) := by decide +kernel
theorem dX7_at_17 : decode cX7_at 17 = .ok (.arraylength, 1) := by decide +kernel
theorem dX7_at_18 : decode cX7_at 18 = .ok (.if_icmp .ge 12, 3) := by decide +kernel
theorem dX7_at_21 : decode cX7_at 21 = .ok (.aload_n 0, 1) := by decide +kernel
theorem dX7_at_22 : decode cX7_at 22 = .ok (.getfield 15, 3) := by decide +kernel
theorem dX7_at_25 : decode cX7_at 25 = .ok (.iload_n 1, 1) := by decide +kernel
theorem dX7_at_26 : decode cX7_at 26 = .ok (.iaload, 1) := by decide +kernel
theorem dX7_at_27 : decode cX7_at 27 = .ok (.goto 4, 3) := by decide +kernel
theorem dX7_at_30 : decode cX7_at 30 = .ok (.iconst (-1), 1) := by decide +kernel
theorem dX7_at_31 : decode cX7_at 31 = .ok (.ireturn, 1) := by decide +kernel
theorem dX7_empty_0 : decode cX7_empty 0 = .ok (.aload_n 0, 1) := by decide +kernel
theorem dX7_empty_1 : decode cX7_empty 1 = .ok (.iconst 0, 1) := by decide +kernel
theorem dX7_empty_2 : decode cX7_empty 2 = .ok (.putfield 21, 3) := by decide +kernel
theorem dX7_empty_5 : decode cX7_empty 5 = .ok (.return_, 1) := by decide +kernel
theorem dX7_append_0 : decode cX7_append 0 = .ok (.aload_n 0, 1) := by decide +kernel
theorem dX7_append_1 : decode cX7_append 1 = .ok (.getfield 21, 3) := by decide +kernel
theorem dX7_append_4 : decode cX7_append 4 = .ok (.ifCond .lt 35, 3) := by decide +kernel
theorem dX7_append_7 : decode cX7_append 7 = .ok (.aload_n 0, 1) := by decide +kernel
theorem dX7_append_8 : decode cX7_append 8 = .ok (.getfield 21, 3) := by decide +kernel
theorem dX7_append_11 : decode cX7_append 11 = .ok (.aload_n 0, 1) := by decide +kernel
theorem dX7_append_12 : decode cX7_append 12 = .ok (.getfield 15, 3) := by decide +kernel
theorem dX7_append_15 : decode cX7_append 15 = .ok (.arraylength, 1) := by decide +kernel
theorem dX7_append_16 : decode cX7_append 16 = .ok (.if_icmp .ge 23, 3) := by decide +kernel
theorem dX7_append_19 : decode cX7_append 19 = .ok (.aload_n 0, 1) := by decide +kernel
theorem dX7_append_20 : decode cX7_append 20 = .ok (.getfield 15, 3) := by decide +kernel
theorem dX7_append_23 : decode cX7_append 23 = .ok (.aload_n 0, 1) := by decide +kernel
theorem dX7_append_24 : decode cX7_append 24 = .ok (.getfield 21, 3) := by decide +kernel
theorem dX7_append_27 : decode cX7_append 27 = .ok (.iload_n 1, 1) := by decide +kernel
theorem dX7_append_28 : decode cX7_append 28 = .ok (.iastore, 1) := by decide +kernel
theorem dX7_append_29 : decode cX7_append 29 = .ok (.aload_n 0, 1) := by decide +kernel
theorem dX7_append_30 : decode cX7_append 30 = .ok (.dup, 1) := by decide +kernel
theorem dX7_append_31 : decode cX7_append 31 = .ok (.getfield 21, 3) := by decide +kernel
theorem dX7_append_34 : decode cX7_append 34 = .ok (.iconst 1, 1) := by decide +kernel
theorem dX7_append_35 : decode cX7_append 35 = .ok (.iadd, 1) := by decide +kernel
theorem dX7_append_36 : decode cX7_append 36 = .ok (.putfield 21, 3) := by decide +kernel
theorem dX7_append_39 : decode cX7_append 39 = .ok (.return_, 1) := by decide +kernel
theorem dX7_become_0 : decode cX7_become 0 = .ok (.aload_n 0, 1) := by decide +kernel
theorem dX7_become_1 : decode cX7_become 1 = .ok (.aload_n 1, 1) := by decide +kernel
theorem dX7_become_2 : decode cX7_become 2 = .ok (.iconst 0, 1) := by decide +kernel
theorem dX7_become_3 : decode cX7_become 3 = .ok (.aload_n 1, 1) := by decide +kernel
theorem dX7_become_4 : decode cX7_become 4 = .ok (.getfield 21, 3) := by decide +kernel
theorem dX7_become_7 : decode cX7_become 7 = .ok (.invokevirtual 25, 3) := by decide +kernel
theorem dX7_become_10 : decode cX7_become 10 = .ok (.return_, 1) := by decide +kernel
theorem dX7_copyPart_0 : decode cX7_copyPart 0 = .ok (.aload_n 0, 1) := by decide +kernel
theorem dX7_copyPart_1 : decode cX7_copyPart 1 = .ok (.iconst 0, 1) := by decide +kernel
theorem dX7_copyPart_2 : decode cX7_copyPart 2 = .ok (.putfield 21, 3) := by decide +kernel
theorem dX7_copyPart_5 : decode cX7_copyPart 5 = .ok (.iconst 0, 1) := by decide +kernel
theorem dX7_copyPart_6 : decode cX7_copyPart 6 = .ok (.iload_n 2, 1) := by decide +kernel
theorem dX7_copyPart_7 : decode cX7_copyPart 7 = .ok (.invokestatic 9, 3) := by decide +kernel
theorem dX7_copyPart_10 : decode cX7_copyPart 10 = .ok (.istore 4, 2) := by decide +kernel
theorem dX7_copyPart_12 : decode cX7_copyPart 12 = .ok (.iload 4, 2) := by decide +kernel
theorem dX7_copyPart_14 : decode cX7_copyPart 14 = .ok (.iload_n 3, 1) := by decide +kernel
theorem dX7_copyPart_15 : decode cX7_copyPart 15 = .ok (.if_icmp .ge 28, 3) := by decide +kernel
theorem dX7_copyPart_18 : decode cX7_copyPart 18 = .ok (.iload 4, 2) := by decide +kernel
theorem dX7_copyPart_20 : decode cX7_copyPart 20 = .ok (.aload_n 1, 1) := by decide +kernel
theorem dX7_copyPart_21 : decode cX7_copyPart 21 = .ok (.getfield 21, 3) := by decide +kernel
theorem dX7_copyPart_24 : decode cX7_copyPart 24 = .ok (.if_icmp .ge 19, 3) := by decide +kernel
theorem dX7_copyPart_27 : decode cX7_copyPart 27 = .ok (.aload_n 0, 1) := by decide +kernel
theorem dX7_copyPart_28 : decode cX7_copyPart 28 = .ok (.aload_n 1, 1) := by decide +kernel
theorem dX7_copyPart_29 : decode cX7_copyPart 29 = .ok (.iload 4, 2) := by decide +kernel
theorem dX7_copyPart_31 : decode cX7_copyPart 31 = .ok (.invokevirtual 29, 3) := by decide +kernel
theorem dX7_copyPart_34 : decode cX7_copyPart 34 = .ok (.invokevirtual 33, 3) := by decide +kernel
theorem dX7_copyPart_37 : decode cX7_copyPart 37 = .ok (.iinc 4 1, 3) := by decide +kernel
theorem dX7_copyPart_40 : decode cX7_copyPart 40 = .ok (.goto (-28), 3) := by decide +kernel
theorem dX7_copyPart_43 : decode cX7_copyPart 43 = .ok (.return_, 1) := by decide +kernel
theorem dX7_putLetters_0 : decode cX7_putLetters 0 = .ok (.aload_n 2, 1) := by decide +kernel
theorem dX7_putLetters_1 : decode cX7_putLetters 1 = .ok (.getfield 21, 3) := by decide +kernel
theorem dX7_putLetters_4 : decode cX7_putLetters 4 = .ok (.istore_n 3, 1) := by decide +kernel
theorem dX7_putLetters_5 : decode cX7_putLetters 5 = .ok (.iload_n 1, 1) := by decide +kernel
theorem dX7_putLetters_6 : decode cX7_putLetters 6 = .ok (.ifCond .lt 29, 3) := by decide +kernel
theorem dX7_putLetters_9 : decode cX7_putLetters 9 = .ok (.iload_n 1, 1) := by decide +kernel
theorem dX7_putLetters_10 : decode cX7_putLetters 10 = .ok (.aload_n 0, 1) := by decide +kernel
theorem dX7_putLetters_11 : decode cX7_putLetters 11 = .ok (.getfield 21, 3) := by decide +kernel
theorem dX7_putLetters_14 : decode cX7_putLetters 14 = .ok (.if_icmp .gt 21, 3) := by decide +kernel
theorem dX7_putLetters_17 : decode cX7_putLetters 17 = .ok (.iload_n 3, 1) := by decide +kernel
theorem dX7_putLetters_18 : decode cX7_putLetters 18 = .ok (.ifCond .lt 17, 3) := by decide +kernel
theorem dX7_putLetters_21 : decode cX7_putLetters 21 = .ok (.iload_n 3, 1) := by decide +kernel
theorem dX7_putLetters_22 : decode cX7_putLetters 22 = .ok (.aload_n 0, 1) := by decide +kernel
theorem dX7_putLetters_23 : decode cX7_putLetters 23 = .ok (.getfield 15, 3) := by decide +kernel
theorem dX7_putLetters_26 : decode cX7_putLetters 26 = .ok (.arraylength, 1) := by decide +kernel
theorem dX7_putLetters_27 : decode cX7_putLetters 27 = .ok (.aload_n 0, 1) := by decide +kernel
theorem dX7_putLetters_28 : decode cX7_putLetters 28 = .ok (.getfield 21, 3) := by decide +kernel
theorem dX7_putLetters_31 : decode cX7_putLetters 31 = .ok (.isub, 1) := by decide +kernel
theorem dX7_putLetters_32 : decode cX7_putLetters 32 = .ok (.if_icmp .le 4, 3) := by decide +kernel
theorem dX7_putLetters_35 : decode cX7_putLetters 35 = .ok (.return_, 1) := by decide +kernel
theorem dX7_putLetters_36 : decode cX7_putLetters 36 = .ok (.aload_n 0, 1) := by decide +kernel
theorem dX7_putLetters_37 : decode cX7_putLetters 37 = .ok (.getfield 21, 3) := by decide +kernel
theorem dX7_putLetters_40 : decode cX7_putLetters 40 = .ok (.iconst 1, 1) := by decide +kernel
theorem dX7_putLetters_41 : decode cX7_putLetters 41 = .ok (.isub, 1) := by decide +kernel
theorem dX7_putLetters_42 : decode cX7_putLetters 42 = .ok (.istore 4, 2) := by decide +kernel
theorem dX7_putLetters_44 : decode cX7_putLetters 44 = .ok (.iload 4, 2) := by decide +kernel
theorem dX7_putLetters_46 : decode cX7_putLetters 46 = .ok (.iload_n 1, 1) := by decide +kernel
theorem dX7_putLetters_47 : decode cX7_putLetters 47 = .ok (.if_icmp .lt 25, 3) := by decide +kernel
theorem dX7_putLetters_50 : decode cX7_putLetters 50 = .ok (.aload_n 0, 1) := by decide +kernel
theorem dX7_putLetters_51 : decode cX7_putLetters 51 = .ok (.getfield 15, 3) := by decide +kernel
theorem dX7_putLetters_54 : decode cX7_putLetters 54 = .ok (.iload 4, 2) := by decide +kernel
theorem dX7_putLetters_56 : decode cX7_putLetters 56 = .ok (.iload_n 3, 1) := by decide +kernel

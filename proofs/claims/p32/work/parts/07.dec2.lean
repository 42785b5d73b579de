theorem dX7_putLetters_57 : decode cX7_putLetters 57 = .ok (.iadd, 1) := by decide +kernel
theorem dX7_putLetters_58 : decode cX7_putLetters 58 = .ok (.aload_n 0, 1) := by decide +kernel
theorem dX7_putLetters_59 : decode cX7_putLetters 59 = .ok (.getfield 15, 3) := by decide +kernel
theorem dX7_putLetters_62 : decode cX7_putLetters 62 = .ok (.iload 4, 2) := by decide +kernel
theorem dX7_putLetters_64 : decode cX7_putLetters 64 = .ok (.iaload, 1) := by decide +kernel
theorem dX7_putLetters_65 : decode cX7_putLetters 65 = .ok (.iastore, 1) := by decide +kernel
theorem dX7_putLetters_66 : decode cX7_putLetters 66 = .ok (.iinc 4 (-1), 3) := by decide +kernel
theorem dX7_putLetters_69 : decode cX7_putLetters 69 = .ok (.goto (-25), 3) := by decide +kernel
theorem dX7_putLetters_72 : decode cX7_putLetters 72 = .ok (.iconst 0, 1) := by decide +kernel
theorem dX7_putLetters_73 : decode cX7_putLetters 73 = .ok (.istore 4, 2) := by decide +kernel
theorem dX7_putLetters_75 : decode cX7_putLetters 75 = .ok (.iload 4, 2) := by decide +kernel
theorem dX7_putLetters_77 : decode cX7_putLetters 77 = .ok (.iload_n 3, 1) := by decide +kernel
theorem dX7_putLetters_78 : decode cX7_putLetters 78 = .ok (.if_icmp .ge 24, 3) := by decide +kernel
theorem dX7_putLetters_81 : decode cX7_putLetters 81 = .ok (.aload_n 0, 1) := by decide +kernel
theorem dX7_putLetters_82 : decode cX7_putLetters 82 = .ok (.getfield 15, 3) := by decide +kernel
theorem dX7_putLetters_85 : decode cX7_putLetters 85 = .ok (.iload_n 1, 1) := by decide +kernel
theorem dX7_putLetters_86 : decode cX7_putLetters 86 = .ok (.iload 4, 2) := by decide +kernel
theorem dX7_putLetters_88 : decode cX7_putLetters 88 = .ok (.iadd, 1) := by decide +kernel
theorem dX7_putLetters_89 : decode cX7_putLetters 89 = .ok (.aload_n 2, 1) := by decide +kernel
theorem dX7_putLetters_90 : decode cX7_putLetters 90 = .ok (.iload 4, 2) := by decide +kernel
theorem dX7_putLetters_92 : decode cX7_putLetters 92 = .ok (.invokevirtual 29, 3) := by decide +kernel
theorem dX7_putLetters_95 : decode cX7_putLetters 95 = .ok (.iastore, 1) := by decide +kernel
theorem dX7_putLetters_96 : decode cX7_putLetters 96 = .ok (.iinc 4 1, 3) := by decide +kernel
theorem dX7_putLetters_99 : decode cX7_putLetters 99 = .ok (.goto (-24), 3) := by decide +kernel
theorem dX7_putLetters_102 : decode cX7_putLetters 102 = .ok (.aload_n 0, 1) := by decide +kernel
theorem dX7_putLetters_103 : decode cX7_putLetters 103 = .ok (.dup, 1) := by decide +kernel
theorem dX7_putLetters_104 : decode cX7_putLetters 104 = .ok (.getfield 21, 3) := by decide +kernel
theorem dX7_putLetters_107 : decode cX7_putLetters 107 = .ok (.iload_n 3, 1) := by decide +kernel
theorem dX7_putLetters_108 : decode cX7_putLetters 108 = .ok (.iadd, 1) := by decide +kernel
theorem dX7_putLetters_109 : decode cX7_putLetters 109 = .ok (.putfield 21, 3) := by decide +kernel
theorem dX7_putLetters_112 : decode cX7_putLetters 112 = .ok (.return_, 1) := by decide +kernel
theorem dX7_cutLetters_0 : decode cX7_cutLetters 0 = .ok (.iload_n 1, 1) := by decide +kernel
theorem dX7_cutLetters_1 : decode cX7_cutLetters 1 = .ok (.ifCond .lt 17, 3) := by decide +kernel
theorem dX7_cutLetters_4 : decode cX7_cutLetters 4 = .ok (.iload_n 2, 1) := by decide +kernel
theorem dX7_cutLetters_5 : decode cX7_cutLetters 5 = .ok (.ifCond .lt 13, 3) := by decide +kernel
theorem dX7_cutLetters_8 : decode cX7_cutLetters 8 = .ok (.iload_n 2, 1) := by decide +kernel
theorem dX7_cutLetters_9 : decode cX7_cutLetters 9 = .ok (.aload_n 0, 1) := by decide +kernel
theorem dX7_cutLetters_10 : decode cX7_cutLetters 10 = .ok (.getfield 21, 3) := by decide +kernel
theorem dX7_cutLetters_13 : decode cX7_cutLetters 13 = .ok (.iload_n 1, 1) := by decide +kernel
theorem dX7_cutLetters_14 : decode cX7_cutLetters 14 = .ok (.isub, 1) := by decide +kernel
theorem dX7_cutLetters_15 : decode cX7_cutLetters 15 = .ok (.if_icmp .le 4, 3) := by decide +kernel
theorem dX7_cutLetters_18 : decode cX7_cutLetters 18 = .ok (.return_, 1) := by decide +kernel
theorem dX7_cutLetters_19 : decode cX7_cutLetters 19 = .ok (.iload_n 1, 1) := by decide +kernel
theorem dX7_cutLetters_20 : decode cX7_cutLetters 20 = .ok (.iload_n 2, 1) := by decide +kernel
theorem dX7_cutLetters_21 : decode cX7_cutLetters 21 = .ok (.iadd, 1) := by decide +kernel
theorem dX7_cutLetters_22 : decode cX7_cutLetters 22 = .ok (.istore_n 3, 1) := by decide +kernel
theorem dX7_cutLetters_23 : decode cX7_cutLetters 23 = .ok (.iload_n 3, 1) := by decide +kernel
theorem dX7_cutLetters_24 : decode cX7_cutLetters 24 = .ok (.aload_n 0, 1) := by decide +kernel
theorem dX7_cutLetters_25 : decode cX7_cutLetters 25 = .ok (.getfield 21, 3) := by decide +kernel
theorem dX7_cutLetters_28 : decode cX7_cutLetters 28 = .ok (.if_icmp .ge 32, 3) := by decide +kernel
theorem dX7_cutLetters_31 : decode cX7_cutLetters 31 = .ok (.iload_n 3, 1) := by decide +kernel
theorem dX7_cutLetters_32 : decode cX7_cutLetters 32 = .ok (.aload_n 0, 1) := by decide +kernel
theorem dX7_cutLetters_33 : decode cX7_cutLetters 33 = .ok (.getfield 15, 3) := by decide +kernel
theorem dX7_cutLetters_36 : decode cX7_cutLetters 36 = .ok (.arraylength, 1) := by decide +kernel
theorem dX7_cutLetters_37 : decode cX7_cutLetters 37 = .ok (.if_icmp .ge 23, 3) := by decide +kernel
theorem dX7_cutLetters_40 : decode cX7_cutLetters 40 = .ok (.aload_n 0, 1) := by decide +kernel
theorem dX7_cutLetters_41 : decode cX7_cutLetters 41 = .ok (.getfield 15, 3) := by decide +kernel
theorem dX7_cutLetters_44 : decode cX7_cutLetters 44 = .ok (.iload_n 3, 1) := by decide +kernel
theorem dX7_cutLetters_45 : decode cX7_cutLetters 45 = .ok (.iload_n 2, 1) := by decide +kernel
theorem dX7_cutLetters_46 : decode cX7_cutLetters 46 = .ok (.isub, 1) := by decide +kernel
theorem dX7_cutLetters_47 : decode cX7_cutLetters 47 = .ok (.aload_n 0, 1) := by decide +kernel
theorem dX7_cutLetters_48 : decode cX7_cutLetters 48 = .ok (.getfield 15, 3) := by decide +kernel
theorem dX7_cutLetters_51 : decode cX7_cutLetters 51 = .ok (.iload_n 3, 1) := by decide +kernel
theorem dX7_cutLetters_52 : decode cX7_cutLetters 52 = .ok (.iaload, 1) := by decide +kernel
theorem dX7_cutLetters_53 : decode cX7_cutLetters 53 = .ok (.iastore, 1) := by decide +kernel
theorem dX7_cutLetters_54 : decode cX7_cutLetters 54 = .ok (.iinc 3 1, 3) := by decide +kernel
theorem dX7_cutLetters_57 : decode cX7_cutLetters 57 = .ok (.goto (-34), 3) := by decide +kernel
theorem dX7_cutLetters_60 : decode cX7_cutLetters 60 = .ok (.aload_n 0, 1) := by decide +kernel
theorem dX7_cutLetters_61 : decode cX7_cutLetters 61 = .ok (.dup, 1) := by decide +kernel
theorem dX7_cutLetters_62 : decode cX7_cutLetters 62 = .ok (.getfield 21, 3) := by decide +kernel
theorem dX7_cutLetters_65 : decode cX7_cutLetters 65 = .ok (.iload_n 2, 1) := by decide +kernel
theorem dX7_cutLetters_66 : decode cX7_cutLetters 66 = .ok (.isub, 1) := by decide +kernel
theorem dX7_cutLetters_67 : decode cX7_cutLetters 67 = .ok (.putfield 21, 3) := by decide +kernel
theorem dX7_cutLetters_70 : decode cX7_cutLetters 70 = .ok (.return_, 1) := by decide +kernel
theorem dX8_init_0 : decode cX8_init 0 = .ok (.aload_n 0, 1) := by decide +kernel
theorem dX8_init_1 : decode cX8_init 1 = .ok (.invokespecial 1, 3) := by decide +kernel
theorem dX8_init_4 : decode cX8_init 4 = .ok (.aload_n 0, 1) := by decide +kernel
theorem dX8_init_5 : decode cX8_init 5 = .ok (.new 7, 3) := by decide +kernel
theorem dX8_init_8 : decode cX8_init 8 = .ok (.dup, 1) := by decide +kernel
theorem dX8_init_9 : decode cX8_init 9 = .ok (.bipush 40, 2) := by decide +kernel
theorem dX8_init_11 : decode cX8_init 11 = .ok (.invokespecial 11, 3) := by decide +kernel
theorem dX8_init_14 : decode cX8_init 14 = .ok (.putfield 14, 3) := by decide +kernel
theorem dX8_init_17 : decode cX8_init 17 = .ok (.aload_n 0, 1) := by decide +kernel
theorem dX8_init_18 : decode cX8_init 18 = .ok (.new 18, 3) := by decide +kernel
theorem dX8_init_21 : decode cX8_init 21 = .ok (.dup, 1) := by decide +kernel
theorem dX8_init_22 : decode cX8_init 22 = .ok (.invokespecial 20, 3) := by decide +kernel
theorem dX8_init_25 : decode cX8_init 25 = .ok (.putfield 21, 3) := by decide +kernel
theorem dX8_init_28 : decode cX8_init 28 = .ok (.aload_n 0, 1) := by decide +kernel
theorem dX8_init_29 : decode cX8_init 29 = .ok (.new 25, 3) := by decide +kernel
theorem dX8_init_32 : decode cX8_init 32 = .ok (.dup, 1) := by decide +kernel
theorem dX8_init_33 : decode cX8_init 33 = .ok (.invokespecial 27, 3) := by decide +kernel
theorem dX8_init_36 : decode cX8_init 36 = .ok (.putfield 28, 3) := by decide +kernel
theorem dX8_init_39 : decode cX8_init 39 = .ok (.aload_n 0, 1) := by decide +kernel
theorem dX8_init_40 : decode cX8_init 40 = .ok (.new 32, 3) := by decide +kernel
theorem dX8_init_43 : decode cX8_init 43 = .ok (.dup, 1) := by decide +kernel
theorem dX8_init_44 : decode cX8_init 44 = .ok (.invokespecial 34, 3) := by decide +kernel
theorem dX8_init_47 : decode cX8_init 47 = .ok (.putfield 35, 3) := by decide +kernel
theorem dX8_init_50 : decode cX8_init 50 = .ok (.aload_n 0, 1) := by decide +kernel
theorem dX8_init_51 : decode cX8_init 51 = .ok (.new 32, 3) := by decide +kernel
theorem dX8_init_54 : decode cX8_init 54 = .ok (.dup, 1) := by decide +kernel
theorem dX8_init_55 : decode cX8_init 55 = .ok (.invokespecial 34, 3) := by decide +kernel
theorem dX8_init_58 : decode cX8_init 58 = .ok (.putfield 39, 3) := by decide +kernel
theorem dX8_init_61 : decode cX8_init 61 = .ok (.aload_n 0, 1) := by decide +kernel
theorem dX8_init_62 : decode cX8_init 62 = .ok (.new 42, 3) := by decide +kernel
theorem dX8_init_65 : decode cX8_init 65 = .ok (.dup, 1) := by decide +kernel
theorem dX8_init_66 : decode cX8_init 66 = .ok (.invokespecial 44, 3) := by decide +kernel
theorem dX8_init_69 : decode cX8_init 69 = .ok (.putfield 45, 3) := by decide +kernel
theorem dX8_init_72 : decode cX8_init 72 = .ok (.aload_n 0, 1) := by decide +kernel
theorem dX8_init_73 : decode cX8_init 73 = .ok (.new 49, 3) := by decide +kernel
theorem dX8_init_76 : decode cX8_init 76 = .ok (.dup, 1) := by decide +kernel
theorem dX8_init_77 : decode cX8_init 77 = .ok (.invokespecial 51, 3) := by decide +kernel
theorem dX8_init_80 : decode cX8_init 80 = .ok (.putfield 52, 3) := by decide +kernel
theorem dX8_init_83 : decode cX8_init 83 = .ok (.aload_n 0, 1) := by decide +kernel
theorem dX8_init_84 : decode cX8_init 84 = .ok (.bipush 60, 2) := by decide +kernel
theorem dX8_init_86 : decode cX8_init 86 = .ok (.putfield 56, 3) := by decide +kernel
theorem dX8_init_89 : decode cX8_init 89 = .ok (.return_, 1) := by decide +kernel
theorem dX8_type_0 : decode cX8_type 0 = .ok (.iload_n 1, 1) := by decide +kernel
theorem dX8_type_1 : decode cX8_type 1 = .ok (.bipush 32, 2) := by decide +kernel
theorem dX8_type_3 : decode cX8_type 3 = .ok (.if_icmp .lt 9, 3) := by decide +kernel
theorem dX8_type_6 : decode cX8_type 6 = .ok (.iload_n 1, 1) := by decide +kernel
theorem dX8_type_7 : decode cX8_type 7 = .ok (.bipush 126, 2) := by decide +kernel
theorem dX8_type_9 : decode cX8_type 9 = .ok (.if_icmp .le 7, 3) := by decide +kernel
theorem dX8_type_12 : decode cX8_type 12 = .ok (.sipush (-1002), 3) := by decide +kernel
theorem dX8_type_15 : decode cX8_type 15 = .ok (.ireturn, 1) := by decide +kernel
theorem dX8_type_16 : decode cX8_type 16 = .ok (.aload_n 0, 1) := by decide +kernel
theorem dX8_type_17 : decode cX8_type 17 = .ok (.getfield 14, 3) := by decide +kernel
theorem dX8_type_20 : decode cX8_type 20 = .ok (.getfield 60, 3) := by decide +kernel
theorem dX8_type_23 : decode cX8_type 23 = .ok (.bipush 40, 2) := by decide +kernel
theorem dX8_type_25 : decode cX8_type 25 = .ok (.if_icmp .lt 7, 3) := by decide +kernel
theorem dX8_type_28 : decode cX8_type 28 = .ok (.sipush (-1004), 3) := by decide +kernel
theorem dX8_type_31 : decode cX8_type 31 = .ok (.ireturn, 1) := by decide +kernel
theorem dX8_type_32 : decode cX8_type 32 = .ok (.aload_n 0, 1) := by decide +kernel
theorem dX8_type_33 : decode cX8_type 33 = .ok (.getfield 14, 3) := by decide +kernel
theorem dX8_type_36 : decode cX8_type 36 = .ok (.iload_n 1, 1) := by decide +kernel
theorem dX8_type_37 : decode cX8_type 37 = .ok (.invokevirtual 63, 3) := by decide +kernel
theorem dX8_type_40 : decode cX8_type 40 = .ok (.aload_n 0, 1) := by decide +kernel
theorem dX8_type_41 : decode cX8_type 41 = .ok (.getfield 14, 3) := by decide +kernel
theorem dX8_type_44 : decode cX8_type 44 = .ok (.getfield 60, 3) := by decide +kernel
theorem dX8_type_47 : decode cX8_type 47 = .ok (.ireturn, 1) := by decide +kernel
theorem dX8_clearBuffer_0 : decode cX8_clearBuffer 0 = .ok (.aload_n 0, 1) := by decide +kernel
theorem dX8_clearBuffer_1 : decode cX8_clearBuffer 1 = .ok (.getfield 14, 3) := by decide +kernel
theorem dX8_clearBuffer_4 : decode cX8_clearBuffer 4 = .ok (.getfield 60, 3) := by decide +kernel
theorem dX8_clearBuffer_7 : decode cX8_clearBuffer 7 = .ok (.istore_n 1, 1) := by decide +kernel
theorem dX8_clearBuffer_8 : decode cX8_clearBuffer 8 = .ok (.aload_n 0, 1) := by decide +kernel
theorem dX8_clearBuffer_9 : decode cX8_clearBuffer 9 = .ok (.getfield 14, 3) := by decide +kernel
theorem dX8_clearBuffer_12 : decode cX8_clearBuffer 12 = .ok (.invokevirtual 66, 3) := by decide +kernel
theorem dX8_clearBuffer_15 : decode cX8_clearBuffer 15 = .ok (.iload_n 1, 1) := by decide +kernel
theorem dX8_clearBuffer_16 : decode cX8_clearBuffer 16 = .ok (.ireturn, 1) := by decide +kernel
theorem dX8_load_0 : decode cX8_load 0 = .ok (.aload_n 0, 1) := by decide +kernel
theorem dX8_load_1 : decode cX8_load 1 = .ok (.getfield 28, 3) := by decide +kernel
theorem dX8_load_4 : decode cX8_load 4 = .ok (.aload_n 0, 1) := by decide +kernel
theorem dX8_load_5 : decode cX8_load 5 = .ok (.getfield 21, 3) := by decide +kernel
theorem dX8_load_8 : decode cX8_load 8 = .ok (.invokevirtual 69, 3) := by decide +kernel
theorem dX8_load_11 : decode cX8_load 11 = .ok (.aload_n 0, 1) := by decide +kernel
theorem dX8_load_12 : decode cX8_load 12 = .ok (.getfield 21, 3) := by decide +kernel
theorem dX8_load_15 : decode cX8_load 15 = .ok (.getfield 73, 3) := by decide +kernel
theorem dX8_load_18 : decode cX8_load 18 = .ok (.getfield 60, 3) := by decide +kernel
theorem dX8_load_21 : decode cX8_load 21 = .ok (.istore_n 1, 1) := by decide +kernel
theorem dX8_load_22 : decode cX8_load 22 = .ok (.aload_n 0, 1) := by decide +kernel
theorem dX8_load_23 : decode cX8_load 23 = .ok (.getfield 21, 3) := by decide +kernel
theorem dX8_load_26 : decode cX8_load 26 = .ok (.aload_n 0, 1) := by decide +kernel
theorem dX8_load_27 : decode cX8_load 27 = .ok (.getfield 14, 3) := by decide +kernel
theorem dX8_load_30 : decode cX8_load 30 = .ok (.invokevirtual 76, 3) := by decide +kernel
theorem dX8_load_33 : decode cX8_load 33 = .ok (.iload_n 1, 1) := by decide +kernel
theorem dX8_load_34 : decode cX8_load 34 = .ok (.ireturn, 1) := by decide +kernel
theorem dX8_insert_0 : decode cX8_insert 0 = .ok (.aload_n 0, 1) := by decide +kernel
theorem dX8_insert_1 : decode cX8_insert 1 = .ok (.iload_n 1, 1) := by decide +kernel
theorem dX8_insert_2 : decode cX8_insert 2 = .ok (.invokevirtual 80, 3) := by decide +kernel
theorem dX8_insert_5 : decode cX8_insert 5 = .ok (.ifCond .ne 7, 3) := by decide +kernel
theorem dX8_insert_8 : decode cX8_insert 8 = .ok (.sipush (-1001), 3) := by decide +kernel
theorem dX8_insert_11 : decode cX8_insert 11 = .ok (.ireturn, 1) := by decide +kernel
theorem dX8_insert_12 : decode cX8_insert 12 = .ok (.aload_n 0, 1) := by decide +kernel
theorem dX8_insert_13 : decode cX8_insert 13 = .ok (.getfield 21, 3) := by decide +kernel
theorem dX8_insert_16 : decode cX8_insert 16 = .ok (.getfield 73, 3) := by decide +kernel
theorem dX8_insert_19 : decode cX8_insert 19 = .ok (.getfield 60, 3) := by decide +kernel
theorem dX8_insert_22 : decode cX8_insert 22 = .ok (.aload_n 0, 1) := by decide +kernel
theorem dX8_insert_23 : decode cX8_insert 23 = .ok (.getfield 14, 3) := by decide +kernel
theorem dX8_insert_26 : decode cX8_insert 26 = .ok (.getfield 60, 3) := by decide +kernel
theorem dX8_insert_29 : decode cX8_insert 29 = .ok (.iadd, 1) := by decide +kernel
theorem dX8_insert_30 : decode cX8_insert 30 = .ok (.bipush 120, 2) := by decide +kernel
theorem dX8_insert_32 : decode cX8_insert 32 = .ok (.if_icmp .le 7, 3) := by decide +kernel
theorem dX8_insert_35 : decode cX8_insert 35 = .ok (.sipush (-1004), 3) := by decide +kernel
theorem dX8_insert_38 : decode cX8_insert 38 = .ok (.ireturn, 1) := by decide +kernel
theorem dX8_insert_39 : decode cX8_insert 39 = .ok (.aload_n 0, 1) := by decide +kernel
theorem dX8_insert_40 : decode cX8_insert 40 = .ok (.getfield 28, 3) := by decide +kernel
theorem dX8_insert_43 : decode cX8_insert 43 = .ok (.aload_n 0, 1) := by decide +kernel
theorem dX8_insert_44 : decode cX8_insert 44 = .ok (.getfield 21, 3) := by decide +kernel
theorem dX8_insert_47 : decode cX8_insert 47 = .ok (.invokevirtual 69, 3) := by decide +kernel
theorem dX8_insert_50 : decode cX8_insert 50 = .ok (.aload_n 0, 1) := by decide +kernel
theorem dX8_insert_51 : decode cX8_insert 51 = .ok (.getfield 21, 3) := by decide +kernel
theorem dX8_insert_54 : decode cX8_insert 54 = .ok (.iload_n 1, 1) := by decide +kernel
theorem dX8_insert_55 : decode cX8_insert 55 = .ok (.aload_n 0, 1) := by decide +kernel
theorem dX8_insert_56 : decode cX8_insert 56 = .ok (.getfield 14, 3) := by decide +kernel
theorem dX8_insert_59 : decode cX8_insert 59 = .ok (.invokevirtual 84, 3) := by decide +kernel
theorem dX8_insert_62 : decode cX8_insert 62 = .ok (.aload_n 0, 1) := by decide +kernel
theorem dX8_insert_63 : decode cX8_insert 63 = .ok (.getfield 21, 3) := by decide +kernel
theorem dX8_insert_66 : decode cX8_insert 66 = .ok (.getfield 73, 3) := by decide +kernel
theorem dX8_insert_69 : decode cX8_insert 69 = .ok (.getfield 60, 3) := by decide +kernel
theorem dX8_insert_72 : decode cX8_insert 72 = .ok (.ireturn, 1) := by decide +kernel
theorem dX8_delete_0 : decode cX8_delete 0 = .ok (.aload_n 0, 1) := by decide +kernel
theorem dX8_delete_1 : decode cX8_delete 1 = .ok (.iload_n 1, 1) := by decide +kernel
theorem dX8_delete_2 : decode cX8_delete 2 = .ok (.invokevirtual 80, 3) := by decide +kernel
theorem dX8_delete_5 : decode cX8_delete 5 = .ok (.ifCond .ne 7, 3) := by decide +kernel
theorem dX8_delete_8 : decode cX8_delete 8 = .ok (.sipush (-1001), 3) := by decide +kernel
theorem dX8_delete_11 : decode cX8_delete 11 = .ok (.ireturn, 1) := by decide +kernel
theorem dX8_delete_12 : decode cX8_delete 12 = .ok (.iload_n 2, 1) := by decide +kernel
theorem dX8_delete_13 : decode cX8_delete 13 = .ok (.ifCond .lt 19, 3) := by decide +kernel
theorem dX8_delete_16 : decode cX8_delete 16 = .ok (.iload_n 2, 1) := by decide +kernel
theorem dX8_delete_17 : decode cX8_delete 17 = .ok (.aload_n 0, 1) := by decide +kernel
theorem dX8_delete_18 : decode cX8_delete 18 = .ok (.getfield 21, 3) := by decide +kernel
theorem dX8_delete_21 : decode cX8_delete 21 = .ok (.getfield 73, 3) := by decide +kernel
theorem dX8_delete_24 : decode cX8_delete 24 = .ok (.getfield 60, 3) := by decide +kernel
theorem dX8_delete_27 : decode cX8_delete 27 = .ok (.iload_n 1, 1) := by decide +kernel
theorem dX8_delete_28 : decode cX8_delete 28 = .ok (.isub, 1) := by decide +kernel
theorem dX8_delete_29 : decode cX8_delete 29 = .ok (.if_icmp .le 7, 3) := by decide +kernel
theorem dX8_delete_32 : decode cX8_delete 32 = .ok (.sipush (-1002), 3) := by decide +kernel
theorem dX8_delete_35 : decode cX8_delete 35 = .ok (.ireturn, 1) := by decide +kernel
theorem dX8_delete_36 : decode cX8_delete 36 = .ok (.aload_n 0, 1) := by decide +kernel
theorem dX8_delete_37 : decode cX8_delete 37 = .ok (.getfield 28, 3) := by decide +kernel
theorem dX8_delete_40 : decode cX8_delete 40 = .ok (.aload_n 0, 1) := by decide +kernel
theorem dX8_delete_41 : decode cX8_delete 41 = .ok (.getfield 21, 3) := by decide +kernel
theorem dX8_delete_44 : decode cX8_delete 44 = .ok (.invokevirtual 69, 3) := by decide +kernel
theorem dX8_delete_47 : decode cX8_delete 47 = .ok (.aload_n 0, 1) := by decide +kernel
theorem dX8_delete_48 : decode cX8_delete 48 = .ok (.getfield 21, 3) := by decide +kernel
theorem dX8_delete_51 : decode cX8_delete 51 = .ok (.iload_n 1, 1) := by decide +kernel
theorem dX8_delete_52 : decode cX8_delete 52 = .ok (.iload_n 2, 1) := by decide +kernel
theorem dX8_delete_53 : decode cX8_delete 53 = .ok (.invokevirtual 88, 3) := by decide +kernel
theorem dX8_delete_56 : decode cX8_delete 56 = .ok (.ireturn, 1) := by decide +kernel
theorem dX8_comment_0 : decode cX8_comment 0 = .ok (.aload_n 0, 1) := by decide +kernel
theorem dX8_comment_1 : decode cX8_comment 1 = .ok (.iload_n 1, 1) := by decide +kernel
theorem dX8_comment_2 : decode cX8_comment 2 = .ok (.invokevirtual 80, 3) := by decide +kernel
theorem dX8_comment_5 : decode cX8_comment 5 = .ok (.ifCond .ne 7, 3) := by decide +kernel
theorem dX8_comment_8 : decode cX8_comment 8 = .ok (.sipush (-1001), 3) := by decide +kernel
theorem dX8_comment_11 : decode cX8_comment 11 = .ok (.ireturn, 1) := by decide +kernel
theorem dX8_comment_12 : decode cX8_comment 12 = .ok (.aload_n 0, 1) := by decide +kernel
theorem dX8_comment_13 : decode cX8_comment 13 = .ok (.iload_n 1, 1) := by decide +kernel
theorem dX8_comment_14 : decode cX8_comment 14 = .ok (.iload_n 2, 1) := by decide +kernel
theorem dX8_comment_15 : decode cX8_comment 15 = .ok (.bipush 16, 2) := by decide +kernel
theorem dX8_comment_17 : decode cX8_comment 17 = .ok (.invokevirtual 92, 3) := by decide +kernel
theorem dX8_comment_20 : decode cX8_comment 20 = .ok (.ifCond .ne 7, 3) := by decide +kernel
theorem dX8_comment_23 : decode cX8_comment 23 = .ok (.sipush (-1002), 3) := by decide +kernel
theorem dX8_comment_26 : decode cX8_comment 26 = .ok (.ireturn, 1) := by decide +kernel
theorem dX8_comment_27 : decode cX8_comment 27 = .ok (.aload_n 0, 1) := by decide +kernel
theorem dX8_comment_28 : decode cX8_comment 28 = .ok (.getfield 21, 3) := by decide +kernel
theorem dX8_comment_31 : decode cX8_comment 31 = .ok (.getfield 96, 3) := by decide +kernel
theorem dX8_comment_34 : decode cX8_comment 34 = .ok (.bipush 10, 2) := by decide +kernel
theorem dX8_comment_36 : decode cX8_comment 36 = .ok (.if_icmp .lt 7, 3) := by decide +kernel
theorem dX8_comment_39 : decode cX8_comment 39 = .ok (.sipush (-1004), 3) := by decide +kernel
theorem dX8_comment_42 : decode cX8_comment 42 = .ok (.ireturn, 1) := by decide +kernel
theorem dX8_comment_43 : decode cX8_comment 43 = .ok (.aload_n 0, 1) := by decide +kernel
theorem dX8_comment_44 : decode cX8_comment 44 = .ok (.getfield 28, 3) := by decide +kernel
theorem dX8_comment_47 : decode cX8_comment 47 = .ok (.aload_n 0, 1) := by decide +kernel
theorem dX8_comment_48 : decode cX8_comment 48 = .ok (.getfield 21, 3) := by decide +kernel
theorem dX8_comment_51 : decode cX8_comment 51 = .ok (.invokevirtual 69, 3) := by decide +kernel
theorem dX8_comment_54 : decode cX8_comment 54 = .ok (.aload_n 0, 1) := by decide +kernel
theorem dX8_comment_55 : decode cX8_comment 55 = .ok (.getfield 21, 3) := by decide +kernel
theorem dX8_comment_58 : decode cX8_comment 58 = .ok (.iload_n 1, 1) := by decide +kernel
theorem dX8_comment_59 : decode cX8_comment 59 = .ok (.iload_n 2, 1) := by decide +kernel
theorem dX8_comment_60 : decode cX8_comment 60 = .ok (.invokevirtual 99, 3) := by decide +kernel
theorem dX8_comment_63 : decode cX8_comment 63 = .ok (.ireturn, 1) := by decide +kernel
theorem dX8_remove_0 : decode cX8_remove 0 = .ok (.aload_n 0, 1) := by decide +kernel
theorem dX8_remove_1 : decode cX8_remove 1 = .ok (.getfield 21, 3) := by decide +kernel
theorem dX8_remove_4 : decode cX8_remove 4 = .ok (.iload_n 1, 1) := by decide +kernel
theorem dX8_remove_5 : decode cX8_remove 5 = .ok (.invokevirtual 102, 3) := by decide +kernel
theorem dX8_remove_8 : decode cX8_remove 8 = .ok (.istore_n 2, 1) := by decide +kernel
theorem dX8_remove_9 : decode cX8_remove 9 = .ok (.iload_n 2, 1) := by decide +kernel
theorem dX8_remove_10 : decode cX8_remove 10 = .ok (.ifCond .ge 7, 3) := by decide +kernel
theorem dX8_remove_13 : decode cX8_remove 13 = .ok (.sipush (-1001), 3) := by decide +kernel
theorem dX8_remove_16 : decode cX8_remove 16 = .ok (.ireturn, 1) := by decide +kernel
theorem dX8_remove_17 : decode cX8_remove 17 = .ok (.aload_n 0, 1) := by decide +kernel
theorem dX8_remove_18 : decode cX8_remove 18 = .ok (.getfield 28, 3) := by decide +kernel
theorem dX8_remove_21 : decode cX8_remove 21 = .ok (.aload_n 0, 1) := by decide +kernel
theorem dX8_remove_22 : decode cX8_remove 22 = .ok (.getfield 21, 3) := by decide +kernel
theorem dX8_remove_25 : decode cX8_remove 25 = .ok (.invokevirtual 69, 3) := by decide +kernel
theorem dX8_remove_28 : decode cX8_remove 28 = .ok (.aload_n 0, 1) := by decide +kernel
theorem dX8_remove_29 : decode cX8_remove 29 = .ok (.getfield 21, 3) := by decide +kernel
theorem dX8_remove_32 : decode cX8_remove 32 = .ok (.iload_n 2, 1) := by decide +kernel
theorem dX8_remove_33 : decode cX8_remove 33 = .ok (.invokevirtual 106, 3) := by decide +kernel
theorem dX8_remove_36 : decode cX8_remove 36 = .ok (.aload_n 0, 1) := by decide +kernel
theorem dX8_remove_37 : decode cX8_remove 37 = .ok (.getfield 21, 3) := by decide +kernel
theorem dX8_remove_40 : decode cX8_remove 40 = .ok (.getfield 96, 3) := by decide +kernel
theorem dX8_remove_43 : decode cX8_remove 43 = .ok (.ireturn, 1) := by decide +kernel
theorem dX8_quoteAnew_0 : decode cX8_quoteAnew 0 = .ok (.aload_n 0, 1) := by decide +kernel
theorem dX8_quoteAnew_1 : decode cX8_quoteAnew 1 = .ok (.getfield 21, 3) := by decide +kernel
theorem dX8_quoteAnew_4 : decode cX8_quoteAnew 4 = .ok (.iload_n 1, 1) := by decide +kernel
theorem dX8_quoteAnew_5 : decode cX8_quoteAnew 5 = .ok (.invokevirtual 109, 3) := by decide +kernel
theorem dX8_quoteAnew_8 : decode cX8_quoteAnew 8 = .ok (.astore_n 2, 1) := by decide +kernel
theorem dX8_quoteAnew_9 : decode cX8_quoteAnew 9 = .ok (.aload_n 2, 1) := by decide +kernel
theorem dX8_quoteAnew_10 : decode cX8_quoteAnew 10 = .ok (.ifnonnull 7, 3) := by decide +kernel
theorem dX8_quoteAnew_13 : decode cX8_quoteAnew 13 = .ok (.sipush (-1001), 3) := by decide +kernel
theorem dX8_quoteAnew_16 : decode cX8_quoteAnew 16 = .ok (.ireturn, 1) := by decide +kernel
theorem dX8_quoteAnew_17 : decode cX8_quoteAnew 17 = .ok (.aload_n 2, 1) := by decide +kernel
theorem dX8_quoteAnew_18 : decode cX8_quoteAnew 18 = .ok (.getfield 113, 3) := by decide +kernel
theorem dX8_quoteAnew_21 : decode cX8_quoteAnew 21 = .ok (.ifCond .eq 17, 3) := by decide +kernel
theorem dX8_quoteAnew_24 : decode cX8_quoteAnew 24 = .ok (.aload_n 2, 1) := by decide +kernel
theorem dX8_quoteAnew_25 : decode cX8_quoteAnew 25 = .ok (.getfield 118, 3) := by decide +kernel
theorem dX8_quoteAnew_28 : decode cX8_quoteAnew 28 = .ok (.aload_n 2, 1) := by decide +kernel
theorem dX8_quoteAnew_29 : decode cX8_quoteAnew 29 = .ok (.getfield 121, 3) := by decide +kernel
theorem dX8_quoteAnew_32 : decode cX8_quoteAnew 32 = .ok (.isub, 1) := by decide +kernel
theorem dX8_quoteAnew_33 : decode cX8_quoteAnew 33 = .ok (.bipush 16, 2) := by decide +kernel
theorem dX8_quoteAnew_35 : decode cX8_quoteAnew 35 = .ok (.if_icmp .le 7, 3) := by decide +kernel
theorem dX8_quoteAnew_38 : decode cX8_quoteAnew 38 = .ok (.sipush (-1003), 3) := by decide +kernel
theorem dX8_quoteAnew_41 : decode cX8_quoteAnew 41 = .ok (.ireturn, 1) := by decide +kernel
theorem dX8_quoteAnew_42 : decode cX8_quoteAnew 42 = .ok (.aload_n 0, 1) := by decide +kernel
theorem dX8_quoteAnew_43 : decode cX8_quoteAnew 43 = .ok (.getfield 28, 3) := by decide +kernel
theorem dX8_quoteAnew_46 : decode cX8_quoteAnew 46 = .ok (.aload_n 0, 1) := by decide +kernel
theorem dX8_quoteAnew_47 : decode cX8_quoteAnew 47 = .ok (.getfield 21, 3) := by decide +kernel
theorem dX8_quoteAnew_50 : decode cX8_quoteAnew 50 = .ok (.invokevirtual 69, 3) := by decide +kernel
theorem dX8_quoteAnew_53 : decode cX8_quoteAnew 53 = .ok (.aload_n 2, 1) := by decide +kernel
theorem dX8_quoteAnew_54 : decode cX8_quoteAnew 54 = .ok (.aload_n 0, 1) := by decide +kernel
theorem dX8_quoteAnew_55 : decode cX8_quoteAnew 55 = .ok (.getfield 21, 3) := by decide +kernel
theorem dX8_quoteAnew_58 : decode cX8_quoteAnew 58 = .ok (.getfield 73, 3) := by decide +kernel
theorem dX8_quoteAnew_61 : decode cX8_quoteAnew 61 = .ok (.invokevirtual 124, 3) := by decide +kernel
theorem dX8_quoteAnew_64 : decode cX8_quoteAnew 64 = .ok (.aload_n 2, 1) := by decide +kernel
theorem dX8_quoteAnew_65 : decode cX8_quoteAnew 65 = .ok (.getfield 127, 3) := by decide +kernel
theorem dX8_quoteAnew_68 : decode cX8_quoteAnew 68 = .ok (.getfield 60, 3) := by decide +kernel
theorem dX8_quoteAnew_71 : decode cX8_quoteAnew 71 = .ok (.ireturn, 1) := by decide +kernel
theorem dX8_attach_0 : decode cX8_attach 0 = .ok (.aload_n 0, 1) := by decide +kernel
theorem dX8_attach_1 : decode cX8_attach 1 = .ok (.getfield 21, 3) := by decide +kernel
theorem dX8_attach_4 : decode cX8_attach 4 = .ok (.iload_n 1, 1) := by decide +kernel
theorem dX8_attach_5 : decode cX8_attach 5 = .ok (.invokevirtual 109, 3) := by decide +kernel
theorem dX8_attach_8 : decode cX8_attach 8 = .ok (.astore_n 2, 1) := by decide +kernel
theorem dX8_attach_9 : decode cX8_attach 9 = .ok (.aload_n 2, 1) := by decide +kernel
theorem dX8_attach_10 : decode cX8_attach 10 = .ok (.ifnonnull 7, 3) := by decide +kernel
theorem dX8_attach_13 : decode cX8_attach 13 = .ok (.sipush (-1001), 3) := by decide +kernel
theorem dX8_attach_16 : decode cX8_attach 16 = .ok (.ireturn, 1) := by decide +kernel
theorem dX8_attach_17 : decode cX8_attach 17 = .ok (.aload_n 2, 1) := by decide +kernel
theorem dX8_attach_18 : decode cX8_attach 18 = .ok (.getfield 113, 3) := by decide +kernel
theorem dX8_attach_21 : decode cX8_attach 21 = .ok (.iconst 1, 1) := by decide +kernel
theorem dX8_attach_22 : decode cX8_attach 22 = .ok (.if_icmp .ne 7, 3) := by decide +kernel
theorem dX8_attach_25 : decode cX8_attach 25 = .ok (.sipush (-1003), 3) := by decide +kernel
theorem dX8_attach_28 : decode cX8_attach 28 = .ok (.ireturn, 1) := by decide +kernel
theorem dX8_attach_29 : decode cX8_attach 29 = .ok (.aload_n 0, 1) := by decide +kernel
theorem dX8_attach_30 : decode cX8_attach 30 = .ok (.getfield 45, 3) := by decide +kernel
theorem dX8_attach_33 : decode cX8_attach 33 = .ok (.aload_n 2, 1) := by decide +kernel
theorem dX8_attach_34 : decode cX8_attach 34 = .ok (.aload_n 0, 1) := by decide +kernel
theorem dX8_attach_35 : decode cX8_attach 35 = .ok (.getfield 21, 3) := by decide +kernel
theorem dX8_attach_38 : decode cX8_attach 38 = .ok (.getfield 73, 3) := by decide +kernel
theorem dX8_attach_41 : decode cX8_attach 41 = .ok (.invokevirtual 130, 3) := by decide +kernel
theorem dX8_attach_44 : decode cX8_attach 44 = .ok (.aload_n 0, 1) := by decide +kernel
theorem dX8_attach_45 : decode cX8_attach 45 = .ok (.getfield 45, 3) := by decide +kernel
theorem dX8_attach_48 : decode cX8_attach 48 = .ok (.getfield 134, 3) := by decide +kernel
theorem dX8_attach_51 : decode cX8_attach 51 = .ok (.aload_n 0, 1) := by decide +kernel
theorem dX8_attach_52 : decode cX8_attach 52 = .ok (.getfield 56, 3) := by decide +kernel
theorem dX8_attach_55 : decode cX8_attach 55 = .ok (.if_icmp .ge 7, 3) := by decide +kernel
theorem dX8_attach_58 : decode cX8_attach 58 = .ok (.sipush (-1005), 3) := by decide +kernel
theorem dX8_attach_61 : decode cX8_attach 61 = .ok (.ireturn, 1) := by decide +kernel
theorem dX8_attach_62 : decode cX8_attach 62 = .ok (.aload_n 0, 1) := by decide +kernel
theorem dX8_attach_63 : decode cX8_attach 63 = .ok (.getfield 28, 3) := by decide +kernel
theorem dX8_attach_66 : decode cX8_attach 66 = .ok (.aload_n 0, 1) := by decide +kernel
theorem dX8_attach_67 : decode cX8_attach 67 = .ok (.getfield 21, 3) := by decide +kernel
theorem dX8_attach_70 : decode cX8_attach 70 = .ok (.invokevirtual 69, 3) := by decide +kernel
theorem dX8_attach_73 : decode cX8_attach 73 = .ok (.aload_n 2, 1) := by decide +kernel
theorem dX8_attach_74 : decode cX8_attach 74 = .ok (.aload_n 0, 1) := by decide +kernel
theorem dX8_attach_75 : decode cX8_attach 75 = .ok (.getfield 45, 3) := by decide +kernel
theorem dX8_attach_78 : decode cX8_attach 78 = .ok (.getfield 137, 3) := by decide +kernel
theorem dX8_attach_81 : decode cX8_attach 81 = .ok (.aload_n 0, 1) := by decide +kernel
theorem dX8_attach_82 : decode cX8_attach 82 = .ok (.getfield 45, 3) := by decide +kernel
theorem dX8_attach_85 : decode cX8_attach 85 = .ok (.getfield 140, 3) := by decide +kernel
theorem dX8_attach_88 : decode cX8_attach 88 = .ok (.invokevirtual 143, 3) := by decide +kernel
theorem dX8_attach_91 : decode cX8_attach 91 = .ok (.aload_n 2, 1) := by decide +kernel
theorem dX8_attach_92 : decode cX8_attach 92 = .ok (.getfield 121, 3) := by decide +kernel
theorem dX8_attach_95 : decode cX8_attach 95 = .ok (.ireturn, 1) := by decide +kernel
theorem dX8_attachAll_0 : decode cX8_attachAll 0 = .ok (.aload_n 0, 1) := by decide +kernel
theorem dX8_attachAll_1 : decode cX8_attachAll 1 = .ok (.getfield 52, 3) := by decide +kernel
theorem dX8_attachAll_4 : decode cX8_attachAll 4 = .ok (.aload_n 0, 1) := by decide +kernel
theorem dX8_attachAll_5 : decode cX8_attachAll 5 = .ok (.getfield 21, 3) := by decide +kernel
theorem dX8_attachAll_8 : decode cX8_attachAll 8 = .ok (.invokevirtual 147, 3) := by decide +kernel
theorem dX8_attachAll_11 : decode cX8_attachAll 11 = .ok (.ifCond .ne 7, 3) := by decide +kernel
theorem dX8_attachAll_14 : decode cX8_attachAll 14 = .ok (.sipush (-1005), 3) := by decide +kernel
theorem dX8_attachAll_17 : decode cX8_attachAll 17 = .ok (.ireturn, 1) := by decide +kernel
theorem dX8_attachAll_18 : decode cX8_attachAll 18 = .ok (.aload_n 0, 1) := by decide +kernel
theorem dX8_attachAll_19 : decode cX8_attachAll 19 = .ok (.getfield 28, 3) := by decide +kernel
theorem dX8_attachAll_22 : decode cX8_attachAll 22 = .ok (.aload_n 0, 1) := by decide +kernel
theorem dX8_attachAll_23 : decode cX8_attachAll 23 = .ok (.getfield 21, 3) := by decide +kernel
theorem dX8_attachAll_26 : decode cX8_attachAll 26 = .ok (.invokevirtual 69, 3) := by decide +kernel
theorem dX8_attachAll_29 : decode cX8_attachAll 29 = .ok (.aload_n 0, 1) := by decide +kernel
theorem dX8_attachAll_30 : decode cX8_attachAll 30 = .ok (.getfield 52, 3) := by decide +kernel
theorem dX8_attachAll_33 : decode cX8_attachAll 33 = .ok (.aload_n 0, 1) := by decide +kernel
theorem dX8_attachAll_34 : decode cX8_attachAll 34 = .ok (.getfield 21, 3) := by decide +kernel
theorem dX8_attachAll_37 : decode cX8_attachAll 37 = .ok (.getfield 73, 3) := by decide +kernel
theorem dX8_attachAll_40 : decode cX8_attachAll 40 = .ok (.aload_n 0, 1) := by decide +kernel
theorem dX8_attachAll_41 : decode cX8_attachAll 41 = .ok (.getfield 56, 3) := by decide +kernel
theorem dX8_attachAll_44 : decode cX8_attachAll 44 = .ok (.aload_n 0, 1) := by decide +kernel
theorem dX8_attachAll_45 : decode cX8_attachAll 45 = .ok (.getfield 45, 3) := by decide +kernel
theorem dX8_attachAll_48 : decode cX8_attachAll 48 = .ok (.invokevirtual 151, 3) := by decide +kernel
theorem dX8_attachAll_51 : decode cX8_attachAll 51 = .ok (.aload_n 0, 1) := by decide +kernel
theorem dX8_attachAll_52 : decode cX8_attachAll 52 = .ok (.getfield 52, 3) := by decide +kernel
theorem dX8_attachAll_55 : decode cX8_attachAll 55 = .ok (.invokevirtual 155, 3) := by decide +kernel
theorem dX8_attachAll_58 : decode cX8_attachAll 58 = .ok (.ireturn, 1) := by decide +kernel
theorem dX8_merge_0 : decode cX8_merge 0 = .ok (.aload_n 0, 1) := by decide +kernel
theorem dX8_merge_1 : decode cX8_merge 1 = .ok (.getfield 21, 3) := by decide +kernel
theorem dX8_merge_4 : decode cX8_merge 4 = .ok (.invokevirtual 159, 3) := by decide +kernel
theorem dX8_merge_7 : decode cX8_merge 7 = .ok (.ifCond .ne 7, 3) := by decide +kernel
theorem dX8_merge_10 : decode cX8_merge 10 = .ok (.sipush (-1005), 3) := by decide +kernel
theorem dX8_merge_13 : decode cX8_merge 13 = .ok (.ireturn, 1) := by decide +kernel
theorem dX8_merge_14 : decode cX8_merge 14 = .ok (.aload_n 0, 1) := by decide +kernel
theorem dX8_merge_15 : decode cX8_merge 15 = .ok (.getfield 28, 3) := by decide +kernel
theorem dX8_merge_18 : decode cX8_merge 18 = .ok (.aload_n 0, 1) := by decide +kernel
theorem dX8_merge_19 : decode cX8_merge 19 = .ok (.getfield 21, 3) := by decide +kernel
theorem dX8_merge_22 : decode cX8_merge 22 = .ok (.invokevirtual 69, 3) := by decide +kernel
theorem dX8_merge_25 : decode cX8_merge 25 = .ok (.aload_n 0, 1) := by decide +kernel
theorem dX8_merge_26 : decode cX8_merge 26 = .ok (.getfield 21, 3) := by decide +kernel
theorem dX8_merge_29 : decode cX8_merge 29 = .ok (.invokevirtual 163, 3) := by decide +kernel
theorem dX8_merge_32 : decode cX8_merge 32 = .ok (.ireturn, 1) := by decide +kernel
theorem dX8_undo_0 : decode cX8_undo 0 = .ok (.aload_n 0, 1) := by decide +kernel
theorem dX8_undo_1 : decode cX8_undo 1 = .ok (.getfield 28, 3) := by decide +kernel
theorem dX8_undo_4 : decode cX8_undo 4 = .ok (.getfield 166, 3) := by decide +kernel
theorem dX8_undo_7 : decode cX8_undo 7 = .ok (.ifCond .ne 7, 3) := by decide +kernel
theorem dX8_undo_10 : decode cX8_undo 10 = .ok (.sipush (-1003), 3) := by decide +kernel
theorem dX8_undo_13 : decode cX8_undo 13 = .ok (.ireturn, 1) := by decide +kernel
theorem dX8_undo_14 : decode cX8_undo 14 = .ok (.aload_n 0, 1) := by decide +kernel
theorem dX8_undo_15 : decode cX8_undo 15 = .ok (.getfield 28, 3) := by decide +kernel
theorem dX8_undo_18 : decode cX8_undo 18 = .ok (.aload_n 0, 1) := by decide +kernel
theorem dX8_undo_19 : decode cX8_undo 19 = .ok (.getfield 21, 3) := by decide +kernel
theorem dX8_undo_22 : decode cX8_undo 22 = .ok (.invokevirtual 167, 3) := by decide +kernel
theorem dX8_undo_25 : decode cX8_undo 25 = .ok (.aload_n 0, 1) := by decide +kernel
theorem dX8_undo_26 : decode cX8_undo 26 = .ok (.getfield 28, 3) := by decide +kernel
theorem dX8_undo_29 : decode cX8_undo 29 = .ok (.getfield 166, 3) := by decide +kernel
theorem dX8_undo_32 : decode cX8_undo 32 = .ok (.ireturn, 1) := by decide +kernel
theorem dX8_length_0 : decode cX8_length 0 = .ok (.aload_n 0, 1) := by decide +kernel
theorem dX8_length_1 : decode cX8_length 1 = .ok (.getfield 21, 3) := by decide +kernel
theorem dX8_length_4 : decode cX8_length 4 = .ok (.getfield 73, 3) := by decide +kernel
theorem dX8_length_7 : decode cX8_length 7 = .ok (.getfield 60, 3) := by decide +kernel
theorem dX8_length_10 : decode cX8_length 10 = .ok (.ireturn, 1) := by decide +kernel
theorem dX8_letter_0 : decode cX8_letter 0 = .ok (.aload_n 0, 1) := by decide +kernel
theorem dX8_letter_1 : decode cX8_letter 1 = .ok (.iload_n 1, 1) := by decide +kernel
theorem dX8_letter_2 : decode cX8_letter 2 = .ok (.invokevirtual 170, 3) := by decide +kernel
theorem dX8_letter_5 : decode cX8_letter 5 = .ok (.ifCond .ne 7, 3) := by decide +kernel
theorem dX8_letter_8 : decode cX8_letter 8 = .ok (.sipush (-1001), 3) := by decide +kernel
theorem dX8_letter_11 : decode cX8_letter 11 = .ok (.ireturn, 1) := by decide +kernel
theorem dX8_letter_12 : decode cX8_letter 12 = .ok (.aload_n 0, 1) := by decide +kernel
theorem dX8_letter_13 : decode cX8_letter 13 = .ok (.getfield 21, 3) := by decide +kernel
theorem dX8_letter_16 : decode cX8_letter 16 = .ok (.getfield 73, 3) := by decide +kernel
theorem dX8_letter_19 : decode cX8_letter 19 = .ok (.iload_n 1, 1) := by decide +kernel
theorem dX8_letter_20 : decode cX8_letter 20 = .ok (.invokevirtual 173, 3) := by decide +kernel
theorem dX8_letter_23 : decode cX8_letter 23 = .ok (.ireturn, 1) := by decide +kernel
theorem dX8_comments_0 : decode cX8_comments 0 = .ok (.aload_n 0, 1) := by decide +kernel
theorem dX8_comments_1 : decode cX8_comments 1 = .ok (.getfield 21, 3) := by decide +kernel
theorem dX8_comments_4 : decode cX8_comments 4 = .ok (.getfield 96, 3) := by decide +kernel
theorem dX8_comments_7 : decode cX8_comments 7 = .ok (.ireturn, 1) := by decide +kernel
theorem dX8_commentAt_0 : decode cX8_commentAt 0 = .ok (.iload_n 1, 1) := by decide +kernel
theorem dX8_commentAt_1 : decode cX8_commentAt 1 = .ok (.ifCond .lt 26, 3) := by decide +kernel
theorem dX8_commentAt_4 : decode cX8_commentAt 4 = .ok (.iload_n 1, 1) := by decide +kernel
theorem dX8_commentAt_5 : decode cX8_commentAt 5 = .ok (.aload_n 0, 1) := by decide +kernel
theorem dX8_commentAt_6 : decode cX8_commentAt 6 = .ok (.getfield 21, 3) := by decide +kernel
theorem dX8_commentAt_9 : decode cX8_commentAt 9 = .ok (.getfield 96, 3) := by decide +kernel
theorem dX8_commentAt_12 : decode cX8_commentAt 12 = .ok (.if_icmp .ge 15, 3) := by decide +kernel
theorem dX8_commentAt_15 : decode cX8_commentAt 15 = .ok (.iload_n 1, 1) := by decide +kernel
theorem dX8_commentAt_16 : decode cX8_commentAt 16 = .ok (.aload_n 0, 1) := by decide +kernel
theorem dX8_commentAt_17 : decode cX8_commentAt 17 = .ok (.getfield 21, 3) := by decide +kernel
theorem dX8_commentAt_20 : decode cX8_commentAt 20 = .ok (.getfield 176, 3) := by decide +kernel
theorem dX8_commentAt_23 : decode cX8_commentAt 23 = .ok (.arraylength, 1) := by decide +kernel
theorem dX8_commentAt_24 : decode cX8_commentAt 24 = .ok (.if_icmp .lt 7, 3) := by decide +kernel
theorem dX8_commentAt_27 : decode cX8_commentAt 27 = .ok (.sipush (-1001), 3) := by decide +kernel
theorem dX8_commentAt_30 : decode cX8_commentAt 30 = .ok (.ireturn, 1) := by decide +kernel
theorem dX8_commentAt_31 : decode cX8_commentAt 31 = .ok (.aload_n 0, 1) := by decide +kernel
theorem dX8_commentAt_32 : decode cX8_commentAt 32 = .ok (.getfield 21, 3) := by decide +kernel
theorem dX8_commentAt_35 : decode cX8_commentAt 35 = .ok (.getfield 176, 3) := by decide +kernel
theorem dX8_commentAt_38 : decode cX8_commentAt 38 = .ok (.iload_n 1, 1) := by decide +kernel
theorem dX8_commentAt_39 : decode cX8_commentAt 39 = .ok (.aaload, 1) := by decide +kernel
theorem dX8_commentAt_40 : decode cX8_commentAt 40 = .ok (.getfield 180, 3) := by decide +kernel
theorem dX8_commentAt_43 : decode cX8_commentAt 43 = .ok (.ireturn, 1) := by decide +kernel
theorem dX8_state_0 : decode cX8_state 0 = .ok (.aload_n 0, 1) := by decide +kernel
theorem dX8_state_1 : decode cX8_state 1 = .ok (.getfield 21, 3) := by decide +kernel
theorem dX8_state_4 : decode cX8_state 4 = .ok (.iload_n 1, 1) := by decide +kernel
theorem dX8_state_5 : decode cX8_state 5 = .ok (.invokevirtual 109, 3) := by decide +kernel
theorem dX8_state_8 : decode cX8_state 8 = .ok (.astore_n 2, 1) := by decide +kernel
theorem dX8_state_9 : decode cX8_state 9 = .ok (.aload_n 2, 1) := by decide +kernel
theorem dX8_state_10 : decode cX8_state 10 = .ok (.ifnonnull 9, 3) := by decide +kernel
theorem dX8_state_13 : decode cX8_state 13 = .ok (.sipush (-1001), 3) := by decide +kernel
theorem dX8_state_16 : decode cX8_state 16 = .ok (.goto 7, 3) := by decide +kernel
theorem dX8_state_19 : decode cX8_state 19 = .ok (.aload_n 2, 1) := by decide +kernel
theorem dX8_state_20 : decode cX8_state 20 = .ok (.getfield 113, 3) := by decide +kernel
theorem dX8_state_23 : decode cX8_state 23 = .ok (.ireturn, 1) := by decide +kernel
theorem dX8_range_0 : decode cX8_range 0 = .ok (.aload_n 0, 1) := by decide +kernel
theorem dX8_range_1 : decode cX8_range 1 = .ok (.getfield 21, 3) := by decide +kernel
theorem dX8_range_4 : decode cX8_range 4 = .ok (.iload_n 1, 1) := by decide +kernel
theorem dX8_range_5 : decode cX8_range 5 = .ok (.invokevirtual 109, 3) := by decide +kernel
theorem dX8_range_8 : decode cX8_range 8 = .ok (.astore_n 3, 1) := by decide +kernel
theorem dX8_range_9 : decode cX8_range 9 = .ok (.aload_n 3, 1) := by decide +kernel
theorem dX8_range_10 : decode cX8_range 10 = .ok (.ifnonnull 7, 3) := by decide +kernel
theorem dX8_range_13 : decode cX8_range 13 = .ok (.sipush (-1001), 3) := by decide +kernel
theorem dX8_range_16 : decode cX8_range 16 = .ok (.ireturn, 1) := by decide +kernel
theorem dX8_range_17 : decode cX8_range 17 = .ok (.iload_n 2, 1) := by decide +kernel
theorem dX8_range_18 : decode cX8_range 18 = .ok (.ifCond .eq 10, 3) := by decide +kernel
theorem dX8_range_21 : decode cX8_range 21 = .ok (.aload_n 3, 1) := by decide +kernel
theorem dX8_range_22 : decode cX8_range 22 = .ok (.getfield 118, 3) := by decide +kernel
theorem dX8_range_25 : decode cX8_range 25 = .ok (.goto 7, 3) := by decide +kernel
theorem dX8_range_28 : decode cX8_range 28 = .ok (.aload_n 3, 1) := by decide +kernel
theorem dX8_range_29 : decode cX8_range 29 = .ok (.getfield 121, 3) := by decide +kernel
theorem dX8_range_32 : decode cX8_range 32 = .ok (.ireturn, 1) := by decide +kernel
theorem dX8_weight_0 : decode cX8_weight 0 = .ok (.aload_n 0, 1) := by decide +kernel
theorem dX8_weight_1 : decode cX8_weight 1 = .ok (.getfield 21, 3) := by decide +kernel
theorem dX8_weight_4 : decode cX8_weight 4 = .ok (.iload_n 1, 1) := by decide +kernel
theorem dX8_weight_5 : decode cX8_weight 5 = .ok (.invokevirtual 109, 3) := by decide +kernel
theorem dX8_weight_8 : decode cX8_weight 8 = .ok (.astore_n 2, 1) := by decide +kernel
theorem dX8_weight_9 : decode cX8_weight 9 = .ok (.aload_n 2, 1) := by decide +kernel
theorem dX8_weight_10 : decode cX8_weight 10 = .ok (.ifnonnull 9, 3) := by decide +kernel
theorem dX8_weight_13 : decode cX8_weight 13 = .ok (.sipush (-1001), 3) := by decide +kernel
theorem dX8_weight_16 : decode cX8_weight 16 = .ok (.goto 7, 3) := by decide +kernel
theorem dX8_weight_19 : decode cX8_weight 19 = .ok (.aload_n 2, 1) := by decide +kernel
theorem dX8_weight_20 : decode cX8_weight 20 = .ok (.getfield 183, 3) := by decide +kernel
theorem dX8_weight_23 : decode cX8_weight 23 = .ok (.ireturn, 1) := by decide +kernel
theorem dX8_quoted_0 : decode cX8_quoted 0 = .ok (.aload_n 0, 1) := by decide +kernel
theorem dX8_quoted_1 : decode cX8_quoted 1 = .ok (.getfield 21, 3) := by decide +kernel
theorem dX8_quoted_4 : decode cX8_quoted 4 = .ok (.iload_n 1, 1) := by decide +kernel
theorem dX8_quoted_5 : decode cX8_quoted 5 = .ok (.invokevirtual 109, 3) := by decide +kernel
theorem dX8_quoted_8 : decode cX8_quoted 8 = .ok (.astore 4, 2) := by decide +kernel
theorem dX8_quoted_10 : decode cX8_quoted 10 = .ok (.aload 4, 2) := by decide +kernel
theorem dX8_quoted_12 : decode cX8_quoted 12 = .ok (.ifnonnull 7, 3) := by decide +kernel
theorem dX8_quoted_15 : decode cX8_quoted 15 = .ok (.sipush (-1001), 3) := by decide +kernel
theorem dX8_quoted_18 : decode cX8_quoted 18 = .ok (.ireturn, 1) := by decide +kernel
theorem dX8_quoted_19 : decode cX8_quoted 19 = .ok (.iload_n 2, 1) := by decide +kernel
theorem dX8_quoted_20 : decode cX8_quoted 20 = .ok (.ifCond .lt 8, 3) := by decide +kernel
theorem dX8_quoted_23 : decode cX8_quoted 23 = .ok (.iload_n 2, 1) := by decide +kernel
theorem dX8_quoted_24 : decode cX8_quoted 24 = .ok (.iconst 2, 1) := by decide +kernel
theorem dX8_quoted_25 : decode cX8_quoted 25 = .ok (.if_icmp .le 7, 3) := by decide +kernel
theorem dX8_quoted_28 : decode cX8_quoted 28 = .ok (.sipush (-1002), 3) := by decide +kernel
theorem dX8_quoted_31 : decode cX8_quoted 31 = .ok (.ireturn, 1) := by decide +kernel
theorem dX8_quoted_32 : decode cX8_quoted 32 = .ok (.iload_n 2, 1) := by decide +kernel
theorem dX8_quoted_33 : decode cX8_quoted 33 = .ok (.ifCond .ne 11, 3) := by decide +kernel
theorem dX8_quoted_36 : decode cX8_quoted 36 = .ok (.aload 4, 2) := by decide +kernel
theorem dX8_quoted_38 : decode cX8_quoted 38 = .ok (.getfield 186, 3) := by decide +kernel
theorem dX8_quoted_41 : decode cX8_quoted 41 = .ok (.goto 21, 3) := by decide +kernel
theorem dX8_quoted_44 : decode cX8_quoted 44 = .ok (.iload_n 2, 1) := by decide +kernel
theorem dX8_quoted_45 : decode cX8_quoted 45 = .ok (.iconst 1, 1) := by decide +kernel
theorem dX8_quoted_46 : decode cX8_quoted 46 = .ok (.if_icmp .ne 11, 3) := by decide +kernel
theorem dX8_quoted_49 : decode cX8_quoted 49 = .ok (.aload 4, 2) := by decide +kernel
theorem dX8_quoted_51 : decode cX8_quoted 51 = .ok (.getfield 127, 3) := by decide +kernel
theorem dX8_quoted_54 : decode cX8_quoted 54 = .ok (.goto 8, 3) := by decide +kernel
theorem dX8_quoted_57 : decode cX8_quoted 57 = .ok (.aload 4, 2) := by decide +kernel
theorem dX8_quoted_59 : decode cX8_quoted 59 = .ok (.getfield 189, 3) := by decide +kernel
theorem dX8_quoted_62 : decode cX8_quoted 62 = .ok (.astore 5, 2) := by decide +kernel
theorem dX8_quoted_64 : decode cX8_quoted 64 = .ok (.iload_n 3, 1) := by decide +kernel
theorem dX8_quoted_65 : decode cX8_quoted 65 = .ok (.ifCond .lt 12, 3) := by decide +kernel
theorem dX8_quoted_68 : decode cX8_quoted 68 = .ok (.iload_n 3, 1) := by decide +kernel
theorem dX8_quoted_69 : decode cX8_quoted 69 = .ok (.aload 5, 2) := by decide +kernel
theorem dX8_quoted_71 : decode cX8_quoted 71 = .ok (.getfield 60, 3) := by decide +kernel
theorem dX8_quoted_74 : decode cX8_quoted 74 = .ok (.if_icmp .lt 9, 3) := by decide +kernel
theorem dX8_quoted_77 : decode cX8_quoted 77 = .ok (.sipush (-1005), 3) := by decide +kernel
theorem dX8_quoted_80 : decode cX8_quoted 80 = .ok (.goto 9, 3) := by decide +kernel
theorem dX8_quoted_83 : decode cX8_quoted 83 = .ok (.aload 5, 2) := by decide +kernel
theorem dX8_quoted_85 : decode cX8_quoted 85 = .ok (.iload_n 3, 1) := by decide +kernel
theorem dX8_quoted_86 : decode cX8_quoted 86 = .ok (.invokevirtual 173, 3) := by decide +kernel
theorem dX8_quoted_89 : decode cX8_quoted 89 = .ok (.ireturn, 1) := by decide +kernel
theorem dX8_distance_0 : decode cX8_distance 0 = .ok (.aload_n 0, 1) := by decide +kernel
theorem dX8_distance_1 : decode cX8_distance 1 = .ok (.getfield 21, 3) := by decide +kernel
theorem dX8_distance_4 : decode cX8_distance 4 = .ok (.iload_n 1, 1) := by decide +kernel
theorem dX8_distance_5 : decode cX8_distance 5 = .ok (.invokevirtual 109, 3) := by decide +kernel
theorem dX8_distance_8 : decode cX8_distance 8 = .ok (.astore_n 2, 1) := by decide +kernel
theorem dX8_distance_9 : decode cX8_distance 9 = .ok (.aload_n 2, 1) := by decide +kernel
theorem dX8_distance_10 : decode cX8_distance 10 = .ok (.ifnonnull 7, 3) := by decide +kernel
theorem dX8_distance_13 : decode cX8_distance 13 = .ok (.sipush (-1001), 3) := by decide +kernel
theorem dX8_distance_16 : decode cX8_distance 16 = .ok (.ireturn, 1) := by decide +kernel
theorem dX8_distance_17 : decode cX8_distance 17 = .ok (.aload_n 2, 1) := by decide +kernel
theorem dX8_distance_18 : decode cX8_distance 18 = .ok (.getfield 113, 3) := by decide +kernel
theorem dX8_distance_21 : decode cX8_distance 21 = .ok (.ifCond .ne 7, 3) := by decide +kernel
theorem dX8_distance_24 : decode cX8_distance 24 = .ok (.sipush (-1003), 3) := by decide +kernel
theorem dX8_distance_27 : decode cX8_distance 27 = .ok (.ireturn, 1) := by decide +kernel
theorem dX8_distance_28 : decode cX8_distance 28 = .ok (.aload_n 0, 1) := by decide +kernel
theorem dX8_distance_29 : decode cX8_distance 29 = .ok (.getfield 45, 3) := by decide +kernel
theorem dX8_distance_32 : decode cX8_distance 32 = .ok (.aload_n 2, 1) := by decide +kernel
theorem dX8_distance_33 : decode cX8_distance 33 = .ok (.aload_n 0, 1) := by decide +kernel
theorem dX8_distance_34 : decode cX8_distance 34 = .ok (.getfield 21, 3) := by decide +kernel
theorem dX8_distance_37 : decode cX8_distance 37 = .ok (.getfield 73, 3) := by decide +kernel
theorem dX8_distance_40 : decode cX8_distance 40 = .ok (.aload_n 2, 1) := by decide +kernel
theorem dX8_distance_41 : decode cX8_distance 41 = .ok (.getfield 121, 3) := by decide +kernel
theorem dX8_distance_44 : decode cX8_distance 44 = .ok (.aload_n 2, 1) := by decide +kernel
theorem dX8_distance_45 : decode cX8_distance 45 = .ok (.getfield 118, 3) := by decide +kernel
theorem dX8_distance_48 : decode cX8_distance 48 = .ok (.invokevirtual 192, 3) := by decide +kernel
theorem dX8_distance_51 : decode cX8_distance 51 = .ok (.ireturn, 1) := by decide +kernel
theorem dX8_score_0 : decode cX8_score 0 = .ok (.aload_n 0, 1) := by decide +kernel
theorem dX8_score_1 : decode cX8_score 1 = .ok (.getfield 21, 3) := by decide +kernel
theorem dX8_score_4 : decode cX8_score 4 = .ok (.iload_n 1, 1) := by decide +kernel
theorem dX8_score_5 : decode cX8_score 5 = .ok (.invokevirtual 109, 3) := by decide +kernel
theorem dX8_score_8 : decode cX8_score 8 = .ok (.astore 4, 2) := by decide +kernel
theorem dX8_score_10 : decode cX8_score 10 = .ok (.aload 4, 2) := by decide +kernel
theorem dX8_score_12 : decode cX8_score 12 = .ok (.ifnull 11, 3) := by decide +kernel
theorem dX8_score_15 : decode cX8_score 15 = .ok (.aload_n 0, 1) := by decide +kernel
theorem dX8_score_16 : decode cX8_score 16 = .ok (.iload_n 2, 1) := by decide +kernel
theorem dX8_score_17 : decode cX8_score 17 = .ok (.invokevirtual 80, 3) := by decide +kernel
theorem dX8_score_20 : decode cX8_score 20 = .ok (.ifCond .ne 7, 3) := by decide +kernel
theorem dX8_score_23 : decode cX8_score 23 = .ok (.sipush (-1001), 3) := by decide +kernel
theorem dX8_score_26 : decode cX8_score 26 = .ok (.ireturn, 1) := by decide +kernel
theorem dX8_score_27 : decode cX8_score 27 = .ok (.aload_n 0, 1) := by decide +kernel
theorem dX8_score_28 : decode cX8_score 28 = .ok (.iload_n 2, 1) := by decide +kernel
theorem dX8_score_29 : decode cX8_score 29 = .ok (.iload_n 3, 1) := by decide +kernel
theorem dX8_score_30 : decode cX8_score 30 = .ok (.bipush 30, 2) := by decide +kernel
theorem dX8_score_32 : decode cX8_score 32 = .ok (.invokevirtual 92, 3) := by decide +kernel
theorem dX8_score_35 : decode cX8_score 35 = .ok (.ifCond .ne 7, 3) := by decide +kernel
theorem dX8_score_38 : decode cX8_score 38 = .ok (.sipush (-1002), 3) := by decide +kernel
theorem dX8_score_41 : decode cX8_score 41 = .ok (.ireturn, 1) := by decide +kernel
theorem dX8_score_42 : decode cX8_score 42 = .ok (.aload_n 0, 1) := by decide +kernel
theorem dX8_score_43 : decode cX8_score 43 = .ok (.getfield 45, 3) := by decide +kernel
theorem dX8_score_46 : decode cX8_score 46 = .ok (.aload 4, 2) := by decide +kernel
theorem dX8_score_48 : decode cX8_score 48 = .ok (.aload_n 0, 1) := by decide +kernel
theorem dX8_score_49 : decode cX8_score 49 = .ok (.getfield 21, 3) := by decide +kernel
theorem dX8_score_52 : decode cX8_score 52 = .ok (.getfield 73, 3) := by decide +kernel
theorem dX8_score_55 : decode cX8_score 55 = .ok (.iload_n 2, 1) := by decide +kernel
theorem dX8_score_56 : decode cX8_score 56 = .ok (.iload_n 3, 1) := by decide +kernel
theorem dX8_score_57 : decode cX8_score 57 = .ok (.invokevirtual 192, 3) := by decide +kernel
theorem dX8_score_60 : decode cX8_score 60 = .ok (.istore 5, 2) := by decide +kernel
theorem dX8_score_62 : decode cX8_score 62 = .ok (.aload 4, 2) := by decide +kernel
theorem dX8_score_64 : decode cX8_score 64 = .ok (.iload 5, 2) := by decide +kernel
theorem dX8_score_66 : decode cX8_score 66 = .ok (.aload_n 0, 1) := by decide +kernel
theorem dX8_score_67 : decode cX8_score 67 = .ok (.getfield 21, 3) := by decide +kernel
theorem dX8_score_70 : decode cX8_score 70 = .ok (.getfield 73, 3) := by decide +kernel
theorem dX8_score_73 : decode cX8_score 73 = .ok (.iload_n 2, 1) := by decide +kernel
theorem dX8_score_74 : decode cX8_score 74 = .ok (.iload_n 3, 1) := by decide +kernel
theorem dX8_score_75 : decode cX8_score 75 = .ok (.invokevirtual 196, 3) := by decide +kernel
theorem dX8_score_78 : decode cX8_score 78 = .ok (.ireturn, 1) := by decide +kernel
theorem dX8_best_0 : decode cX8_best 0 = .ok (.aload_n 0, 1) := by decide +kernel
theorem dX8_best_1 : decode cX8_best 1 = .ok (.getfield 21, 3) := by decide +kernel
theorem dX8_best_4 : decode cX8_best 4 = .ok (.iload_n 1, 1) := by decide +kernel
theorem dX8_best_5 : decode cX8_best 5 = .ok (.invokevirtual 109, 3) := by decide +kernel
theorem dX8_best_8 : decode cX8_best 8 = .ok (.astore_n 3, 1) := by decide +kernel
theorem dX8_best_9 : decode cX8_best 9 = .ok (.aload_n 3, 1) := by decide +kernel
theorem dX8_best_10 : decode cX8_best 10 = .ok (.ifnonnull 7, 3) := by decide +kernel
theorem dX8_best_13 : decode cX8_best 13 = .ok (.sipush (-1001), 3) := by decide +kernel
theorem dX8_best_16 : decode cX8_best 16 = .ok (.ireturn, 1) := by decide +kernel
theorem dX8_best_17 : decode cX8_best 17 = .ok (.iload_n 2, 1) := by decide +kernel
theorem dX8_best_18 : decode cX8_best 18 = .ok (.ifCond .lt 8, 3) := by decide +kernel
theorem dX8_best_21 : decode cX8_best 21 = .ok (.iload_n 2, 1) := by decide +kernel
theorem dX8_best_22 : decode cX8_best 22 = .ok (.iconst 2, 1) := by decide +kernel
theorem dX8_best_23 : decode cX8_best 23 = .ok (.if_icmp .le 7, 3) := by decide +kernel
theorem dX8_best_26 : decode cX8_best 26 = .ok (.sipush (-1002), 3) := by decide +kernel
theorem dX8_best_29 : decode cX8_best 29 = .ok (.ireturn, 1) := by decide +kernel
theorem dX8_best_30 : decode cX8_best 30 = .ok (.aload_n 0, 1) := by decide +kernel
theorem dX8_best_31 : decode cX8_best 31 = .ok (.getfield 45, 3) := by decide +kernel
theorem dX8_best_34 : decode cX8_best 34 = .ok (.aload_n 3, 1) := by decide +kernel
theorem dX8_best_35 : decode cX8_best 35 = .ok (.aload_n 0, 1) := by decide +kernel
theorem dX8_best_36 : decode cX8_best 36 = .ok (.getfield 21, 3) := by decide +kernel
theorem dX8_best_39 : decode cX8_best 39 = .ok (.getfield 73, 3) := by decide +kernel
theorem dX8_best_42 : decode cX8_best 42 = .ok (.invokevirtual 130, 3) := by decide +kernel
theorem dX8_best_45 : decode cX8_best 45 = .ok (.iload_n 2, 1) := by decide +kernel
theorem dX8_best_46 : decode cX8_best 46 = .ok (.ifCond .ne 13, 3) := by decide +kernel
theorem dX8_best_49 : decode cX8_best 49 = .ok (.aload_n 0, 1) := by decide +kernel
theorem dX8_best_50 : decode cX8_best 50 = .ok (.getfield 45, 3) := by decide +kernel
theorem dX8_best_53 : decode cX8_best 53 = .ok (.getfield 134, 3) := by decide +kernel
theorem dX8_best_56 : decode cX8_best 56 = .ok (.goto 25, 3) := by decide +kernel
theorem dX8_best_59 : decode cX8_best 59 = .ok (.iload_n 2, 1) := by decide +kernel
theorem dX8_best_60 : decode cX8_best 60 = .ok (.iconst 1, 1) := by decide +kernel
theorem dX8_best_61 : decode cX8_best 61 = .ok (.if_icmp .ne 13, 3) := by decide +kernel
theorem dX8_best_64 : decode cX8_best 64 = .ok (.aload_n 0, 1) := by decide +kernel
theorem dX8_best_65 : decode cX8_best 65 = .ok (.getfield 45, 3) := by decide +kernel
theorem dX8_best_68 : decode cX8_best 68 = .ok (.getfield 137, 3) := by decide +kernel
theorem dX8_best_71 : decode cX8_best 71 = .ok (.goto 10, 3) := by decide +kernel
theorem dX8_best_74 : decode cX8_best 74 = .ok (.aload_n 0, 1) := by decide +kernel
theorem dX8_best_75 : decode cX8_best 75 = .ok (.getfield 45, 3) := by decide +kernel
theorem dX8_best_78 : decode cX8_best 78 = .ok (.getfield 140, 3) := by decide +kernel
theorem dX8_best_81 : decode cX8_best 81 = .ok (.ireturn, 1) := by decide +kernel
theorem dX8_overlap_0 : decode cX8_overlap 0 = .ok (.aload_n 0, 1) := by decide +kernel
theorem dX8_overlap_1 : decode cX8_overlap 1 = .ok (.getfield 21, 3) := by decide +kernel
theorem dX8_overlap_4 : decode cX8_overlap 4 = .ok (.iload_n 1, 1) := by decide +kernel
theorem dX8_overlap_5 : decode cX8_overlap 5 = .ok (.invokevirtual 109, 3) := by decide +kernel
theorem dX8_overlap_8 : decode cX8_overlap 8 = .ok (.astore_n 3, 1) := by decide +kernel
theorem dX8_overlap_9 : decode cX8_overlap 9 = .ok (.aload_n 0, 1) := by decide +kernel
theorem dX8_overlap_10 : decode cX8_overlap 10 = .ok (.getfield 21, 3) := by decide +kernel
theorem dX8_overlap_13 : decode cX8_overlap 13 = .ok (.iload_n 2, 1) := by decide +kernel
theorem dX8_overlap_14 : decode cX8_overlap 14 = .ok (.invokevirtual 109, 3) := by decide +kernel
theorem dX8_overlap_17 : decode cX8_overlap 17 = .ok (.astore 4, 2) := by decide +kernel
theorem dX8_overlap_19 : decode cX8_overlap 19 = .ok (.aload_n 3, 1) := by decide +kernel
theorem dX8_overlap_20 : decode cX8_overlap 20 = .ok (.ifnull 8, 3) := by decide +kernel
theorem dX8_overlap_23 : decode cX8_overlap 23 = .ok (.aload 4, 2) := by decide +kernel
theorem dX8_overlap_25 : decode cX8_overlap 25 = .ok (.ifnonnull 7, 3) := by decide +kernel
theorem dX8_overlap_28 : decode cX8_overlap 28 = .ok (.sipush (-1001), 3) := by decide +kernel
theorem dX8_overlap_31 : decode cX8_overlap 31 = .ok (.ireturn, 1) := by decide +kernel
theorem dX8_overlap_32 : decode cX8_overlap 32 = .ok (.iconst 0, 1) := by decide +kernel
theorem dX8_overlap_33 : decode cX8_overlap 33 = .ok (.aload_n 3, 1) := by decide +kernel
theorem dX8_overlap_34 : decode cX8_overlap 34 = .ok (.getfield 118, 3) := by decide +kernel
theorem dX8_overlap_37 : decode cX8_overlap 37 = .ok (.aload 4, 2) := by decide +kernel
theorem dX8_overlap_39 : decode cX8_overlap 39 = .ok (.getfield 118, 3) := by decide +kernel
theorem dX8_overlap_42 : decode cX8_overlap 42 = .ok (.invokestatic 200, 3) := by decide +kernel
theorem dX8_overlap_45 : decode cX8_overlap 45 = .ok (.aload_n 3, 1) := by decide +kernel
theorem dX8_overlap_46 : decode cX8_overlap 46 = .ok (.getfield 121, 3) := by decide +kernel
theorem dX8_overlap_49 : decode cX8_overlap 49 = .ok (.aload 4, 2) := by decide +kernel
theorem dX8_overlap_51 : decode cX8_overlap 51 = .ok (.getfield 121, 3) := by decide +kernel
theorem dX8_overlap_54 : decode cX8_overlap 54 = .ok (.invokestatic 205, 3) := by decide +kernel
theorem dX8_overlap_57 : decode cX8_overlap 57 = .ok (.isub, 1) := by decide +kernel
theorem dX8_overlap_58 : decode cX8_overlap 58 = .ok (.invokestatic 205, 3) := by decide +kernel
theorem dX8_overlap_61 : decode cX8_overlap 61 = .ok (.ireturn, 1) := by decide +kernel
theorem dX8_covering_0 : decode cX8_covering 0 = .ok (.aload_n 0, 1) := by decide +kernel
theorem dX8_covering_1 : decode cX8_covering 1 = .ok (.iload_n 1, 1) := by decide +kernel
theorem dX8_covering_2 : decode cX8_covering 2 = .ok (.invokevirtual 170, 3) := by decide +kernel
theorem dX8_covering_5 : decode cX8_covering 5 = .ok (.ifCond .eq 7, 3) := by decide +kernel
theorem dX8_covering_8 : decode cX8_covering 8 = .ok (.iload_n 2, 1) := by decide +kernel
theorem dX8_covering_9 : decode cX8_covering 9 = .ok (.ifCond .ge 7, 3) := by decide +kernel
theorem dX8_covering_12 : decode cX8_covering 12 = .ok (.sipush (-1001), 3) := by decide +kernel
theorem dX8_covering_15 : decode cX8_covering 15 = .ok (.ireturn, 1) := by decide +kernel
theorem dX8_covering_16 : decode cX8_covering 16 = .ok (.aload_n 0, 1) := by decide +kernel
theorem dX8_covering_17 : decode cX8_covering 17 = .ok (.getfield 21, 3) := by decide +kernel
theorem dX8_covering_20 : decode cX8_covering 20 = .ok (.iload_n 1, 1) := by decide +kernel
theorem dX8_covering_21 : decode cX8_covering 21 = .ok (.iload_n 2, 1) := by decide +kernel
theorem dX8_covering_22 : decode cX8_covering 22 = .ok (.invokevirtual 208, 3) := by decide +kernel
theorem dX8_covering_25 : decode cX8_covering 25 = .ok (.ireturn, 1) := by decide +kernel
theorem dX8_setThreshold_0 : decode cX8_setThreshold 0 = .ok (.iload_n 1, 1) := by decide +kernel
theorem dX8_setThreshold_1 : decode cX8_setThreshold 1 = .ok (.ifCond .lt 9, 3) := by decide +kernel
theorem dX8_setThreshold_4 : decode cX8_setThreshold 4 = .ok (.iload_n 1, 1) := by decide +kernel
theorem dX8_setThreshold_5 : decode cX8_setThreshold 5 = .ok (.bipush 108, 2) := by decide +kernel
theorem dX8_setThreshold_7 : decode cX8_setThreshold 7 = .ok (.if_icmp .le 7, 3) := by decide +kernel
theorem dX8_setThreshold_10 : decode cX8_setThreshold 10 = .ok (.sipush (-1002), 3) := by decide +kernel
theorem dX8_setThreshold_13 : decode cX8_setThreshold 13 = .ok (.ireturn, 1) := by decide +kernel
theorem dX8_setThreshold_14 : decode cX8_setThreshold 14 = .ok (.aload_n 0, 1) := by decide +kernel
theorem dX8_setThreshold_15 : decode cX8_setThreshold 15 = .ok (.getfield 56, 3) := by decide +kernel
theorem dX8_setThreshold_18 : decode cX8_setThreshold 18 = .ok (.istore_n 2, 1) := by decide +kernel
theorem dX8_setThreshold_19 : decode cX8_setThreshold 19 = .ok (.aload_n 0, 1) := by decide +kernel
theorem dX8_setThreshold_20 : decode cX8_setThreshold 20 = .ok (.iload_n 1, 1) := by decide +kernel
theorem dX8_setThreshold_21 : decode cX8_setThreshold 21 = .ok (.putfield 56, 3) := by decide +kernel
theorem dX8_setThreshold_24 : decode cX8_setThreshold 24 = .ok (.iload_n 2, 1) := by decide +kernel
theorem dX8_setThreshold_25 : decode cX8_setThreshold 25 = .ok (.ireturn, 1) := by decide +kernel
theorem dX8_save_0 : decode cX8_save 0 = .ok (.iload_n 1, 1) := by decide +kernel
theorem dX8_save_1 : decode cX8_save 1 = .ok (.ifCond .lt 8, 3) := by decide +kernel
theorem dX8_save_4 : decode cX8_save 4 = .ok (.iload_n 1, 1) := by decide +kernel
theorem dX8_save_5 : decode cX8_save 5 = .ok (.iconst 1, 1) := by decide +kernel
theorem dX8_save_6 : decode cX8_save 6 = .ok (.if_icmp .le 7, 3) := by decide +kernel
theorem dX8_save_9 : decode cX8_save 9 = .ok (.sipush (-1001), 3) := by decide +kernel
theorem dX8_save_12 : decode cX8_save 12 = .ok (.ireturn, 1) := by decide +kernel
theorem dX8_save_13 : decode cX8_save 13 = .ok (.iload_n 1, 1) := by decide +kernel
theorem dX8_save_14 : decode cX8_save 14 = .ok (.ifCond .ne 10, 3) := by decide +kernel
theorem dX8_save_17 : decode cX8_save 17 = .ok (.aload_n 0, 1) := by decide +kernel
theorem dX8_save_18 : decode cX8_save 18 = .ok (.getfield 35, 3) := by decide +kernel
theorem dX8_save_21 : decode cX8_save 21 = .ok (.goto 7, 3) := by decide +kernel
theorem dX8_save_24 : decode cX8_save 24 = .ok (.aload_n 0, 1) := by decide +kernel
theorem dX8_save_25 : decode cX8_save 25 = .ok (.getfield 39, 3) := by decide +kernel
theorem dX8_save_28 : decode cX8_save 28 = .ok (.astore_n 2, 1) := by decide +kernel
theorem dX8_save_29 : decode cX8_save 29 = .ok (.aload_n 2, 1) := by decide +kernel
theorem dX8_save_30 : decode cX8_save 30 = .ok (.iconst 1, 1) := by decide +kernel
theorem dX8_save_31 : decode cX8_save 31 = .ok (.putfield 211, 3) := by decide +kernel
theorem dX8_save_34 : decode cX8_save 34 = .ok (.aload_n 2, 1) := by decide +kernel
theorem dX8_save_35 : decode cX8_save 35 = .ok (.aload_n 0, 1) := by decide +kernel
theorem dX8_save_36 : decode cX8_save 36 = .ok (.getfield 56, 3) := by decide +kernel
theorem dX8_save_39 : decode cX8_save 39 = .ok (.putfield 215, 3) := by decide +kernel
theorem dX8_save_42 : decode cX8_save 42 = .ok (.aload_n 2, 1) := by decide +kernel
theorem dX8_save_43 : decode cX8_save 43 = .ok (.getfield 216, 3) := by decide +kernel
theorem dX8_save_46 : decode cX8_save 46 = .ok (.aload_n 0, 1) := by decide +kernel
theorem dX8_save_47 : decode cX8_save 47 = .ok (.getfield 21, 3) := by decide +kernel
theorem dX8_save_50 : decode cX8_save 50 = .ok (.invokevirtual 217, 3) := by decide +kernel
theorem dX8_save_53 : decode cX8_save 53 = .ok (.aload_n 0, 1) := by decide +kernel
theorem dX8_save_54 : decode cX8_save 54 = .ok (.getfield 21, 3) := by decide +kernel
theorem dX8_save_57 : decode cX8_save 57 = .ok (.getfield 96, 3) := by decide +kernel
theorem dX8_save_60 : decode cX8_save 60 = .ok (.ireturn, 1) := by decide +kernel
theorem dX8_restore_0 : decode cX8_restore 0 = .ok (.iload_n 1, 1) := by decide +kernel
theorem dX8_restore_1 : decode cX8_restore 1 = .ok (.ifCond .lt 8, 3) := by decide +kernel
theorem dX8_restore_4 : decode cX8_restore 4 = .ok (.iload_n 1, 1) := by decide +kernel
theorem dX8_restore_5 : decode cX8_restore 5 = .ok (.iconst 1, 1) := by decide +kernel
theorem dX8_restore_6 : decode cX8_restore 6 = .ok (.if_icmp .le 7, 3) := by decide +kernel
theorem dX8_restore_9 : decode cX8_restore 9 = .ok (.sipush (-1001), 3) := by decide +kernel
theorem dX8_restore_12 : decode cX8_restore 12 = .ok (.ireturn, 1) := by decide +kernel
theorem dX8_restore_13 : decode cX8_restore 13 = .ok (.iload_n 1, 1) := by decide +kernel
theorem dX8_restore_14 : decode cX8_restore 14 = .ok (.ifCond .ne 10, 3) := by decide +kernel
theorem dX8_restore_17 : decode cX8_restore 17 = .ok (.aload_n 0, 1) := by decide +kernel
theorem dX8_restore_18 : decode cX8_restore 18 = .ok (.getfield 35, 3) := by decide +kernel
theorem dX8_restore_21 : decode cX8_restore 21 = .ok (.goto 7, 3) := by decide +kernel
theorem dX8_restore_24 : decode cX8_restore 24 = .ok (.aload_n 0, 1) := by decide +kernel
theorem dX8_restore_25 : decode cX8_restore 25 = .ok (.getfield 39, 3) := by decide +kernel
theorem dX8_restore_28 : decode cX8_restore 28 = .ok (.astore_n 2, 1) := by decide +kernel
theorem dX8_restore_29 : decode cX8_restore 29 = .ok (.aload_n 2, 1) := by decide +kernel
theorem dX8_restore_30 : decode cX8_restore 30 = .ok (.getfield 211, 3) := by decide +kernel
theorem dX8_restore_33 : decode cX8_restore 33 = .ok (.ifCond .ne 7, 3) := by decide +kernel
theorem dX8_restore_36 : decode cX8_restore 36 = .ok (.sipush (-1003), 3) := by decide +kernel
theorem dX8_restore_39 : decode cX8_restore 39 = .ok (.ireturn, 1) := by decide +kernel
theorem dX8_restore_40 : decode cX8_restore 40 = .ok (.aload_n 0, 1) := by decide +kernel
theorem dX8_restore_41 : decode cX8_restore 41 = .ok (.aload_n 2, 1) := by decide +kernel
theorem dX8_restore_42 : decode cX8_restore 42 = .ok (.getfield 215, 3) := by decide +kernel
theorem dX8_restore_45 : decode cX8_restore 45 = .ok (.putfield 56, 3) := by decide +kernel
theorem dX8_restore_48 : decode cX8_restore 48 = .ok (.aload_n 0, 1) := by decide +kernel
theorem dX8_restore_49 : decode cX8_restore 49 = .ok (.getfield 21, 3) := by decide +kernel
theorem dX8_restore_52 : decode cX8_restore 52 = .ok (.aload_n 2, 1) := by decide +kernel
theorem dX8_restore_53 : decode cX8_restore 53 = .ok (.getfield 216, 3) := by decide +kernel
theorem dX8_restore_56 : decode cX8_restore 56 = .ok (.invokevirtual 217, 3) := by decide +kernel
theorem dX8_restore_59 : decode cX8_restore 59 = .ok (.aload_n 0, 1) := by decide +kernel
theorem dX8_restore_60 : decode cX8_restore 60 = .ok (.getfield 28, 3) := by decide +kernel
theorem dX8_restore_63 : decode cX8_restore 63 = .ok (.iconst 0, 1) := by decide +kernel
theorem dX8_restore_64 : decode cX8_restore 64 = .ok (.putfield 166, 3) := by decide +kernel
theorem dX8_restore_67 : decode cX8_restore 67 = .ok (.aload_n 0, 1) := by decide +kernel
theorem dX8_restore_68 : decode cX8_restore 68 = .ok (.getfield 21, 3) := by decide +kernel
theorem dX8_restore_71 : decode cX8_restore 71 = .ok (.getfield 96, 3) := by decide +kernel
theorem dX8_restore_74 : decode cX8_restore 74 = .ok (.ireturn, 1) := by decide +kernel
theorem dX8_checksum_0 : decode cX8_checksum 0 = .ok (.ldc2_w 220, 3) := by decide +kernel
theorem dX8_checksum_3 : decode cX8_checksum 3 = .ok (.aload_n 0, 1) := by decide +kernel
theorem dX8_checksum_4 : decode cX8_checksum 4 = .ok (.getfield 21, 3) := by decide +kernel
theorem dX8_checksum_7 : decode cX8_checksum 7 = .ok (.getfield 73, 3) := by decide +kernel
theorem dX8_checksum_10 : decode cX8_checksum 10 = .ok (.getfield 60, 3) := by decide +kernel
theorem dX8_checksum_13 : decode cX8_checksum 13 = .ok (.invokestatic 222, 3) := by decide +kernel
theorem dX8_checksum_16 : decode cX8_checksum 16 = .ok (.lstore_n 1, 1) := by decide +kernel
theorem dX8_checksum_17 : decode cX8_checksum 17 = .ok (.lload_n 1, 1) := by decide +kernel
theorem dX8_checksum_18 : decode cX8_checksum 18 = .ok (.aload_n 0, 1) := by decide +kernel
theorem dX8_checksum_19 : decode cX8_checksum 19 = .ok (.getfield 21, 3) := by decide +kernel
theorem dX8_checksum_22 : decode cX8_checksum 22 = .ok (.getfield 73, 3) := by decide +kernel
theorem dX8_checksum_25 : decode cX8_checksum 25 = .ok (.invokestatic 226, 3) := by decide +kernel
theorem dX8_checksum_28 : decode cX8_checksum 28 = .ok (.lstore_n 1, 1) := by decide +kernel
theorem dX8_checksum_29 : decode cX8_checksum 29 = .ok (.lload_n 1, 1) := by decide +kernel
theorem dX8_checksum_30 : decode cX8_checksum 30 = .ok (.aload_n 0, 1) := by decide +kernel
theorem dX8_checksum_31 : decode cX8_checksum 31 = .ok (.getfield 21, 3) := by decide +kernel
theorem dX8_checksum_34 : decode cX8_checksum 34 = .ok (.getfield 96, 3) := by decide +kernel
theorem dX8_checksum_37 : decode cX8_checksum 37 = .ok (.invokestatic 222, 3) := by decide +kernel
theorem dX8_checksum_40 : decode cX8_checksum 40 = .ok (.lstore_n 1, 1) := by decide +kernel
theorem dX8_checksum_41 : decode cX8_checksum 41 = .ok (.iconst 0, 1) := by decide +kernel
theorem dX8_checksum_42 : decode cX8_checksum 42 = .ok (.istore_n 3, 1) := by decide +kernel
theorem dX8_checksum_43 : decode cX8_checksum 43 = .ok (.iload_n 3, 1) := by decide +kernel
theorem dX8_checksum_44 : decode cX8_checksum 44 = .ok (.aload_n 0, 1) := by decide +kernel
theorem dX8_checksum_45 : decode cX8_checksum 45 = .ok (.getfield 21, 3) := by decide +kernel
theorem dX8_checksum_48 : decode cX8_checksum 48 = .ok (.getfield 96, 3) := by decide +kernel
theorem dX8_checksum_51 : decode cX8_checksum 51 = .ok (.if_icmp .ge 36, 3) := by decide +kernel
theorem dX8_checksum_54 : decode cX8_checksum 54 = .ok (.iload_n 3, 1) := by decide +kernel
theorem dX8_checksum_55 : decode cX8_checksum 55 = .ok (.aload_n 0, 1) := by decide +kernel
theorem dX8_checksum_56 : decode cX8_checksum 56 = .ok (.getfield 21, 3) := by decide +kernel
theorem dX8_checksum_59 : decode cX8_checksum 59 = .ok (.getfield 176, 3) := by decide +kernel
theorem dX8_checksum_62 : decode cX8_checksum 62 = .ok (.arraylength, 1) := by decide +kernel
theorem dX8_checksum_63 : decode cX8_checksum 63 = .ok (.if_icmp .ge 24, 3) := by decide +kernel
theorem dX8_checksum_66 : decode cX8_checksum 66 = .ok (.aload_n 0, 1) := by decide +kernel
theorem dX8_checksum_67 : decode cX8_checksum 67 = .ok (.lload_n 1, 1) := by decide +kernel
theorem dX8_checksum_68 : decode cX8_checksum 68 = .ok (.aload_n 0, 1) := by decide +kernel
theorem dX8_checksum_69 : decode cX8_checksum 69 = .ok (.getfield 21, 3) := by decide +kernel
theorem dX8_checksum_72 : decode cX8_checksum 72 = .ok (.getfield 176, 3) := by decide +kernel
theorem dX8_checksum_75 : decode cX8_checksum 75 = .ok (.iload_n 3, 1) := by decide +kernel
theorem dX8_checksum_76 : decode cX8_checksum 76 = .ok (.aaload, 1) := by decide +kernel
theorem dX8_checksum_77 : decode cX8_checksum 77 = .ok (.invokevirtual 230, 3) := by decide +kernel
theorem dX8_checksum_80 : decode cX8_checksum 80 = .ok (.lstore_n 1, 1) := by decide +kernel
theorem dX8_checksum_81 : decode cX8_checksum 81 = .ok (.iinc 3 1, 3) := by decide +kernel
theorem dX8_checksum_84 : decode cX8_checksum 84 = .ok (.goto (-41), 3) := by decide +kernel
theorem dX8_checksum_87 : decode cX8_checksum 87 = .ok (.lload_n 1, 1) := by decide +kernel
theorem dX8_checksum_88 : decode cX8_checksum 88 = .ok (.lreturn, 1) := by decide +kernel
theorem dX8_mixNote_0 : decode cX8_mixNote 0 = .ok (.lload_n 1, 1) := by decide +kernel
theorem dX8_mixNote_1 : decode cX8_mixNote 1 = .ok (.aload_n 3, 1) := by decide +kernel
theorem dX8_mixNote_2 : decode cX8_mixNote 2 = .ok (.getfield 180, 3) := by decide +kernel
theorem dX8_mixNote_5 : decode cX8_mixNote 5 = .ok (.invokestatic 222, 3) := by decide +kernel
theorem dX8_mixNote_8 : decode cX8_mixNote 8 = .ok (.lstore 4, 2) := by decide +kernel
theorem dX8_mixNote_10 : decode cX8_mixNote 10 = .ok (.lload 4, 2) := by decide +kernel
theorem dX8_mixNote_12 : decode cX8_mixNote 12 = .ok (.aload_n 3, 1) := by decide +kernel
theorem dX8_mixNote_13 : decode cX8_mixNote 13 = .ok (.getfield 113, 3) := by decide +kernel
theorem dX8_mixNote_16 : decode cX8_mixNote 16 = .ok (.invokestatic 222, 3) := by decide +kernel
theorem dX8_mixNote_19 : decode cX8_mixNote 19 = .ok (.lstore 4, 2) := by decide +kernel
theorem dX8_mixNote_21 : decode cX8_mixNote 21 = .ok (.lload 4, 2) := by decide +kernel
theorem dX8_mixNote_23 : decode cX8_mixNote 23 = .ok (.aload_n 3, 1) := by decide +kernel
theorem dX8_mixNote_24 : decode cX8_mixNote 24 = .ok (.getfield 121, 3) := by decide +kernel
theorem dX8_mixNote_27 : decode cX8_mixNote 27 = .ok (.invokestatic 222, 3) := by decide +kernel
theorem dX8_mixNote_30 : decode cX8_mixNote 30 = .ok (.lstore 4, 2) := by decide +kernel
theorem dX8_mixNote_32 : decode cX8_mixNote 32 = .ok (.lload 4, 2) := by decide +kernel
theorem dX8_mixNote_34 : decode cX8_mixNote 34 = .ok (.aload_n 3, 1) := by decide +kernel
theorem dX8_mixNote_35 : decode cX8_mixNote 35 = .ok (.getfield 118, 3) := by decide +kernel
theorem dX8_mixNote_38 : decode cX8_mixNote 38 = .ok (.invokestatic 222, 3) := by decide +kernel
theorem dX8_mixNote_41 : decode cX8_mixNote 41 = .ok (.lstore 4, 2) := by decide +kernel
theorem dX8_mixNote_43 : decode cX8_mixNote 43 = .ok (.lload 4, 2) := by decide +kernel
theorem dX8_mixNote_45 : decode cX8_mixNote 45 = .ok (.aload_n 3, 1) := by decide +kernel
theorem dX8_mixNote_46 : decode cX8_mixNote 46 = .ok (.getfield 183, 3) := by decide +kernel
theorem dX8_mixNote_49 : decode cX8_mixNote 49 = .ok (.invokestatic 222, 3) := by decide +kernel
theorem dX8_mixNote_52 : decode cX8_mixNote 52 = .ok (.lstore 4, 2) := by decide +kernel
theorem dX8_mixNote_54 : decode cX8_mixNote 54 = .ok (.lload 4, 2) := by decide +kernel
theorem dX8_mixNote_56 : decode cX8_mixNote 56 = .ok (.aload_n 3, 1) := by decide +kernel
theorem dX8_mixNote_57 : decode cX8_mixNote 57 = .ok (.getfield 186, 3) := by decide +kernel
theorem dX8_mixNote_60 : decode cX8_mixNote 60 = .ok (.invokestatic 226, 3) := by decide +kernel
theorem dX8_mixNote_63 : decode cX8_mixNote 63 = .ok (.lstore 4, 2) := by decide +kernel
theorem dX8_mixNote_65 : decode cX8_mixNote 65 = .ok (.lload 4, 2) := by decide +kernel
theorem dX8_mixNote_67 : decode cX8_mixNote 67 = .ok (.aload_n 3, 1) := by decide +kernel

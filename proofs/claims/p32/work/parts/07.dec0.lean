theorem dX0_init_0 : decode cX0_init 0 = .ok (.aload_n 0, 1) := by decide +kernel
theorem dX0_init_1 : decode cX0_init 1 = .ok (.invokespecial 3, 3) := by decide +kernel
theorem dX0_init_4 : decode cX0_init 4 = .ok (.aload_n 0, 1) := by decide +kernel
theorem dX0_init_5 : decode cX0_init 5 = .ok (.bipush 120, 2) := by decide +kernel
theorem dX0_init_7 : decode cX0_init 7 = .ok (.newarray .int, 2) := by decide +kernel
theorem dX0_init_9 : decode cX0_init 9 = .ok (.putfield 9, 3) := by decide +kernel
theorem dX0_init_12 : decode cX0_init 12 = .ok (.aload_n 0, 1) := by decide +kernel
theorem dX0_init_13 : decode cX0_init 13 = .ok (.bipush 120, 2) := by decide +kernel
theorem dX0_init_15 : decode cX0_init 15 = .ok (.newarray .int, 2) := by decide +kernel
theorem dX0_init_17 : decode cX0_init 17 = .ok (.putfield 15, 3) := by decide +kernel
theorem dX0_init_20 : decode cX0_init 20 = .ok (.aload_n 0, 1) := by decide +kernel
theorem dX0_init_21 : decode cX0_init 21 = .ok (.bipush 121, 2) := by decide +kernel
theorem dX0_init_23 : decode cX0_init 23 = .ok (.newarray .int, 2) := by decide +kernel
theorem dX0_init_25 : decode cX0_init 25 = .ok (.putfield 18, 3) := by decide +kernel
theorem dX0_init_28 : decode cX0_init 28 = .ok (.return_, 1) := by decide +kernel
theorem dX0_weigh_0 : decode cX0_weigh 0 = .ok (.aload_n 0, 1) := by decide +kernel
theorem dX0_weigh_1 : decode cX0_weigh 1 = .ok (.aload_n 2, 1) := by decide +kernel
theorem dX0_weigh_2 : decode cX0_weigh 2 = .ok (.getfield 21, 3) := by decide +kernel
theorem dX0_weigh_5 : decode cX0_weigh 5 = .ok (.aload_n 0, 1) := by decide +kernel
theorem dX0_weigh_6 : decode cX0_weigh 6 = .ok (.getfield 9, 3) := by decide +kernel
theorem dX0_weigh_9 : decode cX0_weigh 9 = .ok (.arraylength, 1) := by decide +kernel
theorem dX0_weigh_10 : decode cX0_weigh 10 = .ok (.aload_n 0, 1) := by decide +kernel
theorem dX0_weigh_11 : decode cX0_weigh 11 = .ok (.getfield 15, 3) := by decide +kernel
theorem dX0_weigh_14 : decode cX0_weigh 14 = .ok (.arraylength, 1) := by decide +kernel
theorem dX0_weigh_15 : decode cX0_weigh 15 = .ok (.invokestatic 27, 3) := by decide +kernel
theorem dX0_weigh_18 : decode cX0_weigh 18 = .ok (.invokestatic 27, 3) := by decide +kernel
theorem dX0_weigh_21 : decode cX0_weigh 21 = .ok (.putfield 33, 3) := by decide +kernel
theorem dX0_weigh_24 : decode cX0_weigh 24 = .ok (.iconst 0, 1) := by decide +kernel
theorem dX0_weigh_25 : decode cX0_weigh 25 = .ok (.istore 5, 2) := by decide +kernel
theorem dX0_weigh_27 : decode cX0_weigh 27 = .ok (.iload 5, 2) := by decide +kernel
theorem dX0_weigh_29 : decode cX0_weigh 29 = .ok (.aload_n 0, 1) := by decide +kernel
theorem dX0_weigh_30 : decode cX0_weigh 30 = .ok (.getfield 33, 3) := by decide +kernel
theorem dX0_weigh_33 : decode cX0_weigh 33 = .ok (.if_icmp .ge 53, 3) := by decide +kernel
theorem dX0_weigh_36 : decode cX0_weigh 36 = .ok (.aload 4, 2) := by decide +kernel
theorem dX0_weigh_38 : decode cX0_weigh 38 = .ok (.aload_n 1, 1) := by decide +kernel
theorem dX0_weigh_39 : decode cX0_weigh 39 = .ok (.aload_n 2, 1) := by decide +kernel
theorem dX0_weigh_40 : decode cX0_weigh 40 = .ok (.iload 5, 2) := by decide +kernel
theorem dX0_weigh_42 : decode cX0_weigh 42 = .ok (.invokevirtual 34, 3) := by decide +kernel
theorem dX0_weigh_45 : decode cX0_weigh 45 = .ok (.istore 6, 2) := by decide +kernel
theorem dX0_weigh_47 : decode cX0_weigh 47 = .ok (.aload_n 0, 1) := by decide +kernel
theorem dX0_weigh_48 : decode cX0_weigh 48 = .ok (.getfield 9, 3) := by decide +kernel
theorem dX0_weigh_51 : decode cX0_weigh 51 = .ok (.iload 5, 2) := by decide +kernel
theorem dX0_weigh_53 : decode cX0_weigh 53 = .ok (.iload 6, 2) := by decide +kernel
theorem dX0_weigh_55 : decode cX0_weigh 55 = .ok (.iload_n 3, 1) := by decide +kernel
theorem dX0_weigh_56 : decode cX0_weigh 56 = .ok (.if_icmp .ge 9, 3) := by decide +kernel
theorem dX0_weigh_59 : decode cX0_weigh 59 = .ok (.sipush (-1005), 3) := by decide +kernel
theorem dX0_weigh_62 : decode cX0_weigh 62 = .ok (.goto 5, 3) := by decide +kernel
theorem dX0_weigh_65 : decode cX0_weigh 65 = .ok (.iload 6, 2) := by decide +kernel
theorem dX0_weigh_67 : decode cX0_weigh 67 = .ok (.iastore, 1) := by decide +kernel
theorem dX0_weigh_68 : decode cX0_weigh 68 = .ok (.aload_n 0, 1) := by decide +kernel
theorem dX0_weigh_69 : decode cX0_weigh 69 = .ok (.getfield 15, 3) := by decide +kernel
theorem dX0_weigh_72 : decode cX0_weigh 72 = .ok (.iload 5, 2) := by decide +kernel
theorem dX0_weigh_74 : decode cX0_weigh 74 = .ok (.aload 4, 2) := by decide +kernel
theorem dX0_weigh_76 : decode cX0_weigh 76 = .ok (.getfield 40, 3) := by decide +kernel
theorem dX0_weigh_79 : decode cX0_weigh 79 = .ok (.iastore, 1) := by decide +kernel
theorem dX0_weigh_80 : decode cX0_weigh 80 = .ok (.iinc 5 1, 3) := by decide +kernel
theorem dX0_weigh_83 : decode cX0_weigh 83 = .ok (.goto (-56), 3) := by decide +kernel
theorem dX0_weigh_86 : decode cX0_weigh 86 = .ok (.return_, 1) := by decide +kernel
theorem dX0_beNothing_0 : decode cX0_beNothing 0 = .ok (.aload_n 0, 1) := by decide +kernel
theorem dX0_beNothing_1 : decode cX0_beNothing 1 = .ok (.iconst 0, 1) := by decide +kernel
theorem dX0_beNothing_2 : decode cX0_beNothing 2 = .ok (.putfield 33, 3) := by decide +kernel
theorem dX0_beNothing_5 : decode cX0_beNothing 5 = .ok (.iconst 0, 1) := by decide +kernel
theorem dX0_beNothing_6 : decode cX0_beNothing 6 = .ok (.istore_n 1, 1) := by decide +kernel
theorem dX0_beNothing_7 : decode cX0_beNothing 7 = .ok (.iload_n 1, 1) := by decide +kernel
theorem dX0_beNothing_8 : decode cX0_beNothing 8 = .ok (.aload_n 0, 1) := by decide +kernel
theorem dX0_beNothing_9 : decode cX0_beNothing 9 = .ok (.getfield 18, 3) := by decide +kernel
theorem dX0_beNothing_12 : decode cX0_beNothing 12 = .ok (.arraylength, 1) := by decide +kernel
theorem dX0_beNothing_13 : decode cX0_beNothing 13 = .ok (.if_icmp .ge 16, 3) := by decide +kernel
theorem dX0_beNothing_16 : decode cX0_beNothing 16 = .ok (.aload_n 0, 1) := by decide +kernel
theorem dX0_beNothing_17 : decode cX0_beNothing 17 = .ok (.getfield 18, 3) := by decide +kernel
theorem dX0_beNothing_20 : decode cX0_beNothing 20 = .ok (.iload_n 1, 1) := by decide +kernel
theorem dX0_beNothing_21 : decode cX0_beNothing 21 = .ok (.iconst 0, 1) := by decide +kernel
theorem dX0_beNothing_22 : decode cX0_beNothing 22 = .ok (.iastore, 1) := by decide +kernel
theorem dX0_beNothing_23 : decode cX0_beNothing 23 = .ok (.iinc 1 1, 3) := by decide +kernel
theorem dX0_beNothing_26 : decode cX0_beNothing 26 = .ok (.goto (-19), 3) := by decide +kernel
theorem dX0_beNothing_29 : decode cX0_beNothing 29 = .ok (.return_, 1) := by decide +kernel
theorem dX0_addUp_0 : decode cX0_addUp 0 = .ok (.iconst 0, 1) := by decide +kernel
theorem dX0_addUp_1 : decode cX0_addUp 1 = .ok (.istore_n 2, 1) := by decide +kernel
theorem dX0_addUp_2 : decode cX0_addUp 2 = .ok (.aload_n 0, 1) := by decide +kernel
theorem dX0_addUp_3 : decode cX0_addUp 3 = .ok (.getfield 18, 3) := by decide +kernel
theorem dX0_addUp_6 : decode cX0_addUp 6 = .ok (.arraylength, 1) := by decide +kernel
theorem dX0_addUp_7 : decode cX0_addUp 7 = .ok (.iconst 1, 1) := by decide +kernel
theorem dX0_addUp_8 : decode cX0_addUp 8 = .ok (.isub, 1) := by decide +kernel
theorem dX0_addUp_9 : decode cX0_addUp 9 = .ok (.istore_n 3, 1) := by decide +kernel
theorem dX0_addUp_10 : decode cX0_addUp 10 = .ok (.iload_n 3, 1) := by decide +kernel
theorem dX0_addUp_11 : decode cX0_addUp 11 = .ok (.ifCond .lt 72, 3) := by decide +kernel
theorem dX0_addUp_14 : decode cX0_addUp 14 = .ok (.iload_n 2, 1) := by decide +kernel
theorem dX0_addUp_15 : decode cX0_addUp 15 = .ok (.aload_n 1, 1) := by decide +kernel
theorem dX0_addUp_16 : decode cX0_addUp 16 = .ok (.iload_n 3, 1) := by decide +kernel
theorem dX0_addUp_17 : decode cX0_addUp 17 = .ok (.invokevirtual 43, 3) := by decide +kernel
theorem dX0_addUp_20 : decode cX0_addUp 20 = .ok (.invokestatic 47, 3) := by decide +kernel
theorem dX0_addUp_23 : decode cX0_addUp 23 = .ok (.istore_n 2, 1) := by decide +kernel
theorem dX0_addUp_24 : decode cX0_addUp 24 = .ok (.iload_n 3, 1) := by decide +kernel
theorem dX0_addUp_25 : decode cX0_addUp 25 = .ok (.aload_n 0, 1) := by decide +kernel
theorem dX0_addUp_26 : decode cX0_addUp 26 = .ok (.getfield 33, 3) := by decide +kernel
theorem dX0_addUp_29 : decode cX0_addUp 29 = .ok (.if_icmp .ge 41, 3) := by decide +kernel
theorem dX0_addUp_32 : decode cX0_addUp 32 = .ok (.iload_n 3, 1) := by decide +kernel
theorem dX0_addUp_33 : decode cX0_addUp 33 = .ok (.aload_n 0, 1) := by decide +kernel
theorem dX0_addUp_34 : decode cX0_addUp 34 = .ok (.getfield 9, 3) := by decide +kernel
theorem dX0_addUp_37 : decode cX0_addUp 37 = .ok (.arraylength, 1) := by decide +kernel
theorem dX0_addUp_38 : decode cX0_addUp 38 = .ok (.if_icmp .ge 32, 3) := by decide +kernel
theorem dX0_addUp_41 : decode cX0_addUp 41 = .ok (.aload_n 0, 1) := by decide +kernel
theorem dX0_addUp_42 : decode cX0_addUp 42 = .ok (.getfield 9, 3) := by decide +kernel
theorem dX0_addUp_45 : decode cX0_addUp 45 = .ok (.iload_n 3, 1) := by decide +kernel
theorem dX0_addUp_46 : decode cX0_addUp 46 = .ok (.iaload, 1) := by decide +kernel
theorem dX0_addUp_47 : decode cX0_addUp 47 = .ok (.sipush (-1005), 3) := by decide +kernel
theorem dX0_addUp_50 : decode cX0_addUp 50 = .ok (.if_icmp .eq 20, 3) := by decide +kernel
theorem dX0_addUp_53 : decode cX0_addUp 53 = .ok (.iload_n 2, 1) := by decide +kernel
theorem dX0_addUp_54 : decode cX0_addUp 54 = .ok (.aload_n 0, 1) := by decide +kernel
theorem dX0_addUp_55 : decode cX0_addUp 55 = .ok (.getfield 9, 3) := by decide +kernel
theorem dX0_addUp_58 : decode cX0_addUp 58 = .ok (.iload_n 3, 1) := by decide +kernel
theorem dX0_addUp_59 : decode cX0_addUp 59 = .ok (.iaload, 1) := by decide +kernel
theorem dX0_addUp_60 : decode cX0_addUp 60 = .ok (.aload_n 1, 1) := by decide +kernel
theorem dX0_addUp_61 : decode cX0_addUp 61 = .ok (.iload_n 3, 1) := by decide +kernel
theorem dX0_addUp_62 : decode cX0_addUp 62 = .ok (.invokevirtual 43, 3) := by decide +kernel
theorem dX0_addUp_65 : decode cX0_addUp 65 = .ok (.iadd, 1) := by decide +kernel
theorem dX0_addUp_66 : decode cX0_addUp 66 = .ok (.invokestatic 47, 3) := by decide +kernel
theorem dX0_addUp_69 : decode cX0_addUp 69 = .ok (.istore_n 2, 1) := by decide +kernel
theorem dX0_addUp_70 : decode cX0_addUp 70 = .ok (.aload_n 0, 1) := by decide +kernel
theorem dX0_addUp_71 : decode cX0_addUp 71 = .ok (.getfield 18, 3) := by decide +kernel
theorem dX0_addUp_74 : decode cX0_addUp 74 = .ok (.iload_n 3, 1) := by decide +kernel
theorem dX0_addUp_75 : decode cX0_addUp 75 = .ok (.iload_n 2, 1) := by decide +kernel
theorem dX0_addUp_76 : decode cX0_addUp 76 = .ok (.iastore, 1) := by decide +kernel
theorem dX0_addUp_77 : decode cX0_addUp 77 = .ok (.iinc 3 (-1), 3) := by decide +kernel
theorem dX0_addUp_80 : decode cX0_addUp 80 = .ok (.goto (-70), 3) := by decide +kernel
theorem dX0_addUp_83 : decode cX0_addUp 83 = .ok (.return_, 1) := by decide +kernel
theorem dX0_sumFrom_0 : decode cX0_sumFrom 0 = .ok (.iload_n 1, 1) := by decide +kernel
theorem dX0_sumFrom_1 : decode cX0_sumFrom 1 = .ok (.ifCond .lt 21, 3) := by decide +kernel
theorem dX0_sumFrom_4 : decode cX0_sumFrom 4 = .ok (.iload_n 1, 1) := by decide +kernel
theorem dX0_sumFrom_5 : decode cX0_sumFrom 5 = .ok (.aload_n 0, 1) := by decide +kernel
theorem dX0_sumFrom_6 : decode cX0_sumFrom 6 = .ok (.getfield 18, 3) := by decide +kernel
theorem dX0_sumFrom_9 : decode cX0_sumFrom 9 = .ok (.arraylength, 1) := by decide +kernel
theorem dX0_sumFrom_10 : decode cX0_sumFrom 10 = .ok (.if_icmp .ge 12, 3) := by decide +kernel
theorem dX0_sumFrom_13 : decode cX0_sumFrom 13 = .ok (.aload_n 0, 1) := by decide +kernel
theorem dX0_sumFrom_14 : decode cX0_sumFrom 14 = .ok (.getfield 18, 3) := by decide +kernel
theorem dX0_sumFrom_17 : decode cX0_sumFrom 17 = .ok (.iload_n 1, 1) := by decide +kernel
theorem dX0_sumFrom_18 : decode cX0_sumFrom 18 = .ok (.iaload, 1) := by decide +kernel
theorem dX0_sumFrom_19 : decode cX0_sumFrom 19 = .ok (.goto 4, 3) := by decide +kernel
theorem dX0_sumFrom_22 : decode cX0_sumFrom 22 = .ok (.iconst 0, 1) := by decide +kernel
theorem dX0_sumFrom_23 : decode cX0_sumFrom 23 = .ok (.ireturn, 1) := by decide +kernel
theorem dX0_endAt_0 : decode cX0_endAt 0 = .ok (.iload_n 1, 1) := by decide +kernel
theorem dX0_endAt_1 : decode cX0_endAt 1 = .ok (.ifCond .lt 21, 3) := by decide +kernel
theorem dX0_endAt_4 : decode cX0_endAt 4 = .ok (.iload_n 1, 1) := by decide +kernel
theorem dX0_endAt_5 : decode cX0_endAt 5 = .ok (.aload_n 0, 1) := by decide +kernel
theorem dX0_endAt_6 : decode cX0_endAt 6 = .ok (.getfield 15, 3) := by decide +kernel
theorem dX0_endAt_9 : decode cX0_endAt 9 = .ok (.arraylength, 1) := by decide +kernel
theorem dX0_endAt_10 : decode cX0_endAt 10 = .ok (.if_icmp .ge 12, 3) := by decide +kernel
theorem dX0_endAt_13 : decode cX0_endAt 13 = .ok (.aload_n 0, 1) := by decide +kernel
theorem dX0_endAt_14 : decode cX0_endAt 14 = .ok (.getfield 15, 3) := by decide +kernel
theorem dX0_endAt_17 : decode cX0_endAt 17 = .ok (.iload_n 1, 1) := by decide +kernel
theorem dX0_endAt_18 : decode cX0_endAt 18 = .ok (.iaload, 1) := by decide +kernel
theorem dX0_endAt_19 : decode cX0_endAt 19 = .ok (.goto 6, 3) := by decide +kernel
theorem dX0_endAt_22 : decode cX0_endAt 22 = .ok (.sipush (-1005), 3) := by decide +kernel
theorem dX0_endAt_25 : decode cX0_endAt 25 = .ok (.ireturn, 1) := by decide +kernel
theorem dX0_choose_0 : decode cX0_choose 0 = .ok (.sipush (-1005), 3) := by decide +kernel
theorem dX0_choose_3 : decode cX0_choose 3 = .ok (.istore_n 3, 1) := by decide +kernel
theorem dX0_choose_4 : decode cX0_choose 4 = .ok (.sipush (-1005), 3) := by decide +kernel
theorem dX0_choose_7 : decode cX0_choose 7 = .ok (.istore 4, 2) := by decide +kernel
theorem dX0_choose_9 : decode cX0_choose 9 = .ok (.iconst 0, 1) := by decide +kernel
theorem dX0_choose_10 : decode cX0_choose 10 = .ok (.iload_n 1, 1) := by decide +kernel
theorem dX0_choose_11 : decode cX0_choose 11 = .ok (.invokestatic 47, 3) := by decide +kernel
theorem dX0_choose_14 : decode cX0_choose 14 = .ok (.istore 5, 2) := by decide +kernel
theorem dX0_choose_16 : decode cX0_choose 16 = .ok (.iload 5, 2) := by decide +kernel
theorem dX0_choose_18 : decode cX0_choose 18 = .ok (.aload_n 0, 1) := by decide +kernel
theorem dX0_choose_19 : decode cX0_choose 19 = .ok (.getfield 33, 3) := by decide +kernel
theorem dX0_choose_22 : decode cX0_choose 22 = .ok (.if_icmp .ge 59, 3) := by decide +kernel
theorem dX0_choose_25 : decode cX0_choose 25 = .ok (.iload 5, 2) := by decide +kernel
theorem dX0_choose_27 : decode cX0_choose 27 = .ok (.aload_n 0, 1) := by decide +kernel
theorem dX0_choose_28 : decode cX0_choose 28 = .ok (.getfield 9, 3) := by decide +kernel
theorem dX0_choose_31 : decode cX0_choose 31 = .ok (.arraylength, 1) := by decide +kernel
theorem dX0_choose_32 : decode cX0_choose 32 = .ok (.if_icmp .ge 49, 3) := by decide +kernel
theorem dX0_choose_35 : decode cX0_choose 35 = .ok (.aload_n 0, 1) := by decide +kernel
theorem dX0_choose_36 : decode cX0_choose 36 = .ok (.getfield 9, 3) := by decide +kernel
theorem dX0_choose_39 : decode cX0_choose 39 = .ok (.iload 5, 2) := by decide +kernel
theorem dX0_choose_41 : decode cX0_choose 41 = .ok (.iaload, 1) := by decide +kernel
theorem dX0_choose_42 : decode cX0_choose 42 = .ok (.istore 6, 2) := by decide +kernel
theorem dX0_choose_44 : decode cX0_choose 44 = .ok (.iload 6, 2) := by decide +kernel
theorem dX0_choose_46 : decode cX0_choose 46 = .ok (.iload 4, 2) := by decide +kernel
theorem dX0_choose_48 : decode cX0_choose 48 = .ok (.if_icmp .le 27, 3) := by decide +kernel
theorem dX0_choose_51 : decode cX0_choose 51 = .ok (.iload 6, 2) := by decide +kernel
theorem dX0_choose_53 : decode cX0_choose 53 = .ok (.aload_n 2, 1) := by decide +kernel
theorem dX0_choose_54 : decode cX0_choose 54 = .ok (.iload 5, 2) := by decide +kernel
theorem dX0_choose_56 : decode cX0_choose 56 = .ok (.invokevirtual 43, 3) := by decide +kernel
theorem dX0_choose_59 : decode cX0_choose 59 = .ok (.iadd, 1) := by decide +kernel
theorem dX0_choose_60 : decode cX0_choose 60 = .ok (.aload_n 0, 1) := by decide +kernel
theorem dX0_choose_61 : decode cX0_choose 61 = .ok (.iload_n 1, 1) := by decide +kernel
theorem dX0_choose_62 : decode cX0_choose 62 = .ok (.invokevirtual 43, 3) := by decide +kernel
theorem dX0_choose_65 : decode cX0_choose 65 = .ok (.if_icmp .ne 10, 3) := by decide +kernel
theorem dX0_choose_68 : decode cX0_choose 68 = .ok (.iload 6, 2) := by decide +kernel
theorem dX0_choose_70 : decode cX0_choose 70 = .ok (.istore 4, 2) := by decide +kernel
theorem dX0_choose_72 : decode cX0_choose 72 = .ok (.iload 5, 2) := by decide +kernel
theorem dX0_choose_74 : decode cX0_choose 74 = .ok (.istore_n 3, 1) := by decide +kernel
theorem dX0_choose_75 : decode cX0_choose 75 = .ok (.iinc 5 1, 3) := by decide +kernel
theorem dX0_choose_78 : decode cX0_choose 78 = .ok (.goto (-62), 3) := by decide +kernel
theorem dX0_choose_81 : decode cX0_choose 81 = .ok (.iload_n 3, 1) := by decide +kernel
theorem dX0_choose_82 : decode cX0_choose 82 = .ok (.ireturn, 1) := by decide +kernel
theorem dX1_init_0 : decode cX1_init 0 = .ok (.aload_n 0, 1) := by decide +kernel
theorem dX1_init_1 : decode cX1_init 1 = .ok (.invokespecial 3, 3) := by decide +kernel
theorem dX1_init_4 : decode cX1_init 4 = .ok (.aload_n 0, 1) := by decide +kernel
theorem dX1_init_5 : decode cX1_init 5 = .ok (.bipush 17, 2) := by decide +kernel
theorem dX1_init_7 : decode cX1_init 7 = .ok (.newarray .int, 2) := by decide +kernel
theorem dX1_init_9 : decode cX1_init 9 = .ok (.putfield 9, 3) := by decide +kernel
theorem dX1_init_12 : decode cX1_init 12 = .ok (.return_, 1) := by decide +kernel
theorem dX1_distanceTo_0 : decode cX1_distanceTo 0 = .ok (.aload_n 0, 1) := by decide +kernel
theorem dX1_distanceTo_1 : decode cX1_distanceTo 1 = .ok (.invokevirtual 15, 3) := by decide +kernel
theorem dX1_distanceTo_4 : decode cX1_distanceTo 4 = .ok (.iload_n 3, 1) := by decide +kernel
theorem dX1_distanceTo_5 : decode cX1_distanceTo 5 = .ok (.istore 5, 2) := by decide +kernel
theorem dX1_distanceTo_7 : decode cX1_distanceTo 7 = .ok (.iload 5, 2) := by decide +kernel
theorem dX1_distanceTo_9 : decode cX1_distanceTo 9 = .ok (.iload 4, 2) := by decide +kernel
theorem dX1_distanceTo_11 : decode cX1_distanceTo 11 = .ok (.if_icmp .ge 23, 3) := by decide +kernel
theorem dX1_distanceTo_14 : decode cX1_distanceTo 14 = .ok (.aload_n 0, 1) := by decide +kernel
theorem dX1_distanceTo_15 : decode cX1_distanceTo 15 = .ok (.aload_n 1, 1) := by decide +kernel
theorem dX1_distanceTo_16 : decode cX1_distanceTo 16 = .ok (.getfield 18, 3) := by decide +kernel
theorem dX1_distanceTo_19 : decode cX1_distanceTo 19 = .ok (.aload_n 2, 1) := by decide +kernel
theorem dX1_distanceTo_20 : decode cX1_distanceTo 20 = .ok (.iload 5, 2) := by decide +kernel
theorem dX1_distanceTo_22 : decode cX1_distanceTo 22 = .ok (.invokevirtual 24, 3) := by decide +kernel
theorem dX1_distanceTo_25 : decode cX1_distanceTo 25 = .ok (.invokevirtual 30, 3) := by decide +kernel
theorem dX1_distanceTo_28 : decode cX1_distanceTo 28 = .ok (.iinc 5 1, 3) := by decide +kernel
theorem dX1_distanceTo_31 : decode cX1_distanceTo 31 = .ok (.goto (-24), 3) := by decide +kernel
theorem dX1_distanceTo_34 : decode cX1_distanceTo 34 = .ok (.aload_n 0, 1) := by decide +kernel
theorem dX1_distanceTo_35 : decode cX1_distanceTo 35 = .ok (.aload_n 1, 1) := by decide +kernel
theorem dX1_distanceTo_36 : decode cX1_distanceTo 36 = .ok (.getfield 18, 3) := by decide +kernel
theorem dX1_distanceTo_39 : decode cX1_distanceTo 39 = .ok (.invokevirtual 34, 3) := by decide +kernel
theorem dX1_distanceTo_42 : decode cX1_distanceTo 42 = .ok (.ireturn, 1) := by decide +kernel
theorem dX1_search_0 : decode cX1_search 0 = .ok (.aload_n 0, 1) := by decide +kernel
theorem dX1_search_1 : decode cX1_search 1 = .ok (.sipush (-1005), 3) := by decide +kernel
theorem dX1_search_4 : decode cX1_search 4 = .ok (.putfield 38, 3) := by decide +kernel
theorem dX1_search_7 : decode cX1_search 7 = .ok (.aload_n 0, 1) := by decide +kernel
theorem dX1_search_8 : decode cX1_search 8 = .ok (.sipush (-1005), 3) := by decide +kernel
theorem dX1_search_11 : decode cX1_search 11 = .ok (.putfield 42, 3) := by decide +kernel
theorem dX1_search_14 : decode cX1_search 14 = .ok (.aload_n 0, 1) := by decide +kernel
theorem dX1_search_15 : decode cX1_search 15 = .ok (.sipush (-1005), 3) := by decide +kernel
theorem dX1_search_18 : decode cX1_search 18 = .ok (.putfield 45, 3) := by decide +kernel
theorem dX1_search_21 : decode cX1_search 21 = .ok (.iconst 0, 1) := by decide +kernel
theorem dX1_search_22 : decode cX1_search 22 = .ok (.istore_n 3, 1) := by decide +kernel
theorem dX1_search_23 : decode cX1_search 23 = .ok (.iload_n 3, 1) := by decide +kernel
theorem dX1_search_24 : decode cX1_search 24 = .ok (.aload_n 2, 1) := by decide +kernel
theorem dX1_search_25 : decode cX1_search 25 = .ok (.getfield 48, 3) := by decide +kernel
theorem dX1_search_28 : decode cX1_search 28 = .ok (.if_icmp .ge 46, 3) := by decide +kernel
theorem dX1_search_31 : decode cX1_search 31 = .ok (.aload_n 0, 1) := by decide +kernel
theorem dX1_search_32 : decode cX1_search 32 = .ok (.aload_n 1, 1) := by decide +kernel
theorem dX1_search_33 : decode cX1_search 33 = .ok (.aload_n 2, 1) := by decide +kernel
theorem dX1_search_34 : decode cX1_search 34 = .ok (.iload_n 3, 1) := by decide +kernel
theorem dX1_search_35 : decode cX1_search 35 = .ok (.invokevirtual 51, 3) := by decide +kernel
theorem dX1_search_38 : decode cX1_search 38 = .ok (.istore 4, 2) := by decide +kernel
theorem dX1_search_40 : decode cX1_search 40 = .ok (.iload 4, 2) := by decide +kernel
theorem dX1_search_42 : decode cX1_search 42 = .ok (.aload_n 0, 1) := by decide +kernel
theorem dX1_search_43 : decode cX1_search 43 = .ok (.getfield 38, 3) := by decide +kernel
theorem dX1_search_46 : decode cX1_search 46 = .ok (.if_icmp .le 22, 3) := by decide +kernel
theorem dX1_search_49 : decode cX1_search 49 = .ok (.aload_n 0, 1) := by decide +kernel
theorem dX1_search_50 : decode cX1_search 50 = .ok (.iload 4, 2) := by decide +kernel
theorem dX1_search_52 : decode cX1_search 52 = .ok (.putfield 38, 3) := by decide +kernel
theorem dX1_search_55 : decode cX1_search 55 = .ok (.aload_n 0, 1) := by decide +kernel
theorem dX1_search_56 : decode cX1_search 56 = .ok (.iload_n 3, 1) := by decide +kernel
theorem dX1_search_57 : decode cX1_search 57 = .ok (.putfield 42, 3) := by decide +kernel
theorem dX1_search_60 : decode cX1_search 60 = .ok (.aload_n 0, 1) := by decide +kernel
theorem dX1_search_61 : decode cX1_search 61 = .ok (.aload_n 0, 1) := by decide +kernel
theorem dX1_search_62 : decode cX1_search 62 = .ok (.getfield 55, 3) := by decide +kernel
theorem dX1_search_65 : decode cX1_search 65 = .ok (.putfield 45, 3) := by decide +kernel
theorem dX1_search_68 : decode cX1_search 68 = .ok (.iinc 3 1, 3) := by decide +kernel
theorem dX1_search_71 : decode cX1_search 71 = .ok (.goto (-48), 3) := by decide +kernel
theorem dX1_search_74 : decode cX1_search 74 = .ok (.return_, 1) := by decide +kernel
theorem dX1_searchAt_0 : decode cX1_searchAt 0 = .ok (.aload_n 1, 1) := by decide +kernel
theorem dX1_searchAt_1 : decode cX1_searchAt 1 = .ok (.getfield 18, 3) := by decide +kernel
theorem dX1_searchAt_4 : decode cX1_searchAt 4 = .ok (.astore 4, 2) := by decide +kernel
theorem dX1_searchAt_6 : decode cX1_searchAt 6 = .ok (.iconst 1, 1) := by decide +kernel
theorem dX1_searchAt_7 : decode cX1_searchAt 7 = .ok (.aload 4, 2) := by decide +kernel
theorem dX1_searchAt_9 : decode cX1_searchAt 9 = .ok (.getfield 48, 3) := by decide +kernel
theorem dX1_searchAt_12 : decode cX1_searchAt 12 = .ok (.iconst 3, 1) := by decide +kernel
theorem dX1_searchAt_13 : decode cX1_searchAt 13 = .ok (.isub, 1) := by decide +kernel
theorem dX1_searchAt_14 : decode cX1_searchAt 14 = .ok (.invokestatic 58, 3) := by decide +kernel
theorem dX1_searchAt_17 : decode cX1_searchAt 17 = .ok (.istore 5, 2) := by decide +kernel
theorem dX1_searchAt_19 : decode cX1_searchAt 19 = .ok (.aload 4, 2) := by decide +kernel
theorem dX1_searchAt_21 : decode cX1_searchAt 21 = .ok (.getfield 48, 3) := by decide +kernel
theorem dX1_searchAt_24 : decode cX1_searchAt 24 = .ok (.iconst 3, 1) := by decide +kernel
theorem dX1_searchAt_25 : decode cX1_searchAt 25 = .ok (.iadd, 1) := by decide +kernel
theorem dX1_searchAt_26 : decode cX1_searchAt 26 = .ok (.aload_n 2, 1) := by decide +kernel
theorem dX1_searchAt_27 : decode cX1_searchAt 27 = .ok (.getfield 48, 3) := by decide +kernel
theorem dX1_searchAt_30 : decode cX1_searchAt 30 = .ok (.iload_n 3, 1) := by decide +kernel
theorem dX1_searchAt_31 : decode cX1_searchAt 31 = .ok (.isub, 1) := by decide +kernel
theorem dX1_searchAt_32 : decode cX1_searchAt 32 = .ok (.invokestatic 64, 3) := by decide +kernel
theorem dX1_searchAt_35 : decode cX1_searchAt 35 = .ok (.istore 6, 2) := by decide +kernel
theorem dX1_searchAt_37 : decode cX1_searchAt 37 = .ok (.sipush (-1005), 3) := by decide +kernel
theorem dX1_searchAt_40 : decode cX1_searchAt 40 = .ok (.istore 7, 2) := by decide +kernel
theorem dX1_searchAt_42 : decode cX1_searchAt 42 = .ok (.aload_n 0, 1) := by decide +kernel
theorem dX1_searchAt_43 : decode cX1_searchAt 43 = .ok (.sipush (-1005), 3) := by decide +kernel
theorem dX1_searchAt_46 : decode cX1_searchAt 46 = .ok (.putfield 55, 3) := by decide +kernel
theorem dX1_searchAt_49 : decode cX1_searchAt 49 = .ok (.aload_n 0, 1) := by decide +kernel
theorem dX1_searchAt_50 : decode cX1_searchAt 50 = .ok (.invokevirtual 15, 3) := by decide +kernel
theorem dX1_searchAt_53 : decode cX1_searchAt 53 = .ok (.iconst 1, 1) := by decide +kernel
theorem dX1_searchAt_54 : decode cX1_searchAt 54 = .ok (.istore 8, 2) := by decide +kernel
theorem dX1_searchAt_56 : decode cX1_searchAt 56 = .ok (.iload 8, 2) := by decide +kernel
theorem dX1_searchAt_58 : decode cX1_searchAt 58 = .ok (.iload 6, 2) := by decide +kernel
theorem dX1_searchAt_60 : decode cX1_searchAt 60 = .ok (.if_icmp .gt 69, 3) := by decide +kernel
theorem dX1_searchAt_63 : decode cX1_searchAt 63 = .ok (.iload_n 3, 1) := by decide +kernel
theorem dX1_searchAt_64 : decode cX1_searchAt 64 = .ok (.iload 8, 2) := by decide +kernel
theorem dX1_searchAt_66 : decode cX1_searchAt 66 = .ok (.iadd, 1) := by decide +kernel
theorem dX1_searchAt_67 : decode cX1_searchAt 67 = .ok (.istore 9, 2) := by decide +kernel
theorem dX1_searchAt_69 : decode cX1_searchAt 69 = .ok (.aload_n 0, 1) := by decide +kernel
theorem dX1_searchAt_70 : decode cX1_searchAt 70 = .ok (.aload 4, 2) := by decide +kernel
theorem dX1_searchAt_72 : decode cX1_searchAt 72 = .ok (.aload_n 2, 1) := by decide +kernel
theorem dX1_searchAt_73 : decode cX1_searchAt 73 = .ok (.iload 9, 2) := by decide +kernel
theorem dX1_searchAt_75 : decode cX1_searchAt 75 = .ok (.iconst 1, 1) := by decide +kernel
theorem dX1_searchAt_76 : decode cX1_searchAt 76 = .ok (.isub, 1) := by decide +kernel
theorem dX1_searchAt_77 : decode cX1_searchAt 77 = .ok (.invokevirtual 24, 3) := by decide +kernel
theorem dX1_searchAt_80 : decode cX1_searchAt 80 = .ok (.invokevirtual 30, 3) := by decide +kernel
theorem dX1_searchAt_83 : decode cX1_searchAt 83 = .ok (.iload 8, 2) := by decide +kernel
theorem dX1_searchAt_85 : decode cX1_searchAt 85 = .ok (.iload 5, 2) := by decide +kernel
theorem dX1_searchAt_87 : decode cX1_searchAt 87 = .ok (.if_icmp .lt 36, 3) := by decide +kernel
theorem dX1_searchAt_90 : decode cX1_searchAt 90 = .ok (.aload_n 1, 1) := by decide +kernel
theorem dX1_searchAt_91 : decode cX1_searchAt 91 = .ok (.aload_n 0, 1) := by decide +kernel
theorem dX1_searchAt_92 : decode cX1_searchAt 92 = .ok (.aload 4, 2) := by decide +kernel
theorem dX1_searchAt_94 : decode cX1_searchAt 94 = .ok (.invokevirtual 34, 3) := by decide +kernel
theorem dX1_searchAt_97 : decode cX1_searchAt 97 = .ok (.aload_n 2, 1) := by decide +kernel
theorem dX1_searchAt_98 : decode cX1_searchAt 98 = .ok (.iload_n 3, 1) := by decide +kernel
theorem dX1_searchAt_99 : decode cX1_searchAt 99 = .ok (.iload 9, 2) := by decide +kernel
theorem dX1_searchAt_101 : decode cX1_searchAt 101 = .ok (.invokevirtual 67, 3) := by decide +kernel
theorem dX1_searchAt_104 : decode cX1_searchAt 104 = .ok (.istore 10, 2) := by decide +kernel
theorem dX1_searchAt_106 : decode cX1_searchAt 106 = .ok (.iload 10, 2) := by decide +kernel
theorem dX1_searchAt_108 : decode cX1_searchAt 108 = .ok (.iload 7, 2) := by decide +kernel
theorem dX1_searchAt_110 : decode cX1_searchAt 110 = .ok (.if_icmp .le 13, 3) := by decide +kernel
theorem dX1_searchAt_113 : decode cX1_searchAt 113 = .ok (.iload 10, 2) := by decide +kernel
theorem dX1_searchAt_115 : decode cX1_searchAt 115 = .ok (.istore 7, 2) := by decide +kernel
theorem dX1_searchAt_117 : decode cX1_searchAt 117 = .ok (.aload_n 0, 1) := by decide +kernel
theorem dX1_searchAt_118 : decode cX1_searchAt 118 = .ok (.iload 9, 2) := by decide +kernel
theorem dX1_searchAt_120 : decode cX1_searchAt 120 = .ok (.putfield 55, 3) := by decide +kernel
theorem dX1_searchAt_123 : decode cX1_searchAt 123 = .ok (.iinc 8 1, 3) := by decide +kernel
theorem dX1_searchAt_126 : decode cX1_searchAt 126 = .ok (.goto (-70), 3) := by decide +kernel
theorem dX1_searchAt_129 : decode cX1_searchAt 129 = .ok (.iload 7, 2) := by decide +kernel
theorem dX1_searchAt_131 : decode cX1_searchAt 131 = .ok (.ireturn, 1) := by decide +kernel
theorem dX1_beginRow_0 : decode cX1_beginRow 0 = .ok (.iconst 0, 1) := by decide +kernel
theorem dX1_beginRow_1 : decode cX1_beginRow 1 = .ok (.istore_n 1, 1) := by decide +kernel
theorem dX1_beginRow_2 : decode cX1_beginRow 2 = .ok (.iload_n 1, 1) := by decide +kernel
theorem dX1_beginRow_3 : decode cX1_beginRow 3 = .ok (.aload_n 0, 1) := by decide +kernel
theorem dX1_beginRow_4 : decode cX1_beginRow 4 = .ok (.getfield 9, 3) := by decide +kernel
theorem dX1_beginRow_7 : decode cX1_beginRow 7 = .ok (.arraylength, 1) := by decide +kernel
theorem dX1_beginRow_8 : decode cX1_beginRow 8 = .ok (.if_icmp .ge 16, 3) := by decide +kernel
theorem dX1_beginRow_11 : decode cX1_beginRow 11 = .ok (.aload_n 0, 1) := by decide +kernel
theorem dX1_beginRow_12 : decode cX1_beginRow 12 = .ok (.getfield 9, 3) := by decide +kernel
theorem dX1_beginRow_15 : decode cX1_beginRow 15 = .ok (.iload_n 1, 1) := by decide +kernel
theorem dX1_beginRow_16 : decode cX1_beginRow 16 = .ok (.iload_n 1, 1) := by decide +kernel
theorem dX1_beginRow_17 : decode cX1_beginRow 17 = .ok (.iastore, 1) := by decide +kernel
theorem dX1_beginRow_18 : decode cX1_beginRow 18 = .ok (.iinc 1 1, 3) := by decide +kernel
theorem dX1_beginRow_21 : decode cX1_beginRow 21 = .ok (.goto (-19), 3) := by decide +kernel
theorem dX1_beginRow_24 : decode cX1_beginRow 24 = .ok (.return_, 1) := by decide +kernel
theorem dX1_takeLetter_0 : decode cX1_takeLetter 0 = .ok (.aload_n 1, 1) := by decide +kernel
theorem dX1_takeLetter_1 : decode cX1_takeLetter 1 = .ok (.getfield 71, 3) := by decide +kernel
theorem dX1_takeLetter_4 : decode cX1_takeLetter 4 = .ok (.astore_n 3, 1) := by decide +kernel
theorem dX1_takeLetter_5 : decode cX1_takeLetter 5 = .ok (.aload_n 1, 1) := by decide +kernel
theorem dX1_takeLetter_6 : decode cX1_takeLetter 6 = .ok (.getfield 48, 3) := by decide +kernel
theorem dX1_takeLetter_9 : decode cX1_takeLetter 9 = .ok (.aload_n 3, 1) := by decide +kernel
theorem dX1_takeLetter_10 : decode cX1_takeLetter 10 = .ok (.arraylength, 1) := by decide +kernel
theorem dX1_takeLetter_11 : decode cX1_takeLetter 11 = .ok (.aload_n 0, 1) := by decide +kernel
theorem dX1_takeLetter_12 : decode cX1_takeLetter 12 = .ok (.getfield 9, 3) := by decide +kernel
theorem dX1_takeLetter_15 : decode cX1_takeLetter 15 = .ok (.arraylength, 1) := by decide +kernel
theorem dX1_takeLetter_16 : decode cX1_takeLetter 16 = .ok (.iconst 1, 1) := by decide +kernel
theorem dX1_takeLetter_17 : decode cX1_takeLetter 17 = .ok (.isub, 1) := by decide +kernel
theorem dX1_takeLetter_18 : decode cX1_takeLetter 18 = .ok (.invokestatic 64, 3) := by decide +kernel
theorem dX1_takeLetter_21 : decode cX1_takeLetter 21 = .ok (.invokestatic 64, 3) := by decide +kernel
theorem dX1_takeLetter_24 : decode cX1_takeLetter 24 = .ok (.istore 4, 2) := by decide +kernel
theorem dX1_takeLetter_26 : decode cX1_takeLetter 26 = .ok (.iload 4, 2) := by decide +kernel
theorem dX1_takeLetter_28 : decode cX1_takeLetter 28 = .ok (.ifCond .ge 4, 3) := by decide +kernel
theorem dX1_takeLetter_31 : decode cX1_takeLetter 31 = .ok (.return_, 1) := by decide +kernel
theorem dX1_takeLetter_32 : decode cX1_takeLetter 32 = .ok (.aload_n 0, 1) := by decide +kernel
theorem dX1_takeLetter_33 : decode cX1_takeLetter 33 = .ok (.getfield 9, 3) := by decide +kernel
theorem dX1_takeLetter_36 : decode cX1_takeLetter 36 = .ok (.iconst 0, 1) := by decide +kernel
theorem dX1_takeLetter_37 : decode cX1_takeLetter 37 = .ok (.iaload, 1) := by decide +kernel
theorem dX1_takeLetter_38 : decode cX1_takeLetter 38 = .ok (.istore 5, 2) := by decide +kernel
theorem dX1_takeLetter_40 : decode cX1_takeLetter 40 = .ok (.iload 5, 2) := by decide +kernel
theorem dX1_takeLetter_42 : decode cX1_takeLetter 42 = .ok (.iconst 1, 1) := by decide +kernel
theorem dX1_takeLetter_43 : decode cX1_takeLetter 43 = .ok (.iadd, 1) := by decide +kernel
theorem dX1_takeLetter_44 : decode cX1_takeLetter 44 = .ok (.istore 6, 2) := by decide +kernel
theorem dX1_takeLetter_46 : decode cX1_takeLetter 46 = .ok (.aload_n 0, 1) := by decide +kernel
theorem dX1_takeLetter_47 : decode cX1_takeLetter 47 = .ok (.getfield 9, 3) := by decide +kernel
theorem dX1_takeLetter_50 : decode cX1_takeLetter 50 = .ok (.iconst 0, 1) := by decide +kernel
theorem dX1_takeLetter_51 : decode cX1_takeLetter 51 = .ok (.iload 6, 2) := by decide +kernel
theorem dX1_takeLetter_53 : decode cX1_takeLetter 53 = .ok (.iastore, 1) := by decide +kernel
theorem dX1_takeLetter_54 : decode cX1_takeLetter 54 = .ok (.iconst 1, 1) := by decide +kernel
theorem dX1_takeLetter_55 : decode cX1_takeLetter 55 = .ok (.istore 7, 2) := by decide +kernel
theorem dX1_takeLetter_57 : decode cX1_takeLetter 57 = .ok (.iload 7, 2) := by decide +kernel
theorem dX1_takeLetter_59 : decode cX1_takeLetter 59 = .ok (.iload 4, 2) := by decide +kernel
theorem dX1_takeLetter_61 : decode cX1_takeLetter 61 = .ok (.if_icmp .gt 68, 3) := by decide +kernel
theorem dX1_takeLetter_64 : decode cX1_takeLetter 64 = .ok (.aload_n 0, 1) := by decide +kernel
theorem dX1_takeLetter_65 : decode cX1_takeLetter 65 = .ok (.getfield 9, 3) := by decide +kernel
theorem dX1_takeLetter_68 : decode cX1_takeLetter 68 = .ok (.iload 7, 2) := by decide +kernel
theorem dX1_takeLetter_70 : decode cX1_takeLetter 70 = .ok (.iaload, 1) := by decide +kernel
theorem dX1_takeLetter_71 : decode cX1_takeLetter 71 = .ok (.istore 8, 2) := by decide +kernel
theorem dX1_takeLetter_73 : decode cX1_takeLetter 73 = .ok (.aload_n 3, 1) := by decide +kernel
theorem dX1_takeLetter_74 : decode cX1_takeLetter 74 = .ok (.iload 7, 2) := by decide +kernel
theorem dX1_takeLetter_76 : decode cX1_takeLetter 76 = .ok (.iconst 1, 1) := by decide +kernel
theorem dX1_takeLetter_77 : decode cX1_takeLetter 77 = .ok (.isub, 1) := by decide +kernel
theorem dX1_takeLetter_78 : decode cX1_takeLetter 78 = .ok (.iaload, 1) := by decide +kernel
theorem dX1_takeLetter_79 : decode cX1_takeLetter 79 = .ok (.iload_n 2, 1) := by decide +kernel
theorem dX1_takeLetter_80 : decode cX1_takeLetter 80 = .ok (.if_icmp .ne 8, 3) := by decide +kernel
theorem dX1_takeLetter_83 : decode cX1_takeLetter 83 = .ok (.iload 5, 2) := by decide +kernel
theorem dX1_takeLetter_85 : decode cX1_takeLetter 85 = .ok (.goto 7, 3) := by decide +kernel
theorem dX1_takeLetter_88 : decode cX1_takeLetter 88 = .ok (.iload 5, 2) := by decide +kernel
theorem dX1_takeLetter_90 : decode cX1_takeLetter 90 = .ok (.iconst 1, 1) := by decide +kernel
theorem dX1_takeLetter_91 : decode cX1_takeLetter 91 = .ok (.iadd, 1) := by decide +kernel
theorem dX1_takeLetter_92 : decode cX1_takeLetter 92 = .ok (.istore 9, 2) := by decide +kernel
theorem dX1_takeLetter_94 : decode cX1_takeLetter 94 = .ok (.iload 9, 2) := by decide +kernel
theorem dX1_takeLetter_96 : decode cX1_takeLetter 96 = .ok (.iconst 1, 1) := by decide +kernel
theorem dX1_takeLetter_97 : decode cX1_takeLetter 97 = .ok (.iload 8, 2) := by decide +kernel
theorem dX1_takeLetter_99 : decode cX1_takeLetter 99 = .ok (.iload 6, 2) := by decide +kernel
theorem dX1_takeLetter_101 : decode cX1_takeLetter 101 = .ok (.invokestatic 64, 3) := by decide +kernel
theorem dX1_takeLetter_104 : decode cX1_takeLetter 104 = .ok (.iadd, 1) := by decide +kernel
theorem dX1_takeLetter_105 : decode cX1_takeLetter 105 = .ok (.invokestatic 64, 3) := by decide +kernel
theorem dX1_takeLetter_108 : decode cX1_takeLetter 108 = .ok (.istore 6, 2) := by decide +kernel
theorem dX1_takeLetter_110 : decode cX1_takeLetter 110 = .ok (.aload_n 0, 1) := by decide +kernel
theorem dX1_takeLetter_111 : decode cX1_takeLetter 111 = .ok (.getfield 9, 3) := by decide +kernel
theorem dX1_takeLetter_114 : decode cX1_takeLetter 114 = .ok (.iload 7, 2) := by decide +kernel
theorem dX1_takeLetter_116 : decode cX1_takeLetter 116 = .ok (.iload 6, 2) := by decide +kernel
theorem dX1_takeLetter_118 : decode cX1_takeLetter 118 = .ok (.iastore, 1) := by decide +kernel
theorem dX1_takeLetter_119 : decode cX1_takeLetter 119 = .ok (.iload 8, 2) := by decide +kernel
theorem dX1_takeLetter_121 : decode cX1_takeLetter 121 = .ok (.istore 5, 2) := by decide +kernel
theorem dX1_takeLetter_123 : decode cX1_takeLetter 123 = .ok (.iinc 7 1, 3) := by decide +kernel
theorem dX1_takeLetter_126 : decode cX1_takeLetter 126 = .ok (.goto (-69), 3) := by decide +kernel
theorem dX1_takeLetter_129 : decode cX1_takeLetter 129 = .ok (.return_, 1) := by decide +kernel
theorem dX1_endOfRow_0 : decode cX1_endOfRow 0 = .ok (.aload_n 1, 1) := by decide +kernel
theorem dX1_endOfRow_1 : decode cX1_endOfRow 1 = .ok (.getfield 48, 3) := by decide +kernel
theorem dX1_endOfRow_4 : decode cX1_endOfRow 4 = .ok (.ifCond .lt 27, 3) := by decide +kernel
theorem dX1_endOfRow_7 : decode cX1_endOfRow 7 = .ok (.aload_n 1, 1) := by decide +kernel
theorem dX1_endOfRow_8 : decode cX1_endOfRow 8 = .ok (.getfield 48, 3) := by decide +kernel
theorem dX1_endOfRow_11 : decode cX1_endOfRow 11 = .ok (.aload_n 0, 1) := by decide +kernel
theorem dX1_endOfRow_12 : decode cX1_endOfRow 12 = .ok (.getfield 9, 3) := by decide +kernel
theorem dX1_endOfRow_15 : decode cX1_endOfRow 15 = .ok (.arraylength, 1) := by decide +kernel
theorem dX1_endOfRow_16 : decode cX1_endOfRow 16 = .ok (.if_icmp .ge 15, 3) := by decide +kernel
theorem dX1_endOfRow_19 : decode cX1_endOfRow 19 = .ok (.aload_n 0, 1) := by decide +kernel
theorem dX1_endOfRow_20 : decode cX1_endOfRow 20 = .ok (.getfield 9, 3) := by decide +kernel
theorem dX1_endOfRow_23 : decode cX1_endOfRow 23 = .ok (.aload_n 1, 1) := by decide +kernel
theorem dX1_endOfRow_24 : decode cX1_endOfRow 24 = .ok (.getfield 48, 3) := by decide +kernel
theorem dX1_endOfRow_27 : decode cX1_endOfRow 27 = .ok (.iaload, 1) := by decide +kernel
theorem dX1_endOfRow_28 : decode cX1_endOfRow 28 = .ok (.goto 4, 3) := by decide +kernel
theorem dX1_endOfRow_31 : decode cX1_endOfRow 31 = .ok (.iconst 0, 1) := by decide +kernel
theorem dX1_endOfRow_32 : decode cX1_endOfRow 32 = .ok (.ireturn, 1) := by decide +kernel
theorem dX2_init_0 : decode cX2_init 0 = .ok (.aload_n 0, 1) := by decide +kernel
theorem dX2_init_1 : decode cX2_init 1 = .ok (.invokespecial 3, 3) := by decide +kernel
theorem dX2_init_4 : decode cX2_init 4 = .ok (.aload_n 0, 1) := by decide +kernel
theorem dX2_init_5 : decode cX2_init 5 = .ok (.bipush 6, 2) := by decide +kernel
theorem dX2_init_7 : decode cX2_init 7 = .ok (.anewarray 9, 3) := by decide +kernel
theorem dX2_init_10 : decode cX2_init 10 = .ok (.putfield 11, 3) := by decide +kernel
theorem dX2_init_13 : decode cX2_init 13 = .ok (.iconst 0, 1) := by decide +kernel
theorem dX2_init_14 : decode cX2_init 14 = .ok (.istore_n 1, 1) := by decide +kernel
theorem dX2_init_15 : decode cX2_init 15 = .ok (.iload_n 1, 1) := by decide +kernel
theorem dX2_init_16 : decode cX2_init 16 = .ok (.aload_n 0, 1) := by decide +kernel
theorem dX2_init_17 : decode cX2_init 17 = .ok (.getfield 11, 3) := by decide +kernel
theorem dX2_init_20 : decode cX2_init 20 = .ok (.arraylength, 1) := by decide +kernel
theorem dX2_init_21 : decode cX2_init 21 = .ok (.if_icmp .ge 22, 3) := by decide +kernel
theorem dX2_init_24 : decode cX2_init 24 = .ok (.aload_n 0, 1) := by decide +kernel
theorem dX2_init_25 : decode cX2_init 25 = .ok (.getfield 11, 3) := by decide +kernel
theorem dX2_init_28 : decode cX2_init 28 = .ok (.iload_n 1, 1) := by decide +kernel
theorem dX2_init_29 : decode cX2_init 29 = .ok (.new 9, 3) := by decide +kernel
theorem dX2_init_32 : decode cX2_init 32 = .ok (.dup, 1) := by decide +kernel
theorem dX2_init_33 : decode cX2_init 33 = .ok (.invokespecial 17, 3) := by decide +kernel
theorem dX2_init_36 : decode cX2_init 36 = .ok (.aastore, 1) := by decide +kernel
theorem dX2_init_37 : decode cX2_init 37 = .ok (.iinc 1 1, 3) := by decide +kernel
theorem dX2_init_40 : decode cX2_init 40 = .ok (.goto (-25), 3) := by decide +kernel
theorem dX2_init_43 : decode cX2_init 43 = .ok (.return_, 1) := by decide +kernel
theorem dX2_record_0 : decode cX2_record 0 = .ok (.aload_n 0, 1) := by decide +kernel
theorem dX2_record_1 : decode cX2_record 1 = .ok (.getfield 18, 3) := by decide +kernel
theorem dX2_record_4 : decode cX2_record 4 = .ok (.aload_n 0, 1) := by decide +kernel
theorem dX2_record_5 : decode cX2_record 5 = .ok (.getfield 11, 3) := by decide +kernel
theorem dX2_record_8 : decode cX2_record 8 = .ok (.arraylength, 1) := by decide +kernel
theorem dX2_record_9 : decode cX2_record 9 = .ok (.if_icmp .lt 7, 3) := by decide +kernel
theorem dX2_record_12 : decode cX2_record 12 = .ok (.aload_n 0, 1) := by decide +kernel
theorem dX2_record_13 : decode cX2_record 13 = .ok (.invokevirtual 22, 3) := by decide +kernel
theorem dX2_record_16 : decode cX2_record 16 = .ok (.aload_n 0, 1) := by decide +kernel
theorem dX2_record_17 : decode cX2_record 17 = .ok (.getfield 18, 3) := by decide +kernel
theorem dX2_record_20 : decode cX2_record 20 = .ok (.ifCond .lt 38, 3) := by decide +kernel
theorem dX2_record_23 : decode cX2_record 23 = .ok (.aload_n 0, 1) := by decide +kernel
theorem dX2_record_24 : decode cX2_record 24 = .ok (.getfield 18, 3) := by decide +kernel
theorem dX2_record_27 : decode cX2_record 27 = .ok (.aload_n 0, 1) := by decide +kernel
theorem dX2_record_28 : decode cX2_record 28 = .ok (.getfield 11, 3) := by decide +kernel
theorem dX2_record_31 : decode cX2_record 31 = .ok (.arraylength, 1) := by decide +kernel
theorem dX2_record_32 : decode cX2_record 32 = .ok (.if_icmp .ge 26, 3) := by decide +kernel
theorem dX2_record_35 : decode cX2_record 35 = .ok (.aload_n 0, 1) := by decide +kernel
theorem dX2_record_36 : decode cX2_record 36 = .ok (.getfield 11, 3) := by decide +kernel
theorem dX2_record_39 : decode cX2_record 39 = .ok (.aload_n 0, 1) := by decide +kernel
theorem dX2_record_40 : decode cX2_record 40 = .ok (.getfield 18, 3) := by decide +kernel
theorem dX2_record_43 : decode cX2_record 43 = .ok (.aaload, 1) := by decide +kernel
theorem dX2_record_44 : decode cX2_record 44 = .ok (.aload_n 1, 1) := by decide +kernel
theorem dX2_record_45 : decode cX2_record 45 = .ok (.invokevirtual 25, 3) := by decide +kernel
theorem dX2_record_48 : decode cX2_record 48 = .ok (.aload_n 0, 1) := by decide +kernel
theorem dX2_record_49 : decode cX2_record 49 = .ok (.dup, 1) := by decide +kernel
theorem dX2_record_50 : decode cX2_record 50 = .ok (.getfield 18, 3) := by decide +kernel
theorem dX2_record_53 : decode cX2_record 53 = .ok (.iconst 1, 1) := by decide +kernel
theorem dX2_record_54 : decode cX2_record 54 = .ok (.iadd, 1) := by decide +kernel
theorem dX2_record_55 : decode cX2_record 55 = .ok (.putfield 18, 3) := by decide +kernel
theorem dX2_record_58 : decode cX2_record 58 = .ok (.return_, 1) := by decide +kernel
theorem dX2_dropOldest_0 : decode cX2_dropOldest 0 = .ok (.iconst 1, 1) := by decide +kernel
theorem dX2_dropOldest_1 : decode cX2_dropOldest 1 = .ok (.istore_n 1, 1) := by decide +kernel
theorem dX2_dropOldest_2 : decode cX2_dropOldest 2 = .ok (.iload_n 1, 1) := by decide +kernel
theorem dX2_dropOldest_3 : decode cX2_dropOldest 3 = .ok (.aload_n 0, 1) := by decide +kernel
theorem dX2_dropOldest_4 : decode cX2_dropOldest 4 = .ok (.getfield 11, 3) := by decide +kernel
theorem dX2_dropOldest_7 : decode cX2_dropOldest 7 = .ok (.arraylength, 1) := by decide +kernel
theorem dX2_dropOldest_8 : decode cX2_dropOldest 8 = .ok (.if_icmp .ge 39, 3) := by decide +kernel
theorem dX2_dropOldest_11 : decode cX2_dropOldest 11 = .ok (.aload_n 0, 1) := by decide +kernel
theorem dX2_dropOldest_12 : decode cX2_dropOldest 12 = .ok (.getfield 11, 3) := by decide +kernel
theorem dX2_dropOldest_15 : decode cX2_dropOldest 15 = .ok (.iload_n 1, 1) := by decide +kernel
theorem dX2_dropOldest_16 : decode cX2_dropOldest 16 = .ok (.iconst 1, 1) := by decide +kernel
theorem dX2_dropOldest_17 : decode cX2_dropOldest 17 = .ok (.isub, 1) := by decide +kernel
theorem dX2_dropOldest_18 : decode cX2_dropOldest 18 = .ok (.aaload, 1) := by decide +kernel
theorem dX2_dropOldest_19 : decode cX2_dropOldest 19 = .ok (.astore_n 2, 1) := by decide +kernel
theorem dX2_dropOldest_20 : decode cX2_dropOldest 20 = .ok (.aload_n 0, 1) := by decide +kernel
theorem dX2_dropOldest_21 : decode cX2_dropOldest 21 = .ok (.getfield 11, 3) := by decide +kernel
theorem dX2_dropOldest_24 : decode cX2_dropOldest 24 = .ok (.iload_n 1, 1) := by decide +kernel
theorem dX2_dropOldest_25 : decode cX2_dropOldest 25 = .ok (.iconst 1, 1) := by decide +kernel
theorem dX2_dropOldest_26 : decode cX2_dropOldest 26 = .ok (.isub, 1) := by decide +kernel
theorem dX2_dropOldest_27 : decode cX2_dropOldest 27 = .ok (.aload_n 0, 1) := by decide +kernel
theorem dX2_dropOldest_28 : decode cX2_dropOldest 28 = .ok (.getfield 11, 3) := by decide +kernel
theorem dX2_dropOldest_31 : decode cX2_dropOldest 31 = .ok (.iload_n 1, 1) := by decide +kernel
theorem dX2_dropOldest_32 : decode cX2_dropOldest 32 = .ok (.aaload, 1) := by decide +kernel
theorem dX2_dropOldest_33 : decode cX2_dropOldest 33 = .ok (.aastore, 1) := by decide +kernel
theorem dX2_dropOldest_34 : decode cX2_dropOldest 34 = .ok (.aload_n 0, 1) := by decide +kernel
theorem dX2_dropOldest_35 : decode cX2_dropOldest 35 = .ok (.getfield 11, 3) := by decide +kernel
theorem dX2_dropOldest_38 : decode cX2_dropOldest 38 = .ok (.iload_n 1, 1) := by decide +kernel
theorem dX2_dropOldest_39 : decode cX2_dropOldest 39 = .ok (.aload_n 2, 1) := by decide +kernel
theorem dX2_dropOldest_40 : decode cX2_dropOldest 40 = .ok (.aastore, 1) := by decide +kernel
theorem dX2_dropOldest_41 : decode cX2_dropOldest 41 = .ok (.iinc 1 1, 3) := by decide +kernel
theorem dX2_dropOldest_44 : decode cX2_dropOldest 44 = .ok (.goto (-42), 3) := by decide +kernel
theorem dX2_dropOldest_47 : decode cX2_dropOldest 47 = .ok (.aload_n 0, 1) := by decide +kernel
theorem dX2_dropOldest_48 : decode cX2_dropOldest 48 = .ok (.aload_n 0, 1) := by decide +kernel
theorem dX2_dropOldest_49 : decode cX2_dropOldest 49 = .ok (.getfield 11, 3) := by decide +kernel
theorem dX2_dropOldest_52 : decode cX2_dropOldest 52 = .ok (.arraylength, 1) := by decide +kernel
theorem dX2_dropOldest_53 : decode cX2_dropOldest 53 = .ok (.iconst 1, 1) := by decide +kernel
theorem dX2_dropOldest_54 : decode cX2_dropOldest 54 = .ok (.isub, 1) := by decide +kernel
theorem dX2_dropOldest_55 : decode cX2_dropOldest 55 = .ok (.putfield 18, 3) := by decide +kernel
theorem dX2_dropOldest_58 : decode cX2_dropOldest 58 = .ok (.return_, 1) := by decide +kernel
theorem dX2_stepBack_0 : decode cX2_stepBack 0 = .ok (.aload_n 0, 1) := by decide +kernel
theorem dX2_stepBack_1 : decode cX2_stepBack 1 = .ok (.getfield 18, 3) := by decide +kernel
theorem dX2_stepBack_4 : decode cX2_stepBack 4 = .ok (.ifCond .le 38, 3) := by decide +kernel
theorem dX2_stepBack_7 : decode cX2_stepBack 7 = .ok (.aload_n 0, 1) := by decide +kernel
theorem dX2_stepBack_8 : decode cX2_stepBack 8 = .ok (.getfield 18, 3) := by decide +kernel
theorem dX2_stepBack_11 : decode cX2_stepBack 11 = .ok (.aload_n 0, 1) := by decide +kernel
theorem dX2_stepBack_12 : decode cX2_stepBack 12 = .ok (.getfield 11, 3) := by decide +kernel
theorem dX2_stepBack_15 : decode cX2_stepBack 15 = .ok (.arraylength, 1) := by decide +kernel
theorem dX2_stepBack_16 : decode cX2_stepBack 16 = .ok (.if_icmp .gt 26, 3) := by decide +kernel
theorem dX2_stepBack_19 : decode cX2_stepBack 19 = .ok (.aload_n 0, 1) := by decide +kernel
theorem dX2_stepBack_20 : decode cX2_stepBack 20 = .ok (.dup, 1) := by decide +kernel
theorem dX2_stepBack_21 : decode cX2_stepBack 21 = .ok (.getfield 18, 3) := by decide +kernel
theorem dX2_stepBack_24 : decode cX2_stepBack 24 = .ok (.iconst 1, 1) := by decide +kernel
theorem dX2_stepBack_25 : decode cX2_stepBack 25 = .ok (.isub, 1) := by decide +kernel
theorem dX2_stepBack_26 : decode cX2_stepBack 26 = .ok (.putfield 18, 3) := by decide +kernel
theorem dX2_stepBack_29 : decode cX2_stepBack 29 = .ok (.aload_n 1, 1) := by decide +kernel
theorem dX2_stepBack_30 : decode cX2_stepBack 30 = .ok (.aload_n 0, 1) := by decide +kernel
theorem dX2_stepBack_31 : decode cX2_stepBack 31 = .ok (.getfield 11, 3) := by decide +kernel
theorem dX2_stepBack_34 : decode cX2_stepBack 34 = .ok (.aload_n 0, 1) := by decide +kernel
theorem dX2_stepBack_35 : decode cX2_stepBack 35 = .ok (.getfield 18, 3) := by decide +kernel
theorem dX2_stepBack_38 : decode cX2_stepBack 38 = .ok (.aaload, 1) := by decide +kernel
theorem dX2_stepBack_39 : decode cX2_stepBack 39 = .ok (.invokevirtual 25, 3) := by decide +kernel
theorem dX2_stepBack_42 : decode cX2_stepBack 42 = .ok (.return_, 1) := by decide +kernel
theorem dX3_init_0 : decode cX3_init 0 = .ok (.aload_n 0, 1) := by decide +kernel
theorem dX3_init_1 : decode cX3_init 1 = .ok (.invokespecial 3, 3) := by decide +kernel
theorem dX3_init_4 : decode cX3_init 4 = .ok (.aload_n 0, 1) := by decide +kernel
theorem dX3_init_5 : decode cX3_init 5 = .ok (.new 9, 3) := by decide +kernel
theorem dX3_init_8 : decode cX3_init 8 = .ok (.dup, 1) := by decide +kernel
theorem dX3_init_9 : decode cX3_init 9 = .ok (.bipush 6, 2) := by decide +kernel
theorem dX3_init_11 : decode cX3_init 11 = .ok (.invokespecial 11, 3) := by decide +kernel
theorem dX3_init_14 : decode cX3_init 14 = .ok (.putfield 14, 3) := by decide +kernel
theorem dX3_init_17 : decode cX3_init 17 = .ok (.aload_n 0, 1) := by decide +kernel
theorem dX3_init_18 : decode cX3_init 18 = .ok (.new 9, 3) := by decide +kernel
theorem dX3_init_21 : decode cX3_init 21 = .ok (.dup, 1) := by decide +kernel
theorem dX3_init_22 : decode cX3_init 22 = .ok (.bipush 16, 2) := by decide +kernel
theorem dX3_init_24 : decode cX3_init 24 = .ok (.invokespecial 11, 3) := by decide +kernel
theorem dX3_init_27 : decode cX3_init 27 = .ok (.putfield 20, 3) := by decide +kernel
theorem dX3_init_30 : decode cX3_init 30 = .ok (.aload_n 0, 1) := by decide +kernel
theorem dX3_init_31 : decode cX3_init 31 = .ok (.new 9, 3) := by decide +kernel
theorem dX3_init_34 : decode cX3_init 34 = .ok (.dup, 1) := by decide +kernel
theorem dX3_init_35 : decode cX3_init 35 = .ok (.bipush 6, 2) := by decide +kernel
theorem dX3_init_37 : decode cX3_init 37 = .ok (.invokespecial 11, 3) := by decide +kernel
theorem dX3_init_40 : decode cX3_init 40 = .ok (.putfield 23, 3) := by decide +kernel
theorem dX3_init_43 : decode cX3_init 43 = .ok (.return_, 1) := by decide +kernel
theorem dX3_become_0 : decode cX3_become 0 = .ok (.aload_n 0, 1) := by decide +kernel
theorem dX3_become_1 : decode cX3_become 1 = .ok (.getfield 14, 3) := by decide +kernel
theorem dX3_become_4 : decode cX3_become 4 = .ok (.aload_n 1, 1) := by decide +kernel
theorem dX3_become_5 : decode cX3_become 5 = .ok (.getfield 14, 3) := by decide +kernel
theorem dX3_become_8 : decode cX3_become 8 = .ok (.invokevirtual 26, 3) := by decide +kernel
theorem dX3_become_11 : decode cX3_become 11 = .ok (.aload_n 0, 1) := by decide +kernel
theorem dX3_become_12 : decode cX3_become 12 = .ok (.getfield 20, 3) := by decide +kernel
theorem dX3_become_15 : decode cX3_become 15 = .ok (.aload_n 1, 1) := by decide +kernel
theorem dX3_become_16 : decode cX3_become 16 = .ok (.getfield 20, 3) := by decide +kernel
theorem dX3_become_19 : decode cX3_become 19 = .ok (.invokevirtual 26, 3) := by decide +kernel
theorem dX3_become_22 : decode cX3_become 22 = .ok (.aload_n 0, 1) := by decide +kernel
theorem dX3_become_23 : decode cX3_become 23 = .ok (.getfield 23, 3) := by decide +kernel
theorem dX3_become_26 : decode cX3_become 26 = .ok (.aload_n 1, 1) := by decide +kernel
theorem dX3_become_27 : decode cX3_become 27 = .ok (.getfield 23, 3) := by decide +kernel
theorem dX3_become_30 : decode cX3_become 30 = .ok (.invokevirtual 26, 3) := by decide +kernel
theorem dX3_become_33 : decode cX3_become 33 = .ok (.aload_n 0, 1) := by decide +kernel
theorem dX3_become_34 : decode cX3_become 34 = .ok (.aload_n 1, 1) := by decide +kernel
theorem dX3_become_35 : decode cX3_become 35 = .ok (.getfield 30, 3) := by decide +kernel
theorem dX3_become_38 : decode cX3_become 38 = .ok (.putfield 30, 3) := by decide +kernel
theorem dX3_become_41 : decode cX3_become 41 = .ok (.aload_n 0, 1) := by decide +kernel
theorem dX3_become_42 : decode cX3_become 42 = .ok (.aload_n 1, 1) := by decide +kernel
theorem dX3_become_43 : decode cX3_become 43 = .ok (.getfield 34, 3) := by decide +kernel
theorem dX3_become_46 : decode cX3_become 46 = .ok (.putfield 34, 3) := by decide +kernel
theorem dX3_become_49 : decode cX3_become 49 = .ok (.aload_n 0, 1) := by decide +kernel
theorem dX3_become_50 : decode cX3_become 50 = .ok (.aload_n 1, 1) := by decide +kernel
theorem dX3_become_51 : decode cX3_become 51 = .ok (.getfield 37, 3) := by decide +kernel
theorem dX3_become_54 : decode cX3_become 54 = .ok (.putfield 37, 3) := by decide +kernel
theorem dX3_become_57 : decode cX3_become 57 = .ok (.aload_n 0, 1) := by decide +kernel
theorem dX3_become_58 : decode cX3_become 58 = .ok (.aload_n 1, 1) := by decide +kernel
theorem dX3_become_59 : decode cX3_become 59 = .ok (.getfield 40, 3) := by decide +kernel
theorem dX3_become_62 : decode cX3_become 62 = .ok (.putfield 40, 3) := by decide +kernel
theorem dX3_become_65 : decode cX3_become 65 = .ok (.aload_n 0, 1) := by decide +kernel
theorem dX3_become_66 : decode cX3_become 66 = .ok (.aload_n 1, 1) := by decide +kernel
theorem dX3_become_67 : decode cX3_become 67 = .ok (.getfield 43, 3) := by decide +kernel
theorem dX3_become_70 : decode cX3_become 70 = .ok (.putfield 43, 3) := by decide +kernel
theorem dX3_become_73 : decode cX3_become 73 = .ok (.return_, 1) := by decide +kernel
theorem dX3_begin_0 : decode cX3_begin 0 = .ok (.aload_n 0, 1) := by decide +kernel
theorem dX3_begin_1 : decode cX3_begin 1 = .ok (.iload_n 1, 1) := by decide +kernel
theorem dX3_begin_2 : decode cX3_begin 2 = .ok (.putfield 30, 3) := by decide +kernel
theorem dX3_begin_5 : decode cX3_begin 5 = .ok (.aload_n 0, 1) := by decide +kernel
theorem dX3_begin_6 : decode cX3_begin 6 = .ok (.iconst 1, 1) := by decide +kernel
theorem dX3_begin_7 : decode cX3_begin 7 = .ok (.putfield 43, 3) := by decide +kernel
theorem dX3_begin_10 : decode cX3_begin 10 = .ok (.aload_n 0, 1) := by decide +kernel
theorem dX3_begin_11 : decode cX3_begin 11 = .ok (.iload_n 2, 1) := by decide +kernel
theorem dX3_begin_12 : decode cX3_begin 12 = .ok (.iload_n 3, 1) := by decide +kernel
theorem dX3_begin_13 : decode cX3_begin 13 = .ok (.invokevirtual 46, 3) := by decide +kernel
theorem dX3_begin_16 : decode cX3_begin 16 = .ok (.aload_n 0, 1) := by decide +kernel
theorem dX3_begin_17 : decode cX3_begin 17 = .ok (.aload 4, 2) := by decide +kernel
theorem dX3_begin_19 : decode cX3_begin 19 = .ok (.invokevirtual 50, 3) := by decide +kernel
theorem dX3_begin_22 : decode cX3_begin 22 = .ok (.return_, 1) := by decide +kernel
theorem dX3_attachTo_0 : decode cX3_attachTo 0 = .ok (.aload_n 0, 1) := by decide +kernel
theorem dX3_attachTo_1 : decode cX3_attachTo 1 = .ok (.iload_n 1, 1) := by decide +kernel
theorem dX3_attachTo_2 : decode cX3_attachTo 2 = .ok (.putfield 37, 3) := by decide +kernel
theorem dX3_attachTo_5 : decode cX3_attachTo 5 = .ok (.aload_n 0, 1) := by decide +kernel
theorem dX3_attachTo_6 : decode cX3_attachTo 6 = .ok (.iload_n 2, 1) := by decide +kernel
theorem dX3_attachTo_7 : decode cX3_attachTo 7 = .ok (.putfield 40, 3) := by decide +kernel
theorem dX3_attachTo_10 : decode cX3_attachTo 10 = .ok (.aload_n 0, 1) := by decide +kernel
theorem dX3_attachTo_11 : decode cX3_attachTo 11 = .ok (.iconst 1, 1) := by decide +kernel
theorem dX3_attachTo_12 : decode cX3_attachTo 12 = .ok (.putfield 34, 3) := by decide +kernel
theorem dX3_attachTo_15 : decode cX3_attachTo 15 = .ok (.return_, 1) := by decide +kernel
theorem dX3_quoteFrom_0 : decode cX3_quoteFrom 0 = .ok (.aload_n 0, 1) := by decide +kernel
theorem dX3_quoteFrom_1 : decode cX3_quoteFrom 1 = .ok (.getfield 14, 3) := by decide +kernel
theorem dX3_quoteFrom_4 : decode cX3_quoteFrom 4 = .ok (.aload_n 1, 1) := by decide +kernel
theorem dX3_quoteFrom_5 : decode cX3_quoteFrom 5 = .ok (.aload_n 0, 1) := by decide +kernel
theorem dX3_quoteFrom_6 : decode cX3_quoteFrom 6 = .ok (.getfield 37, 3) := by decide +kernel
theorem dX3_quoteFrom_9 : decode cX3_quoteFrom 9 = .ok (.bipush 6, 2) := by decide +kernel
theorem dX3_quoteFrom_11 : decode cX3_quoteFrom 11 = .ok (.isub, 1) := by decide +kernel
theorem dX3_quoteFrom_12 : decode cX3_quoteFrom 12 = .ok (.aload_n 0, 1) := by decide +kernel
theorem dX3_quoteFrom_13 : decode cX3_quoteFrom 13 = .ok (.getfield 37, 3) := by decide +kernel
theorem dX3_quoteFrom_16 : decode cX3_quoteFrom 16 = .ok (.invokevirtual 53, 3) := by decide +kernel
theorem dX3_quoteFrom_19 : decode cX3_quoteFrom 19 = .ok (.aload_n 0, 1) := by decide +kernel
theorem dX3_quoteFrom_20 : decode cX3_quoteFrom 20 = .ok (.getfield 20, 3) := by decide +kernel
theorem dX3_quoteFrom_23 : decode cX3_quoteFrom 23 = .ok (.aload_n 1, 1) := by decide +kernel
theorem dX3_quoteFrom_24 : decode cX3_quoteFrom 24 = .ok (.aload_n 0, 1) := by decide +kernel
theorem dX3_quoteFrom_25 : decode cX3_quoteFrom 25 = .ok (.getfield 37, 3) := by decide +kernel
theorem dX3_quoteFrom_28 : decode cX3_quoteFrom 28 = .ok (.aload_n 0, 1) := by decide +kernel
theorem dX3_quoteFrom_29 : decode cX3_quoteFrom 29 = .ok (.getfield 40, 3) := by decide +kernel
theorem dX3_quoteFrom_32 : decode cX3_quoteFrom 32 = .ok (.invokevirtual 53, 3) := by decide +kernel
theorem dX3_quoteFrom_35 : decode cX3_quoteFrom 35 = .ok (.aload_n 0, 1) := by decide +kernel
theorem dX3_quoteFrom_36 : decode cX3_quoteFrom 36 = .ok (.getfield 23, 3) := by decide +kernel
theorem dX3_quoteFrom_39 : decode cX3_quoteFrom 39 = .ok (.aload_n 1, 1) := by decide +kernel
theorem dX3_quoteFrom_40 : decode cX3_quoteFrom 40 = .ok (.aload_n 0, 1) := by decide +kernel
theorem dX3_quoteFrom_41 : decode cX3_quoteFrom 41 = .ok (.getfield 40, 3) := by decide +kernel
theorem dX3_quoteFrom_44 : decode cX3_quoteFrom 44 = .ok (.aload_n 0, 1) := by decide +kernel
theorem dX3_quoteFrom_45 : decode cX3_quoteFrom 45 = .ok (.getfield 40, 3) := by decide +kernel
theorem dX3_quoteFrom_48 : decode cX3_quoteFrom 48 = .ok (.bipush 6, 2) := by decide +kernel
theorem dX3_quoteFrom_50 : decode cX3_quoteFrom 50 = .ok (.iadd, 1) := by decide +kernel
theorem dX3_quoteFrom_51 : decode cX3_quoteFrom 51 = .ok (.invokevirtual 53, 3) := by decide +kernel
theorem dX3_quoteFrom_54 : decode cX3_quoteFrom 54 = .ok (.return_, 1) := by decide +kernel
theorem dX3_moveForInsert_0 : decode cX3_moveForInsert 0 = .ok (.aload_n 0, 1) := by decide +kernel
theorem dX3_moveForInsert_1 : decode cX3_moveForInsert 1 = .ok (.getfield 37, 3) := by decide +kernel
theorem dX3_moveForInsert_4 : decode cX3_moveForInsert 4 = .ok (.iload_n 1, 1) := by decide +kernel
theorem dX3_moveForInsert_5 : decode cX3_moveForInsert 5 = .ok (.if_icmp .lt 26, 3) := by decide +kernel
theorem dX3_moveForInsert_8 : decode cX3_moveForInsert 8 = .ok (.aload_n 0, 1) := by decide +kernel
theorem dX3_moveForInsert_9 : decode cX3_moveForInsert 9 = .ok (.dup, 1) := by decide +kernel
theorem dX3_moveForInsert_10 : decode cX3_moveForInsert 10 = .ok (.getfield 37, 3) := by decide +kernel
theorem dX3_moveForInsert_13 : decode cX3_moveForInsert 13 = .ok (.iload_n 2, 1) := by decide +kernel
theorem dX3_moveForInsert_14 : decode cX3_moveForInsert 14 = .ok (.iadd, 1) := by decide +kernel
theorem dX3_moveForInsert_15 : decode cX3_moveForInsert 15 = .ok (.putfield 37, 3) := by decide +kernel
theorem dX3_moveForInsert_18 : decode cX3_moveForInsert 18 = .ok (.aload_n 0, 1) := by decide +kernel
theorem dX3_moveForInsert_19 : decode cX3_moveForInsert 19 = .ok (.dup, 1) := by decide +kernel
theorem dX3_moveForInsert_20 : decode cX3_moveForInsert 20 = .ok (.getfield 40, 3) := by decide +kernel
theorem dX3_moveForInsert_23 : decode cX3_moveForInsert 23 = .ok (.iload_n 2, 1) := by decide +kernel
theorem dX3_moveForInsert_24 : decode cX3_moveForInsert 24 = .ok (.iadd, 1) := by decide +kernel
theorem dX3_moveForInsert_25 : decode cX3_moveForInsert 25 = .ok (.putfield 40, 3) := by decide +kernel
theorem dX3_moveForInsert_28 : decode cX3_moveForInsert 28 = .ok (.goto 21, 3) := by decide +kernel
theorem dX3_moveForInsert_31 : decode cX3_moveForInsert 31 = .ok (.aload_n 0, 1) := by decide +kernel
theorem dX3_moveForInsert_32 : decode cX3_moveForInsert 32 = .ok (.getfield 40, 3) := by decide +kernel
theorem dX3_moveForInsert_35 : decode cX3_moveForInsert 35 = .ok (.iload_n 1, 1) := by decide +kernel
theorem dX3_moveForInsert_36 : decode cX3_moveForInsert 36 = .ok (.if_icmp .le 13, 3) := by decide +kernel
theorem dX3_moveForInsert_39 : decode cX3_moveForInsert 39 = .ok (.aload_n 0, 1) := by decide +kernel
theorem dX3_moveForInsert_40 : decode cX3_moveForInsert 40 = .ok (.dup, 1) := by decide +kernel
theorem dX3_moveForInsert_41 : decode cX3_moveForInsert 41 = .ok (.getfield 40, 3) := by decide +kernel
theorem dX3_moveForInsert_44 : decode cX3_moveForInsert 44 = .ok (.iload_n 2, 1) := by decide +kernel
theorem dX3_moveForInsert_45 : decode cX3_moveForInsert 45 = .ok (.iadd, 1) := by decide +kernel
theorem dX3_moveForInsert_46 : decode cX3_moveForInsert 46 = .ok (.putfield 40, 3) := by decide +kernel
theorem dX3_moveForInsert_49 : decode cX3_moveForInsert 49 = .ok (.return_, 1) := by decide +kernel
theorem dX3_moveForDelete_0 : decode cX3_moveForDelete 0 = .ok (.aload_n 0, 1) := by decide +kernel
theorem dX3_moveForDelete_1 : decode cX3_moveForDelete 1 = .ok (.aload_n 0, 1) := by decide +kernel
theorem dX3_moveForDelete_2 : decode cX3_moveForDelete 2 = .ok (.getfield 37, 3) := by decide +kernel
theorem dX3_moveForDelete_5 : decode cX3_moveForDelete 5 = .ok (.iload_n 1, 1) := by decide +kernel
theorem dX3_moveForDelete_6 : decode cX3_moveForDelete 6 = .ok (.iload_n 2, 1) := by decide +kernel
theorem dX3_moveForDelete_7 : decode cX3_moveForDelete 7 = .ok (.invokestatic 57, 3) := by decide +kernel
theorem dX3_moveForDelete_10 : decode cX3_moveForDelete 10 = .ok (.putfield 37, 3) := by decide +kernel
theorem dX3_moveForDelete_13 : decode cX3_moveForDelete 13 = .ok (.aload_n 0, 1) := by decide +kernel
theorem dX3_moveForDelete_14 : decode cX3_moveForDelete 14 = .ok (.aload_n 0, 1) := by decide +kernel
theorem dX3_moveForDelete_15 : decode cX3_moveForDelete 15 = .ok (.getfield 40, 3) := by decide +kernel
theorem dX3_moveForDelete_18 : decode cX3_moveForDelete 18 = .ok (.iload_n 1, 1) := by decide +kernel
theorem dX3_moveForDelete_19 : decode cX3_moveForDelete 19 = .ok (.iload_n 2, 1) := by decide +kernel
theorem dX3_moveForDelete_20 : decode cX3_moveForDelete 20 = .ok (.invokestatic 57, 3) := by decide +kernel
theorem dX3_moveForDelete_23 : decode cX3_moveForDelete 23 = .ok (.putfield 40, 3) := by decide +kernel
theorem dX3_moveForDelete_26 : decode cX3_moveForDelete 26 = .ok (.aload_n 0, 1) := by decide +kernel
theorem dX3_moveForDelete_27 : decode cX3_moveForDelete 27 = .ok (.getfield 34, 3) := by decide +kernel
theorem dX3_moveForDelete_30 : decode cX3_moveForDelete 30 = .ok (.ifCond .eq 14, 3) := by decide +kernel
theorem dX3_moveForDelete_33 : decode cX3_moveForDelete 33 = .ok (.aload_n 0, 1) := by decide +kernel
theorem dX3_moveForDelete_34 : decode cX3_moveForDelete 34 = .ok (.getfield 37, 3) := by decide +kernel
theorem dX3_moveForDelete_37 : decode cX3_moveForDelete 37 = .ok (.aload_n 0, 1) := by decide +kernel
theorem dX3_moveForDelete_38 : decode cX3_moveForDelete 38 = .ok (.getfield 40, 3) := by decide +kernel
theorem dX3_moveForDelete_41 : decode cX3_moveForDelete 41 = .ok (.if_icmp .ge 5, 3) := by decide +kernel
theorem dX3_moveForDelete_44 : decode cX3_moveForDelete 44 = .ok (.iconst 0, 1) := by decide +kernel
theorem dX3_moveForDelete_45 : decode cX3_moveForDelete 45 = .ok (.ireturn, 1) := by decide +kernel
theorem dX3_moveForDelete_46 : decode cX3_moveForDelete 46 = .ok (.aload_n 0, 1) := by decide +kernel
theorem dX3_moveForDelete_47 : decode cX3_moveForDelete 47 = .ok (.iconst 0, 1) := by decide +kernel
theorem dX3_moveForDelete_48 : decode cX3_moveForDelete 48 = .ok (.putfield 34, 3) := by decide +kernel
theorem dX3_moveForDelete_51 : decode cX3_moveForDelete 51 = .ok (.iconst 1, 1) := by decide +kernel
theorem dX3_moveForDelete_52 : decode cX3_moveForDelete 52 = .ok (.ireturn, 1) := by decide +kernel
theorem dX3_boundAfterDelete_0 : decode cX3_boundAfterDelete 0 = .ok (.iload_n 0, 1) := by decide +kernel
theorem dX3_boundAfterDelete_1 : decode cX3_boundAfterDelete 1 = .ok (.iload_n 1, 1) := by decide +kernel
theorem dX3_boundAfterDelete_2 : decode cX3_boundAfterDelete 2 = .ok (.iload_n 2, 1) := by decide +kernel
theorem dX3_boundAfterDelete_3 : decode cX3_boundAfterDelete 3 = .ok (.iadd, 1) := by decide +kernel
theorem dX3_boundAfterDelete_4 : decode cX3_boundAfterDelete 4 = .ok (.if_icmp .lt 9, 3) := by decide +kernel
theorem dX3_boundAfterDelete_7 : decode cX3_boundAfterDelete 7 = .ok (.iload_n 0, 1) := by decide +kernel
theorem dX3_boundAfterDelete_8 : decode cX3_boundAfterDelete 8 = .ok (.iload_n 2, 1) := by decide +kernel
theorem dX3_boundAfterDelete_9 : decode cX3_boundAfterDelete 9 = .ok (.isub, 1) := by decide +kernel
theorem dX3_boundAfterDelete_10 : decode cX3_boundAfterDelete 10 = .ok (.goto 8, 3) := by decide +kernel
theorem dX3_boundAfterDelete_13 : decode cX3_boundAfterDelete 13 = .ok (.iload_n 0, 1) := by decide +kernel
theorem dX3_boundAfterDelete_14 : decode cX3_boundAfterDelete 14 = .ok (.iload_n 1, 1) := by decide +kernel
theorem dX3_boundAfterDelete_15 : decode cX3_boundAfterDelete 15 = .ok (.invokestatic 61, 3) := by decide +kernel
theorem dX3_boundAfterDelete_18 : decode cX3_boundAfterDelete 18 = .ok (.ireturn, 1) := by decide +kernel
theorem dX3_moveForReplacement_0 : decode cX3_moveForReplacement 0 = .ok (.aload_n 0, 1) := by decide +kernel
theorem dX3_moveForReplacement_1 : decode cX3_moveForReplacement 1 = .ok (.iconst 0, 1) := by decide +kernel
theorem dX3_moveForReplacement_2 : decode cX3_moveForReplacement 2 = .ok (.putfield 34, 3) := by decide +kernel
theorem dX3_moveForReplacement_5 : decode cX3_moveForReplacement 5 = .ok (.aload_n 0, 1) := by decide +kernel
theorem dX3_moveForReplacement_6 : decode cX3_moveForReplacement 6 = .ok (.aload_n 0, 1) := by decide +kernel
theorem dX3_moveForReplacement_7 : decode cX3_moveForReplacement 7 = .ok (.getfield 37, 3) := by decide +kernel
theorem dX3_moveForReplacement_10 : decode cX3_moveForReplacement 10 = .ok (.iload_n 1, 1) := by decide +kernel
theorem dX3_moveForReplacement_11 : decode cX3_moveForReplacement 11 = .ok (.invokestatic 61, 3) := by decide +kernel
theorem dX3_moveForReplacement_14 : decode cX3_moveForReplacement 14 = .ok (.putfield 37, 3) := by decide +kernel
theorem dX3_moveForReplacement_17 : decode cX3_moveForReplacement 17 = .ok (.aload_n 0, 1) := by decide +kernel
theorem dX3_moveForReplacement_18 : decode cX3_moveForReplacement 18 = .ok (.aload_n 0, 1) := by decide +kernel
theorem dX3_moveForReplacement_19 : decode cX3_moveForReplacement 19 = .ok (.getfield 40, 3) := by decide +kernel
theorem dX3_moveForReplacement_22 : decode cX3_moveForReplacement 22 = .ok (.iload_n 1, 1) := by decide +kernel
theorem dX3_moveForReplacement_23 : decode cX3_moveForReplacement 23 = .ok (.invokestatic 61, 3) := by decide +kernel
theorem dX3_moveForReplacement_26 : decode cX3_moveForReplacement 26 = .ok (.putfield 40, 3) := by decide +kernel
theorem dX3_moveForReplacement_29 : decode cX3_moveForReplacement 29 = .ok (.return_, 1) := by decide +kernel
theorem dX3_isTwinOf_0 : decode cX3_isTwinOf 0 = .ok (.aload_n 0, 1) := by decide +kernel
theorem dX3_isTwinOf_1 : decode cX3_isTwinOf 1 = .ok (.getfield 34, 3) := by decide +kernel
theorem dX3_isTwinOf_4 : decode cX3_isTwinOf 4 = .ok (.iconst 1, 1) := by decide +kernel
theorem dX3_isTwinOf_5 : decode cX3_isTwinOf 5 = .ok (.if_icmp .ne 37, 3) := by decide +kernel
theorem dX3_isTwinOf_8 : decode cX3_isTwinOf 8 = .ok (.aload_n 1, 1) := by decide +kernel
theorem dX3_isTwinOf_9 : decode cX3_isTwinOf 9 = .ok (.getfield 34, 3) := by decide +kernel
theorem dX3_isTwinOf_12 : decode cX3_isTwinOf 12 = .ok (.iconst 1, 1) := by decide +kernel
theorem dX3_isTwinOf_13 : decode cX3_isTwinOf 13 = .ok (.if_icmp .ne 29, 3) := by decide +kernel
theorem dX3_isTwinOf_16 : decode cX3_isTwinOf 16 = .ok (.aload_n 0, 1) := by decide +kernel
theorem dX3_isTwinOf_17 : decode cX3_isTwinOf 17 = .ok (.getfield 37, 3) := by decide +kernel
theorem dX3_isTwinOf_20 : decode cX3_isTwinOf 20 = .ok (.aload_n 1, 1) := by decide +kernel
theorem dX3_isTwinOf_21 : decode cX3_isTwinOf 21 = .ok (.getfield 37, 3) := by decide +kernel
theorem dX3_isTwinOf_24 : decode cX3_isTwinOf 24 = .ok (.if_icmp .ne 18, 3) := by decide +kernel
theorem dX3_isTwinOf_27 : decode cX3_isTwinOf 27 = .ok (.aload_n 0, 1) := by decide +kernel
theorem dX3_isTwinOf_28 : decode cX3_isTwinOf 28 = .ok (.getfield 40, 3) := by decide +kernel
theorem dX3_isTwinOf_31 : decode cX3_isTwinOf 31 = .ok (.aload_n 1, 1) := by decide +kernel
theorem dX3_isTwinOf_32 : decode cX3_isTwinOf 32 = .ok (.getfield 40, 3) := by decide +kernel
theorem dX3_isTwinOf_35 : decode cX3_isTwinOf 35 = .ok (.if_icmp .ne 7, 3) := by decide +kernel
theorem dX3_isTwinOf_38 : decode cX3_isTwinOf 38 = .ok (.iconst 1, 1) := by decide +kernel
theorem dX3_isTwinOf_39 : decode cX3_isTwinOf 39 = .ok (.goto 4, 3) := by decide +kernel
theorem dX3_isTwinOf_42 : decode cX3_isTwinOf 42 = .ok (.iconst 0, 1) := by decide +kernel
theorem dX3_isTwinOf_43 : decode cX3_isTwinOf 43 = .ok (.ireturn, 1) := by decide +kernel
theorem dX3_covers_0 : decode cX3_covers 0 = .ok (.aload_n 0, 1) := by decide +kernel
theorem dX3_covers_1 : decode cX3_covers 1 = .ok (.getfield 34, 3) := by decide +kernel
theorem dX3_covers_4 : decode cX3_covers 4 = .ok (.iconst 1, 1) := by decide +kernel
theorem dX3_covers_5 : decode cX3_covers 5 = .ok (.if_icmp .ne 23, 3) := by decide +kernel
theorem dX3_covers_8 : decode cX3_covers 8 = .ok (.aload_n 0, 1) := by decide +kernel
theorem dX3_covers_9 : decode cX3_covers 9 = .ok (.getfield 37, 3) := by decide +kernel
theorem dX3_covers_12 : decode cX3_covers 12 = .ok (.iload_n 1, 1) := by decide +kernel
theorem dX3_covers_13 : decode cX3_covers 13 = .ok (.if_icmp .gt 15, 3) := by decide +kernel
theorem dX3_covers_16 : decode cX3_covers 16 = .ok (.iload_n 1, 1) := by decide +kernel
theorem dX3_covers_17 : decode cX3_covers 17 = .ok (.aload_n 0, 1) := by decide +kernel
theorem dX3_covers_18 : decode cX3_covers 18 = .ok (.getfield 40, 3) := by decide +kernel
theorem dX3_covers_21 : decode cX3_covers 21 = .ok (.if_icmp .ge 7, 3) := by decide +kernel
theorem dX3_covers_24 : decode cX3_covers 24 = .ok (.iconst 1, 1) := by decide +kernel
theorem dX3_covers_25 : decode cX3_covers 25 = .ok (.goto 4, 3) := by decide +kernel
theorem dX3_covers_28 : decode cX3_covers 28 = .ok (.iconst 0, 1) := by decide +kernel
theorem dX3_covers_29 : decode cX3_covers 29 = .ok (.ireturn, 1) := by decide +kernel
theorem dX3_standsBefore_0 : decode cX3_standsBefore 0 = .ok (.aload_n 0, 1) := by decide +kernel
theorem dX3_standsBefore_1 : decode cX3_standsBefore 1 = .ok (.getfield 37, 3) := by decide +kernel
theorem dX3_standsBefore_4 : decode cX3_standsBefore 4 = .ok (.aload_n 1, 1) := by decide +kernel
theorem dX3_standsBefore_5 : decode cX3_standsBefore 5 = .ok (.getfield 37, 3) := by decide +kernel
theorem dX3_standsBefore_8 : decode cX3_standsBefore 8 = .ok (.if_icmp .eq 20, 3) := by decide +kernel
theorem dX3_standsBefore_11 : decode cX3_standsBefore 11 = .ok (.aload_n 0, 1) := by decide +kernel
theorem dX3_standsBefore_12 : decode cX3_standsBefore 12 = .ok (.getfield 37, 3) := by decide +kernel
theorem dX3_standsBefore_15 : decode cX3_standsBefore 15 = .ok (.aload_n 1, 1) := by decide +kernel
theorem dX3_standsBefore_16 : decode cX3_standsBefore 16 = .ok (.getfield 37, 3) := by decide +kernel
theorem dX3_standsBefore_19 : decode cX3_standsBefore 19 = .ok (.if_icmp .ge 7, 3) := by decide +kernel
theorem dX3_standsBefore_22 : decode cX3_standsBefore 22 = .ok (.iconst 1, 1) := by decide +kernel
theorem dX3_standsBefore_23 : decode cX3_standsBefore 23 = .ok (.goto 4, 3) := by decide +kernel
theorem dX3_standsBefore_26 : decode cX3_standsBefore 26 = .ok (.iconst 0, 1) := by decide +kernel
theorem dX3_standsBefore_27 : decode cX3_standsBefore 27 = .ok (.ireturn, 1) := by decide +kernel
theorem dX3_standsBefore_28 : decode cX3_standsBefore 28 = .ok (.aload_n 0, 1) := by decide +kernel
theorem dX3_standsBefore_29 : decode cX3_standsBefore 29 = .ok (.getfield 40, 3) := by decide +kernel
theorem dX3_standsBefore_32 : decode cX3_standsBefore 32 = .ok (.aload_n 1, 1) := by decide +kernel
theorem dX3_standsBefore_33 : decode cX3_standsBefore 33 = .ok (.getfield 40, 3) := by decide +kernel
theorem dX3_standsBefore_36 : decode cX3_standsBefore 36 = .ok (.if_icmp .eq 22, 3) := by decide +kernel
theorem dX3_standsBefore_39 : decode cX3_standsBefore 39 = .ok (.aload_n 0, 1) := by decide +kernel
theorem dX3_standsBefore_40 : decode cX3_standsBefore 40 = .ok (.getfield 40, 3) := by decide +kernel
theorem dX3_standsBefore_43 : decode cX3_standsBefore 43 = .ok (.aload_n 1, 1) := by decide +kernel
theorem dX3_standsBefore_44 : decode cX3_standsBefore 44 = .ok (.getfield 40, 3) := by decide +kernel
theorem dX3_standsBefore_47 : decode cX3_standsBefore 47 = .ok (.if_icmp .le 7, 3) := by decide +kernel
theorem dX3_standsBefore_50 : decode cX3_standsBefore 50 = .ok (.iconst 1, 1) := by decide +kernel
theorem dX3_standsBefore_51 : decode cX3_standsBefore 51 = .ok (.goto 23, 3) := by decide +kernel
theorem dX3_standsBefore_54 : decode cX3_standsBefore 54 = .ok (.iconst 0, 1) := by decide +kernel
theorem dX3_standsBefore_55 : decode cX3_standsBefore 55 = .ok (.goto 19, 3) := by decide +kernel
theorem dX3_standsBefore_58 : decode cX3_standsBefore 58 = .ok (.aload_n 0, 1) := by decide +kernel
theorem dX3_standsBefore_59 : decode cX3_standsBefore 59 = .ok (.getfield 30, 3) := by decide +kernel
theorem dX3_standsBefore_62 : decode cX3_standsBefore 62 = .ok (.aload_n 1, 1) := by decide +kernel
theorem dX3_standsBefore_63 : decode cX3_standsBefore 63 = .ok (.getfield 30, 3) := by decide +kernel
theorem dX3_standsBefore_66 : decode cX3_standsBefore 66 = .ok (.if_icmp .ge 7, 3) := by decide +kernel
theorem dX3_standsBefore_69 : decode cX3_standsBefore 69 = .ok (.iconst 1, 1) := by decide +kernel
theorem dX3_standsBefore_70 : decode cX3_standsBefore 70 = .ok (.goto 4, 3) := by decide +kernel
theorem dX3_standsBefore_73 : decode cX3_standsBefore 73 = .ok (.iconst 0, 1) := by decide +kernel
theorem dX3_standsBefore_74 : decode cX3_standsBefore 74 = .ok (.ireturn, 1) := by decide +kernel
theorem dX3_scoreOf_0 : decode cX3_scoreOf 0 = .ok (.aload_n 0, 1) := by decide +kernel
theorem dX3_scoreOf_1 : decode cX3_scoreOf 1 = .ok (.aload_n 2, 1) := by decide +kernel
theorem dX3_scoreOf_2 : decode cX3_scoreOf 2 = .ok (.iload_n 3, 1) := by decide +kernel
theorem dX3_scoreOf_3 : decode cX3_scoreOf 3 = .ok (.invokevirtual 67, 3) := by decide +kernel
theorem dX3_scoreOf_6 : decode cX3_scoreOf 6 = .ok (.aload_n 0, 1) := by decide +kernel
theorem dX3_scoreOf_7 : decode cX3_scoreOf 7 = .ok (.aload_n 2, 1) := by decide +kernel
theorem dX3_scoreOf_8 : decode cX3_scoreOf 8 = .ok (.iload 4, 2) := by decide +kernel
theorem dX3_scoreOf_10 : decode cX3_scoreOf 10 = .ok (.invokevirtual 71, 3) := by decide +kernel
theorem dX3_scoreOf_13 : decode cX3_scoreOf 13 = .ok (.iadd, 1) := by decide +kernel
theorem dX3_scoreOf_14 : decode cX3_scoreOf 14 = .ok (.istore 5, 2) := by decide +kernel
theorem dX3_scoreOf_16 : decode cX3_scoreOf 16 = .ok (.bipush 60, 2) := by decide +kernel
theorem dX3_scoreOf_18 : decode cX3_scoreOf 18 = .ok (.bipush 10, 2) := by decide +kernel
theorem dX3_scoreOf_20 : decode cX3_scoreOf 20 = .ok (.iload_n 1, 1) := by decide +kernel
theorem dX3_scoreOf_21 : decode cX3_scoreOf 21 = .ok (.imul, 1) := by decide +kernel
theorem dX3_scoreOf_22 : decode cX3_scoreOf 22 = .ok (.isub, 1) := by decide +kernel
theorem dX3_scoreOf_23 : decode cX3_scoreOf 23 = .ok (.iconst 4, 1) := by decide +kernel
theorem dX3_scoreOf_24 : decode cX3_scoreOf 24 = .ok (.iload 5, 2) := by decide +kernel
theorem dX3_scoreOf_26 : decode cX3_scoreOf 26 = .ok (.imul, 1) := by decide +kernel
theorem dX3_scoreOf_27 : decode cX3_scoreOf 27 = .ok (.iadd, 1) := by decide +kernel
theorem dX3_scoreOf_28 : decode cX3_scoreOf 28 = .ok (.iload_n 3, 1) := by decide +kernel
theorem dX3_scoreOf_29 : decode cX3_scoreOf 29 = .ok (.aload_n 0, 1) := by decide +kernel
theorem dX3_scoreOf_30 : decode cX3_scoreOf 30 = .ok (.getfield 37, 3) := by decide +kernel
theorem dX3_scoreOf_33 : decode cX3_scoreOf 33 = .ok (.isub, 1) := by decide +kernel
theorem dX3_scoreOf_34 : decode cX3_scoreOf 34 = .ok (.invokestatic 74, 3) := by decide +kernel
theorem dX3_scoreOf_37 : decode cX3_scoreOf 37 = .ok (.iconst 5, 1) := by decide +kernel
theorem dX3_scoreOf_38 : decode cX3_scoreOf 38 = .ok (.idiv, 1) := by decide +kernel
theorem dX3_scoreOf_39 : decode cX3_scoreOf 39 = .ok (.isub, 1) := by decide +kernel
theorem dX3_scoreOf_40 : decode cX3_scoreOf 40 = .ok (.ireturn, 1) := by decide +kernel
theorem dX3_likeBefore_0 : decode cX3_likeBefore 0 = .ok (.iconst 0, 1) := by decide +kernel
theorem dX3_likeBefore_1 : decode cX3_likeBefore 1 = .ok (.istore_n 3, 1) := by decide +kernel
theorem dX3_likeBefore_2 : decode cX3_likeBefore 2 = .ok (.iload_n 3, 1) := by decide +kernel
theorem dX3_likeBefore_3 : decode cX3_likeBefore 3 = .ok (.aload_n 0, 1) := by decide +kernel
theorem dX3_likeBefore_4 : decode cX3_likeBefore 4 = .ok (.getfield 14, 3) := by decide +kernel
theorem dX3_likeBefore_7 : decode cX3_likeBefore 7 = .ok (.getfield 78, 3) := by decide +kernel

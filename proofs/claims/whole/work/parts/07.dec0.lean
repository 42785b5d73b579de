theorem dX0_init_0 : decode cX0_init 0 = .ok (.aload_n 0, 1) := by decide +kernel
theorem dX0_init_1 : decode cX0_init 1 = .ok (.invokespecial 3, 3) := by decide +kernel
theorem dX0_init_4 : decode cX0_init 4 = .ok (.aload_n 0, 1) := by decide +kernel
theorem dX0_init_5 : decode cX0_init 5 = .ok (.bipush 120, 2) := by decide +kernel
theorem dX0_init_7 : decode cX0_init 7 = .ok (.newarray .int, 2) := by decide +kernel
theorem dX0_init_9 : decode cX0_init 9 = .ok (.putfield 9, 3) := by decide +kernel
theorem dX0_init_12 : decode cX0_init 12 = .ok (.aload_n 0, 1) := by decide +kernel
theorem dX0_init_13 : decode cX0_init 13 = .ok (.bipush 120, 2) := by decide +kernel
theorem dX0_init_15 : decode cX0_init 15 = .ok (.newarray .int, 2) := by decide +kernel
theorem dX0_init_17 : decode cX0_init 17 = .ok (.putfield 15, 3) := by decide +kernel
theorem dX0_init_20 : decode cX0_init 20 = .ok (.aload_n 0, 1) := by decide +kernel
theorem dX0_init_21 : decode cX0_init 21 = .ok (.bipush 121, 2) := by decide +kernel
theorem dX0_init_23 : decode cX0_init 23 = .ok (.newarray .int, 2) := by decide +kernel
theorem dX0_init_25 : decode cX0_init 25 = .ok (.putfield 18, 3) := by decide +kernel
theorem dX0_init_28 : decode cX0_init 28 = .ok (.return_, 1) := by decide +kernel
theorem dX0_weigh_0 : decode cX0_weigh 0 = .ok (.aload_n 0, 1) := by decide +kernel
theorem dX0_weigh_1 : decode cX0_weigh 1 = .ok (.aload_n 2, 1) := by decide +kernel
theorem dX0_weigh_2 : decode cX0_weigh 2 = .ok (.getfield 21, 3) := by decide +kernel
theorem dX0_weigh_5 : decode cX0_weigh 5 = .ok (.aload_n 0, 1) := by decide +kernel
theorem dX0_weigh_6 : decode cX0_weigh 6 = .ok (.getfield 9, 3) := by decide +kernel
theorem dX0_weigh_9 : decode cX0_weigh 9 = .ok (.arraylength, 1) := by decide +kernel
theorem dX0_weigh_10 : decode cX0_weigh 10 = .ok (.aload_n 0, 1) := by decide +kernel
theorem dX0_weigh_11 : decode cX0_weigh 11 = .ok (.getfield 15, 3) := by decide +kernel
theorem dX0_weigh_14 : decode cX0_weigh 14 = .ok (.arraylength, 1) := by decide +kernel
theorem dX0_weigh_15 : decode cX0_weigh 15 = .ok (.invokestatic 27, 3) := by decide +kernel
theorem dX0_weigh_18 : decode cX0_weigh 18 = .ok (.invokestatic 27, 3) := by decide +kernel
theorem dX0_weigh_21 : decode cX0_weigh 21 = .ok (.putfield 33, 3) := by decide +kernel
theorem dX0_weigh_24 : decode cX0_weigh 24 = .ok (.iconst 0, 1) := by decide +kernel
theorem dX0_weigh_25 : decode cX0_weigh 25 = .ok (.istore 5, 2) := by decide +kernel
theorem dX0_weigh_27 : decode cX0_weigh 27 = .ok (.iload 5, 2) := by decide +kernel
theorem dX0_weigh_29 : decode cX0_weigh 29 = .ok (.aload_n 0, 1) := by decide +kernel
theorem dX0_weigh_30 : decode cX0_weigh 30 = .ok (.getfield 33, 3) := by decide +kernel
theorem dX0_weigh_33 : decode cX0_weigh 33 = .ok (.if_icmp .ge 53, 3) := by decide +kernel
theorem dX0_weigh_36 : decode cX0_weigh 36 = .ok (.aload 4, 2) := by decide +kernel
theorem dX0_weigh_38 : decode cX0_weigh 38 = .ok (.aload_n 1, 1) := by decide +kernel
theorem dX0_weigh_39 : decode cX0_weigh 39 = .ok (.aload_n 2, 1) := by decide +kernel
theorem dX0_weigh_40 : decode cX0_weigh 40 = .ok (.iload 5, 2) := by decide +kernel
theorem dX0_weigh_42 : decode cX0_weigh 42 = .ok (.invokevirtual 34, 3) := by decide +kernel
theorem dX0_weigh_45 : decode cX0_weigh 45 = .ok (.istore 6, 2) := by decide +kernel
theorem dX0_weigh_47 : decode cX0_weigh 47 = .ok (.aload_n 0, 1) := by decide +kernel
theorem dX0_weigh_48 : decode cX0_weigh 48 = .ok (.getfield 9, 3) := by decide +kernel
theorem dX0_weigh_51 : decode cX0_weigh 51 = .ok (.iload 5, 2) := by decide +kernel
theorem dX0_weigh_53 : decode cX0_weigh 53 = .ok (.iload 6, 2) := by decide +kernel
theorem dX0_weigh_55 : decode cX0_weigh 55 = .ok (.iload_n 3, 1) := by decide +kernel
theorem dX0_weigh_56 : decode cX0_weigh 56 = .ok (.if_icmp .ge 9, 3) := by decide +kernel
theorem dX0_weigh_59 : decode cX0_weigh 59 = .ok (.sipush (-1005), 3) := by decide +kernel
theorem dX0_weigh_62 : decode cX0_weigh 62 = .ok (.goto 5, 3) := by decide +kernel
theorem dX0_weigh_65 : decode cX0_weigh 65 = .ok (.iload 6, 2) := by decide +kernel
theorem dX0_weigh_67 : decode cX0_weigh 67 = .ok (.iastore, 1) := by decide +kernel
theorem dX0_weigh_68 : decode cX0_weigh 68 = .ok (.aload_n 0, 1) := by decide +kernel
theorem dX0_weigh_69 : decode cX0_weigh 69 = .ok (.getfield 15, 3) := by decide +kernel
theorem dX0_weigh_72 : decode cX0_weigh 72 = .ok (.iload 5, 2) := by decide +kernel
theorem dX0_weigh_74 : decode cX0_weigh 74 = .ok (.aload 4, 2) := by decide +kernel
theorem dX0_weigh_76 : decode cX0_weigh 76 = .ok (.getfield 40, 3) := by decide +kernel
theorem dX0_weigh_79 : decode cX0_weigh 79 = .ok (.iastore, 1) := by decide +kernel
theorem dX0_weigh_80 : decode cX0_weigh 80 = .ok (.iinc 5 1, 3) := by decide +kernel
theorem dX0_weigh_83 : decode cX0_weigh 83 = .ok (.goto (-56), 3) := by decide +kernel
theorem dX0_weigh_86 : decode cX0_weigh 86 = .ok (.return_, 1) := by decide +kernel
theorem dX0_beNothing_0 : decode cX0_beNothing 0 = .ok (.aload_n 0, 1) := by decide +kernel
theorem dX0_beNothing_1 : decode cX0_beNothing 1 = .ok (.iconst 0, 1) := by decide +kernel
theorem dX0_beNothing_2 : decode cX0_beNothing 2 = .ok (.putfield 33, 3) := by decide +kernel
theorem dX0_beNothing_5 : decode cX0_beNothing 5 = .ok (.iconst 0, 1) := by decide +kernel
theorem dX0_beNothing_6 : decode cX0_beNothing 6 = .ok (.istore_n 1, 1) := by decide +kernel
theorem dX0_beNothing_7 : decode cX0_beNothing 7 = .ok (.iload_n 1, 1) := by decide +kernel
theorem dX0_beNothing_8 : decode cX0_beNothing 8 = .ok (.aload_n 0, 1) := by decide +kernel
theorem dX0_beNothing_9 : decode cX0_beNothing 9 = .ok (.getfield 18, 3) := by decide +kernel
theorem dX0_beNothing_12 : decode cX0_beNothing 12 = .ok (.arraylength, 1) := by decide +kernel
theorem dX0_beNothing_13 : decode cX0_beNothing 13 = .ok (.if_icmp .ge 16, 3) := by decide +kernel
theorem dX0_beNothing_16 : decode cX0_beNothing 16 = .ok (.aload_n 0, 1) := by decide +kernel
theorem dX0_beNothing_17 : decode cX0_beNothing 17 = .ok (.getfield 18, 3) := by decide +kernel
theorem dX0_beNothing_20 : decode cX0_beNothing 20 = .ok (.iload_n 1, 1) := by decide +kernel
theorem dX0_beNothing_21 : decode cX0_beNothing 21 = .ok (.iconst 0, 1) := by decide +kernel
theorem dX0_beNothing_22 : decode cX0_beNothing 22 = .ok (.iastore, 1) := by decide +kernel
theorem dX0_beNothing_23 : decode cX0_beNothing 23 = .ok (.iinc 1 1, 3) := by decide +kernel
theorem dX0_beNothing_26 : decode cX0_beNothing 26 = .ok (.goto (-19), 3) := by decide +kernel
theorem dX0_beNothing_29 : decode cX0_beNothing 29 = .ok (.return_, 1) := by decide +kernel
theorem dX0_addUp_0 : decode cX0_addUp 0 = .ok (.iconst 0, 1) := by decide +kernel
theorem dX0_addUp_1 : decode cX0_addUp 1 = .ok (.istore_n 2, 1) := by decide +kernel
theorem dX0_addUp_2 : decode cX0_addUp 2 = .ok (.aload_n 0, 1) := by decide +kernel
theorem dX0_addUp_3 : decode cX0_addUp 3 = .ok (.getfield 18, 3) := by decide +kernel
theorem dX0_addUp_6 : decode cX0_addUp 6 = .ok (.arraylength, 1) := by decide +kernel
theorem dX0_addUp_7 : decode cX0_addUp 7 = .ok (.iconst 1, 1) := by decide +kernel
theorem dX0_addUp_8 : decode cX0_addUp 8 = .ok (.isub, 1) := by decide +kernel
theorem dX0_addUp_9 : decode cX0_addUp 9 = .ok (.istore_n 3, 1) := by decide +kernel
theorem dX0_addUp_10 : decode cX0_addUp 10 = .ok (.iload_n 3, 1) := by decide +kernel
theorem dX0_addUp_11 : decode cX0_addUp 11 = .ok (.ifCond .lt 72, 3) := by decide +kernel
theorem dX0_addUp_14 : decode cX0_addUp 14 = .ok (.iload_n 2, 1) := by decide +kernel
theorem dX0_addUp_15 : decode cX0_addUp 15 = .ok (.aload_n 1, 1) := by decide +kernel
theorem dX0_addUp_16 : decode cX0_addUp 16 = .ok (.iload_n 3, 1) := by decide +kernel
theorem dX0_addUp_17 : decode cX0_addUp 17 = .ok (.invokevirtual 43, 3) := by decide +kernel
theorem dX0_addUp_20 : decode cX0_addUp 20 = .ok (.invokestatic 47, 3) := by decide +kernel
theorem dX0_addUp_23 : decode cX0_addUp 23 = .ok (.istore_n 2, 1) := by decide +kernel
theorem dX0_addUp_24 : decode cX0_addUp 24 = .ok (.iload_n 3, 1) := by decide +kernel
theorem dX0_addUp_25 : decode cX0_addUp 25 = .ok (.aload_n 0, 1) := by decide +kernel
theorem dX0_addUp_26 : decode cX0_addUp 26 = .ok (.getfield 33, 3) := by decide +kernel
theorem dX0_addUp_29 : decode cX0_addUp 29 = .ok (.if_icmp .ge 41, 3) := by decide +kernel
theorem dX0_addUp_32 : decode cX0_addUp 32 = .ok (.iload_n 3, 1) := by decide +kernel
theorem dX0_addUp_33 : decode cX0_addUp 33 = .ok (.aload_n 0, 1) := by decide +kernel
theorem dX0_addUp_34 : decode cX0_addUp 34 = .ok (.getfield 9, 3) := by decide +kernel
theorem dX0_addUp_37 : decode cX0_addUp 37 = .ok (.arraylength, 1) := by decide +kernel
theorem dX0_addUp_38 : decode cX0_addUp 38 = .ok (.if_icmp .ge 32, 3) := by decide +kernel
theorem dX0_addUp_41 : decode cX0_addUp 41 = .ok (.aload_n 0, 1) := by decide +kernel
theorem dX0_addUp_42 : decode cX0_addUp 42 = .ok (.getfield 9, 3) := by decide +kernel
theorem dX0_addUp_45 : decode cX0_addUp 45 = .ok (.iload_n 3, 1) := by decide +kernel
theorem dX0_addUp_46 : decode cX0_addUp 46 = .ok (.iaload, 1) := by decide +kernel
theorem dX0_addUp_47 : decode cX0_addUp 47 = .ok (.sipush (-1005), 3) := by decide +kernel
theorem dX0_addUp_50 : decode cX0_addUp 50 = .ok (.if_icmp .eq 20, 3) := by decide +kernel
theorem dX0_addUp_53 : decode cX0_addUp 53 = .ok (.iload_n 2, 1) := by decide +kernel
theorem dX0_addUp_54 : decode cX0_addUp 54 = .ok (.aload_n 0, 1) := by decide +kernel
theorem dX0_addUp_55 : decode cX0_addUp 55 = .ok (.getfield 9, 3) := by decide +kernel
theorem dX0_addUp_58 : decode cX0_addUp 58 = .ok (.iload_n 3, 1) := by decide +kernel
theorem dX0_addUp_59 : decode cX0_addUp 59 = .ok (.iaload, 1) := by decide +kernel
theorem dX0_addUp_60 : decode cX0_addUp 60 = .ok (.aload_n 1, 1) := by decide +kernel
theorem dX0_addUp_61 : decode cX0_addUp 61 = .ok (.iload_n 3, 1) := by decide +kernel
theorem dX0_addUp_62 : decode cX0_addUp 62 = .ok (.invokevirtual 43, 3) := by decide +kernel
theorem dX0_addUp_65 : decode cX0_addUp 65 = .ok (.iadd, 1) := by decide +kernel
theorem dX0_addUp_66 : decode cX0_addUp 66 = .ok (.invokestatic 47, 3) := by decide +kernel
theorem dX0_addUp_69 : decode cX0_addUp 69 = .ok (.istore_n 2, 1) := by decide +kernel
theorem dX0_addUp_70 : decode cX0_addUp 70 = .ok (.aload_n 0, 1) := by decide +kernel
theorem dX0_addUp_71 : decode cX0_addUp 71 = .ok (.getfield 18, 3) := by decide +kernel
theorem dX0_addUp_74 : decode cX0_addUp 74 = .ok (.iload_n 3, 1) := by decide +kernel
theorem dX0_addUp_75 : decode cX0_addUp 75 = .ok (.iload_n 2, 1) := by decide +kernel
theorem dX0_addUp_76 : decode cX0_addUp 76 = .ok (.iastore, 1) := by decide +kernel
theorem dX0_addUp_77 : decode cX0_addUp 77 = .ok (.iinc 3 (-1), 3) := by decide +kernel
theorem dX0_addUp_80 : decode cX0_addUp 80 = .ok (.goto (-70), 3) := by decide +kernel
theorem dX0_addUp_83 : decode cX0_addUp 83 = .ok (.return_, 1) := by decide +kernel
theorem dX0_sumFrom_0 : decode cX0_sumFrom 0 = .ok (.iload_n 1, 1) := by decide +kernel
theorem dX0_sumFrom_1 : decode cX0_sumFrom 1 = .ok (.ifCond .lt 21, 3) := by decide +kernel
theorem dX0_sumFrom_4 : decode cX0_sumFrom 4 = .ok (.iload_n 1, 1) := by decide +kernel
theorem dX0_sumFrom_5 : decode cX0_sumFrom 5 = .ok (.aload_n 0, 1) := by decide +kernel
theorem dX0_sumFrom_6 : decode cX0_sumFrom 6 = .ok (.getfield 18, 3) := by decide +kernel
theorem dX0_sumFrom_9 : decode cX0_sumFrom 9 = .ok (.arraylength, 1) := by decide +kernel
theorem dX0_sumFrom_10 : decode cX0_sumFrom 10 = .ok (.if_icmp .ge 12, 3) := by decide +kernel
theorem dX0_sumFrom_13 : decode cX0_sumFrom 13 = .ok (.aload_n 0, 1) := by decide +kernel
theorem dX0_sumFrom_14 : decode cX0_sumFrom 14 = .ok (.getfield 18, 3) := by decide +kernel
theorem dX0_sumFrom_17 : decode cX0_sumFrom 17 = .ok (.iload_n 1, 1) := by decide +kernel
theorem dX0_sumFrom_18 : decode cX0_sumFrom 18 = .ok (.iaload, 1) := by decide +kernel
theorem dX0_sumFrom_19 : decode cX0_sumFrom 19 = .ok (.goto 4, 3) := by decide +kernel
theorem dX0_sumFrom_22 : decode cX0_sumFrom 22 = .ok (.iconst 0, 1) := by decide +kernel
theorem dX0_sumFrom_23 : decode cX0_sumFrom 23 = .ok (.ireturn, 1) := by decide +kernel
theorem dX0_endAt_0 : decode cX0_endAt 0 = .ok (.iload_n 1, 1) := by decide +kernel
theorem dX0_endAt_1 : decode cX0_endAt 1 = .ok (.ifCond .lt 21, 3) := by decide +kernel
theorem dX0_endAt_4 : decode cX0_endAt 4 = .ok (.iload_n 1, 1) := by decide +kernel
theorem dX0_endAt_5 : decode cX0_endAt 5 = .ok (.aload_n 0, 1) := by decide +kernel
theorem dX0_endAt_6 : decode cX0_endAt 6 = .ok (.getfield 15, 3) := by decide +kernel
theorem dX0_endAt_9 : decode cX0_endAt 9 = .ok (.arraylength, 1) := by decide +kernel
theorem dX0_endAt_10 : decode cX0_endAt 10 = .ok (.if_icmp .ge 12, 3) := by decide +kernel
theorem dX0_endAt_13 : decode cX0_endAt 13 = .ok (.aload_n 0, 1) := by decide +kernel
theorem dX0_endAt_14 : decode cX0_endAt 14 = .ok (.getfield 15, 3) := by decide +kernel
theorem dX0_endAt_17 : decode cX0_endAt 17 = .ok (.iload_n 1, 1) := by decide +kernel
theorem dX0_endAt_18 : decode cX0_endAt 18 = .ok (.iaload, 1) := by decide +kernel
theorem dX0_endAt_19 : decode cX0_endAt 19 = .ok (.goto 6, 3) := by decide +kernel
theorem dX0_endAt_22 : decode cX0_endAt 22 = .ok (.sipush (-1005), 3) := by decide +kernel
theorem dX0_endAt_25 : decode cX0_endAt 25 = .ok (.ireturn, 1) := by decide +kernel
theorem dX0_choose_0 : decode cX0_choose 0 = .ok (.sipush (-1005), 3) := by decide +kernel
theorem dX0_choose_3 : decode cX0_choose 3 = .ok (.istore_n 3, 1) := by decide +kernel
theorem dX0_choose_4 : decode cX0_choose 4 = .ok (.sipush (-1005), 3) := by decide +kernel
theorem dX0_choose_7 : decode cX0_choose 7 = .ok (.istore 4, 2) := by decide +kernel
theorem dX0_choose_9 : decode cX0_choose 9 = .ok (.iconst 0, 1) := by decide +kernel
theorem dX0_choose_10 : decode cX0_choose 10 = .ok (.iload_n 1, 1) := by decide +kernel
theorem dX0_choose_11 : decode cX0_choose 11 = .ok (.invokestatic 47, 3) := by decide +kernel
theorem dX0_choose_14 : decode cX0_choose 14 = .ok (.istore 5, 2) := by decide +kernel
theorem dX0_choose_16 : decode cX0_choose 16 = .ok (.iload 5, 2) := by decide +kernel
theorem dX0_choose_18 : decode cX0_choose 18 = .ok (.aload_n 0, 1) := by decide +kernel
theorem dX0_choose_19 : decode cX0_choose 19 = .ok (.getfield 33, 3) := by decide +kernel
theorem dX0_choose_22 : decode cX0_choose 22 = .ok (.if_icmp .ge 59, 3) := by decide +kernel
theorem dX0_choose_25 : decode cX0_choose 25 = .ok (.iload 5, 2) := by decide +kernel
theorem dX0_choose_27 : decode cX0_choose 27 = .ok (.aload_n 0, 1) := by decide +kernel
theorem dX0_choose_28 : decode cX0_choose 28 = .ok (.getfield 9, 3) := by decide +kernel
theorem dX0_choose_31 : decode cX0_choose 31 = .ok (.arraylength, 1) := by decide +kernel
theorem dX0_choose_32 : decode cX0_choose 32 = .ok (.if_icmp .ge 49, 3) := by decide +kernel
theorem dX0_choose_35 : decode cX0_choose 35 = .ok (.aload_n 0, 1) := by decide +kernel
theorem dX0_choose_36 : decode cX0_choose 36 = .ok (.getfield 9, 3) := by decide +kernel
theorem dX0_choose_39 : decode cX0_choose 39 = .ok (.iload 5, 2) := by decide +kernel
theorem dX0_choose_41 : decode cX0_choose 41 = .ok (.iaload, 1) := by decide +kernel
theorem dX0_choose_42 : decode cX0_choose 42 = .ok (.istore 6, 2) := by decide +kernel
theorem dX0_choose_44 : decode cX0_choose 44 = .ok (.iload 6, 2) := by decide +kernel
theorem dX0_choose_46 : decode cX0_choose 46 = .ok (.iload 4, 2) := by decide +kernel
theorem dX0_choose_48 : decode cX0_choose 48 = .ok (.if_icmp .le 27, 3) := by decide +kernel
theorem dX0_choose_51 : decode cX0_choose 51 = .ok (.iload 6, 2) := by decide +kernel
theorem dX0_choose_53 : decode cX0_choose 53 = .ok (.aload_n 2, 1) := by decide +kernel
theorem dX0_choose_54 : decode cX0_choose 54 = .ok (.iload 5, 2) := by decide +kernel
theorem dX0_choose_56 : decode cX0_choose 56 = .ok (.invokevirtual 43, 3) := by decide +kernel
theorem dX0_choose_59 : decode cX0_choose 59 = .ok (.iadd, 1) := by decide +kernel
theorem dX0_choose_60 : decode cX0_choose 60 = .ok (.aload_n 0, 1) := by decide +kernel
theorem dX0_choose_61 : decode cX0_choose 61 = .ok (.iload_n 1, 1) := by decide +kernel
theorem dX0_choose_62 : decode cX0_choose 62 = .ok (.invokevirtual 43, 3) := by decide +kernel
theorem dX0_choose_65 : decode cX0_choose 65 = .ok (.if_icmp .ne 10, 3) := by decide +kernel
theorem dX0_choose_68 : decode cX0_choose 68 = .ok (.iload 6, 2) := by decide +kernel
theorem dX0_choose_70 : decode cX0_choose 70 = .ok (.istore 4, 2) := by decide +kernel
theorem dX0_choose_72 : decode cX0_choose 72 = .ok (.iload 5, 2) := by decide +kernel
theorem dX0_choose_74 : decode cX0_choose 74 = .ok (.istore_n 3, 1) := by decide +kernel
theorem dX0_choose_75 : decode cX0_choose 75 = .ok (.iinc 5 1, 3) := by decide +kernel
theorem dX0_choose_78 : decode cX0_choose 78 = .ok (.goto (-62), 3) := by decide +kernel
theorem dX0_choose_81 : decode cX0_choose 81 = .ok (.iload_n 3, 1) := by decide +kernel
theorem dX0_choose_82 : decode cX0_choose 82 = .ok (.ireturn, 1) := by decide +kernel
theorem dX1_init_0 : decode cX1_init 0 = .ok (.aload_n 0, 1) := by decide +kernel
theorem dX1_init_1 : decode cX1_init 1 = .ok (.invokespecial 3, 3) := by decide +kernel
theorem dX1_init_4 : decode cX1_init 4 = .ok (.aload_n 0, 1) := by decide +kernel
theorem dX1_init_5 : decode cX1_init 5 = .ok (.bipush 17, 2) := by decide +kernel
theorem dX1_init_7 : decode cX1_init 7 = .ok (.newarray .int, 2) := by decide +kernel
theorem dX1_init_9 : decode cX1_init 9 = .ok (.putfield 9, 3) := by decide +kernel
theorem dX1_init_12 : decode cX1_init 12 = .ok (.return_, 1) := by decide +kernel
theorem dX1_distanceTo_0 : decode cX1_distanceTo 0 = .ok (.aload_n 0, 1) := by decide +kernel
theorem dX1_distanceTo_1 : decode cX1_distanceTo 1 = .ok (.invokevirtual 15, 3) := by decide +kernel
theorem dX1_distanceTo_4 : decode cX1_distanceTo 4 = .ok (.iload_n 3, 1) := by decide +kernel
theorem dX1_distanceTo_5 : decode cX1_distanceTo 5 = .ok (.istore 5, 2) := by decide +kernel
theorem dX1_distanceTo_7 : decode cX1_distanceTo 7 = .ok (.iload 5, 2) := by decide +kernel
theorem dX1_distanceTo_9 : decode cX1_distanceTo 9 = .ok (.iload 4, 2) := by decide +kernel
theorem dX1_distanceTo_11 : decode cX1_distanceTo 11 = .ok (.if_icmp .ge 23, 3) := by decide +kernel
theorem dX1_distanceTo_14 : decode cX1_distanceTo 14 = .ok (.aload_n 0, 1) := by decide +kernel
theorem dX1_distanceTo_15 : decode cX1_distanceTo 15 = .ok (.aload_n 1, 1) := by decide +kernel
theorem dX1_distanceTo_16 : decode cX1_distanceTo 16 = .ok (.getfield 18, 3) := by decide +kernel
theorem dX1_distanceTo_19 : decode cX1_distanceTo 19 = .ok (.aload_n 2, 1) := by decide +kernel
theorem dX1_distanceTo_20 : decode cX1_distanceTo 20 = .ok (.iload 5, 2) := by decide +kernel
theorem dX1_distanceTo_22 : decode cX1_distanceTo 22 = .ok (.invokevirtual 24, 3) := by decide +kernel
theorem dX1_distanceTo_25 : decode cX1_distanceTo 25 = .ok (.invokevirtual 30, 3) := by decide +kernel
theorem dX1_distanceTo_28 : decode cX1_distanceTo 28 = .ok (.iinc 5 1, 3) := by decide +kernel
theorem dX1_distanceTo_31 : decode cX1_distanceTo 31 = .ok (.goto (-24), 3) := by decide +kernel
theorem dX1_distanceTo_34 : decode cX1_distanceTo 34 = .ok (.aload_n 0, 1) := by decide +kernel
theorem dX1_distanceTo_35 : decode cX1_distanceTo 35 = .ok (.aload_n 1, 1) := by decide +kernel
theorem dX1_distanceTo_36 : decode cX1_distanceTo 36 = .ok (.getfield 18, 3) := by decide +kernel
theorem dX1_distanceTo_39 : decode cX1_distanceTo 39 = .ok (.invokevirtual 34, 3) := by decide +kernel
theorem dX1_distanceTo_42 : decode cX1_distanceTo 42 = .ok (.ireturn, 1) := by decide +kernel
theorem dX1_search_0 : decode cX1_search 0 = .ok (.aload_n 0, 1) := by decide +kernel
theorem dX1_search_1 : decode cX1_search 1 = .ok (.sipush (-1005), 3) := by decide +kernel
theorem dX1_search_4 : decode cX1_search 4 = .ok (.putfield 38, 3) := by decide +kernel
theorem dX1_search_7 : decode cX1_search 7 = .ok (.aload_n 0, 1) := by decide +kernel
theorem dX1_search_8 : decode cX1_search 8 = .ok (.sipush (-1005), 3) := by decide +kernel
theorem dX1_search_11 : decode cX1_search 11 = .ok (.putfield 42, 3) := by decide +kernel
theorem dX1_search_14 : decode cX1_search 14 = .ok (.aload_n 0, 1) := by decide +kernel
theorem dX1_search_15 : decode cX1_search 15 = .ok (.sipush (-1005), 3) := by decide +kernel
theorem dX1_search_18 : decode cX1_search 18 = .ok (.putfield 45, 3) := by decide +kernel
theorem dX1_search_21 : decode cX1_search 21 = .ok (.iconst 0, 1) := by decide +kernel
theorem dX1_search_22 : decode cX1_search 22 = .ok (.istore_n 3, 1) := by decide +kernel
theorem dX1_search_23 : decode cX1_search 23 = .ok (.iload_n 3, 1) := by decide +kernel
theorem dX1_search_24 : decode cX1_search 24 = .ok (.aload_n 2, 1) := by decide +kernel
theorem dX1_search_25 : decode cX1_search 25 = .ok (.getfield 48, 3) := by decide +kernel
theorem dX1_search_28 : decode cX1_search 28 = .ok (.if_icmp .ge 46, 3) := by decide +kernel
theorem dX1_search_31 : decode cX1_search 31 = .ok (.aload_n 0, 1) := by decide +kernel
theorem dX1_search_32 : decode cX1_search 32 = .ok (.aload_n 1, 1) := by decide +kernel
theorem dX1_search_33 : decode cX1_search 33 = .ok (.aload_n 2, 1) := by decide +kernel
theorem dX1_search_34 : decode cX1_search 34 = .ok (.iload_n 3, 1) := by decide +kernel
theorem dX1_search_35 : decode cX1_search 35 = .ok (.invokevirtual 51, 3) := by decide +kernel
theorem dX1_search_38 : decode cX1_search 38 = .ok (.istore 4, 2) := by decide +kernel
theorem dX1_search_40 : decode cX1_search 40 = .ok (.iload 4, 2) := by decide +kernel
theorem dX1_search_42 : decode cX1_search 42 = .ok (.aload_n 0, 1) := by decide +kernel
theorem dX1_search_43 : decode cX1_search 43 = .ok (.getfield 38, 3) := by decide +kernel
theorem dX1_search_46 : decode cX1_search 46 = .ok (.if_icmp .le 22, 3) := by decide +kernel
theorem dX1_search_49 : decode cX1_search 49 = .ok (.aload_n 0, 1) := by decide +kernel
theorem dX1_search_50 : decode cX1_search 50 = .ok (.iload 4, 2) := by decide +kernel
theorem dX1_search_52 : decode cX1_search 52 = .ok (.putfield 38, 3) := by decide +kernel
theorem dX1_search_55 : decode cX1_search 55 = .ok (.aload_n 0, 1) := by decide +kernel
theorem dX1_search_56 : decode cX1_search 56 = .ok (.iload_n 3, 1) := by decide +kernel
theorem dX1_search_57 : decode cX1_search 57 = .ok (.putfield 42, 3) := by decide +kernel
theorem dX1_search_60 : decode cX1_search 60 = .ok (.aload_n 0, 1) := by decide +kernel
theorem dX1_search_61 : decode cX1_search 61 = .ok (.aload_n 0, 1) := by decide +kernel
theorem dX1_search_62 : decode cX1_search 62 = .ok (.getfield 55, 3) := by decide +kernel
theorem dX1_search_65 : decode cX1_search 65 = .ok (.putfield 45, 3) := by decide +kernel
theorem dX1_search_68 : decode cX1_search 68 = .ok (.iinc 3 1, 3) := by decide +kernel
theorem dX1_search_71 : decode cX1_search 71 = .ok (.goto (-48), 3) := by decide +kernel
theorem dX1_search_74 : decode cX1_search 74 = .ok (.return_, 1) := by decide +kernel
theorem dX1_searchAt_0 : decode cX1_searchAt 0 = .ok (.aload_n 1, 1) := by decide +kernel
theorem dX1_searchAt_1 : decode cX1_searchAt 1 = .ok (.getfield 18, 3) := by decide +kernel
theorem dX1_searchAt_4 : decode cX1_searchAt 4 = .ok (.astore 4, 2) := by decide +kernel
theorem dX1_searchAt_6 : decode cX1_searchAt 6 = .ok (.iconst 1, 1) := by decide +kernel
theorem dX1_searchAt_7 : decode cX1_searchAt 7 = .ok (.aload 4, 2) := by decide +kernel
theorem dX1_searchAt_9 : decode cX1_searchAt 9 = .ok (.getfield 48, 3) := by decide +kernel
theorem dX1_searchAt_12 : decode cX1_searchAt 12 = .ok (.iconst 3, 1) := by decide +kernel
theorem dX1_searchAt_13 : decode cX1_searchAt 13 = .ok (.isub, 1) := by decide +kernel
theorem dX1_searchAt_14 : decode cX1_searchAt 14 = .ok (.invokestatic 58, 3) := by decide +kernel
theorem dX1_searchAt_17 : decode cX1_searchAt 17 = .ok (.istore 5, 2) := by decide +kernel
theorem dX1_searchAt_19 : decode cX1_searchAt 19 = .ok (.aload 4, 2) := by decide +kernel
theorem dX1_searchAt_21 : decode cX1_searchAt 21 = .ok (.getfield 48, 3) := by decide +kernel
theorem dX1_searchAt_24 : decode cX1_searchAt 24 = .ok (.iconst 3, 1) := by decide +kernel
theorem dX1_searchAt_25 : decode cX1_searchAt 25 = .ok (.iadd, 1) := by decide +kernel
theorem dX1_searchAt_26 : decode cX1_searchAt 26 = .ok (.aload_n 2, 1) := by decide +kernel
theorem dX1_searchAt_27 : decode cX1_searchAt 27 = .ok (.getfield 48, 3) := by decide +kernel
theorem dX1_searchAt_30 : decode cX1_searchAt 30 = .ok (.iload_n 3, 1) := by decide +kernel
theorem dX1_searchAt_31 : decode cX1_searchAt 31 = .ok (.isub, 1) := by decide +kernel
theorem dX1_searchAt_32 : decode cX1_searchAt 32 = .ok (.invokestatic 64, 3) := by decide +kernel
theorem dX1_searchAt_35 : decode cX1_searchAt 35 = .ok (.istore 6, 2) := by decide +kernel
theorem dX1_searchAt_37 : decode cX1_searchAt 37 = .ok (.sipush (-1005), 3) := by decide +kernel
theorem dX1_searchAt_40 : decode cX1_searchAt 40 = .ok (.istore 7, 2) := by decide +kernel
theorem dX1_searchAt_42 : decode cX1_searchAt 42 = .ok (.aload_n 0, 1) := by decide +kernel
theorem dX1_searchAt_43 : decode cX1_searchAt 43 = .ok (.sipush (-1005), 3) := by decide +kernel
theorem dX1_searchAt_46 : decode cX1_searchAt 46 = .ok (.putfield 55, 3) := by decide +kernel
theorem dX1_searchAt_49 : decode cX1_searchAt 49 = .ok (.aload_n 0, 1) := by decide +kernel
theorem dX1_searchAt_50 : decode cX1_searchAt 50 = .ok (.invokevirtual 15, 3) := by decide +kernel
theorem dX1_searchAt_53 : decode cX1_searchAt 53 = .ok (.iconst 1, 1) := by decide +kernel
theorem dX1_searchAt_54 : decode cX1_searchAt 54 = .ok (.istore 8, 2) := by decide +kernel
theorem dX1_searchAt_56 : decode cX1_searchAt 56 = .ok (.iload 8, 2) := by decide +kernel
theorem dX1_searchAt_58 : decode cX1_searchAt 58 = .ok (.iload 6, 2) := by decide +kernel
theorem dX1_searchAt_60 : decode cX1_searchAt 60 = .ok (.if_icmp .gt 69, 3) := by decide +kernel
theorem dX1_searchAt_63 : decode cX1_searchAt 63 = .ok (.iload_n 3, 1) := by decide +kernel
theorem dX1_searchAt_64 : decode cX1_searchAt 64 = .ok (.iload 8, 2) := by decide +kernel
theorem dX1_searchAt_66 : decode cX1_searchAt 66 = .ok (.iadd, 1) := by decide +kernel
theorem dX1_searchAt_67 : decode cX1_searchAt 67 = .ok (.istore 9, 2) := by decide +kernel
theorem dX1_searchAt_69 : decode cX1_searchAt 69 = .ok (.aload_n 0, 1) := by decide +kernel
theorem dX1_searchAt_70 : decode cX1_searchAt 70 = .ok (.aload 4, 2) := by decide +kernel
theorem dX1_searchAt_72 : decode cX1_searchAt 72 = .ok (.aload_n 2, 1) := by decide +kernel
theorem dX1_searchAt_73 : decode cX1_searchAt 73 = .ok (.iload 9, 2) := by decide +kernel
theorem dX1_searchAt_75 : decode cX1_searchAt 75 = .ok (.iconst 1, 1) := by decide +kernel
theorem dX1_searchAt_76 : decode cX1_searchAt 76 = .ok (.isub, 1) := by decide +kernel
theorem dX1_searchAt_77 : decode cX1_searchAt 77 = .ok (.invokevirtual 24, 3) := by decide +kernel
theorem dX1_searchAt_80 : decode cX1_searchAt 80 = .ok (.invokevirtual 30, 3) := by decide +kernel
theorem dX1_searchAt_83 : decode cX1_searchAt 83 = .ok (.iload 8, 2) := by decide +kernel
theorem dX1_searchAt_85 : decode cX1_searchAt 85 = .ok (.iload 5, 2) := by decide +kernel
theorem dX1_searchAt_87 : decode cX1_searchAt 87 = .ok (.if_icmp .lt 36, 3) := by decide +kernel
theorem dX1_searchAt_90 : decode cX1_searchAt 90 = .ok (.aload_n 1, 1) := by decide +kernel
theorem dX1_searchAt_91 : decode cX1_searchAt 91 = .ok (.aload_n 0, 1) := by decide +kernel
theorem dX1_searchAt_92 : decode cX1_searchAt 92 = .ok (.aload 4, 2) := by decide +kernel
theorem dX1_searchAt_94 : decode cX1_searchAt 94 = .ok (.invokevirtual 34, 3) := by decide +kernel
theorem dX1_searchAt_97 : decode cX1_searchAt 97 = .ok (.aload_n 2, 1) := by decide +kernel
theorem dX1_searchAt_98 : decode cX1_searchAt 98 = .ok (.iload_n 3, 1) := by decide +kernel
theorem dX1_searchAt_99 : decode cX1_searchAt 99 = .ok (.iload 9, 2) := by decide +kernel
theorem dX1_searchAt_101 : decode cX1_searchAt 101 = .ok (.invokevirtual 67, 3) := by decide +kernel
theorem dX1_searchAt_104 : decode cX1_searchAt 104 = .ok (.istore 10, 2) := by decide +kernel
theorem dX1_searchAt_106 : decode cX1_searchAt 106 = .ok (.iload 10, 2) := by decide +kernel
theorem dX1_searchAt_108 : decode cX1_searchAt 108 = .ok (.iload 7, 2) := by decide +kernel
theorem dX1_searchAt_110 : decode cX1_searchAt 110 = .ok (.if_icmp .le 13, 3) := by decide +kernel
theorem dX1_searchAt_113 : decode cX1_searchAt 113 = .ok (.iload 10, 2) := by decide +kernel
theorem dX1_searchAt_115 : decode cX1_searchAt 115 = .ok (.istore 7, 2) := by decide +kernel
theorem dX1_searchAt_117 : decode cX1_searchAt 117 = .ok (.aload_n 0, 1) := by decide +kernel
theorem dX1_searchAt_118 : decode cX1_searchAt 118 = .ok (.iload 9, 2) := by decide +kernel
theorem dX1_searchAt_120 : decode cX1_searchAt 120 = .ok (.putfield 55, 3) := by decide +kernel
theorem dX1_searchAt_123 : decode cX1_searchAt 123 = .ok (.iinc 8 1, 3) := by decide +kernel
theorem dX1_searchAt_126 : decode cX1_searchAt 126 = .ok (.goto (-70), 3) := by decide +kernel
theorem dX1_searchAt_129 : decode cX1_searchAt 129 = .ok (.iload 7, 2) := by decide +kernel
theorem dX1_searchAt_131 : decode cX1_searchAt 131 = .ok (.ireturn, 1) := by decide +kernel
theorem dX1_beginRow_0 : decode cX1_beginRow 0 = .ok (.iconst 0, 1) := by decide +kernel
theorem dX1_beginRow_1 : decode cX1_beginRow 1 = .ok (.istore_n 1, 1) := by decide +kernel
theorem dX1_beginRow_2 : decode cX1_beginRow 2 = .ok (.iload_n 1, 1) := by decide +kernel
theorem dX1_beginRow_3 : decode cX1_beginRow 3 = .ok (.aload_n 0, 1) := by decide +kernel
theorem dX1_beginRow_4 : decode cX1_beginRow 4 = .ok (.getfield 9, 3) := by decide +kernel
theorem dX1_beginRow_7 : decode cX1_beginRow 7 = .ok (.arraylength, 1) := by decide +kernel
theorem dX1_beginRow_8 : decode cX1_beginRow 8 = .ok (.if_icmp .ge 16, 3) := by decide +kernel
theorem dX1_beginRow_11 : decode cX1_beginRow 11 = .ok (.aload_n 0, 1) := by decide +kernel
theorem dX1_beginRow_12 : decode cX1_beginRow 12 = .ok (.getfield 9, 3) := by decide +kernel
theorem dX1_beginRow_15 : decode cX1_beginRow 15 = .ok (.iload_n 1, 1) := by decide +kernel
theorem dX1_beginRow_16 : decode cX1_beginRow 16 = .ok (.iload_n 1, 1) := by decide +kernel
theorem dX1_beginRow_17 : decode cX1_beginRow 17 = .ok (.iastore, 1) := by decide +kernel
theorem dX1_beginRow_18 : decode cX1_beginRow 18 = .ok (.iinc 1 1, 3) := by decide +kernel
theorem dX1_beginRow_21 : decode cX1_beginRow 21 = .ok (.goto (-19), 3) := by decide +kernel
theorem dX1_beginRow_24 : decode cX1_beginRow 24 = .ok (.return_, 1) := by decide +kernel
theorem dX1_takeLetter_0 : decode cX1_takeLetter 0 = .ok (.aload_n 1, 1) := by decide +kernel
theorem dX1_takeLetter_1 : decode cX1_takeLetter 1 = .ok (.getfield 71, 3) := by decide +kernel
theorem dX1_takeLetter_4 : decode cX1_takeLetter 4 = .ok (.astore_n 3, 1) := by decide +kernel
theorem dX1_takeLetter_5 : decode cX1_takeLetter 5 = .ok (.aload_n 1, 1) := by decide +kernel
theorem dX1_takeLetter_6 : decode cX1_takeLetter 6 = .ok (.getfield 48, 3) := by decide +kernel
theorem dX1_takeLetter_9 : decode cX1_takeLetter 9 = .ok (.aload_n 3, 1) := by decide +kernel
theorem dX1_takeLetter_10 : decode cX1_takeLetter 10 = .ok (.arraylength, 1) := by decide +kernel
theorem dX1_takeLetter_11 : decode cX1_takeLetter 11 = .ok (.aload_n 0, 1) := by decide +kernel
theorem dX1_takeLetter_12 : decode cX1_takeLetter 12 = .ok (.getfield 9, 3) := by decide +kernel
theorem dX1_takeLetter_15 : decode cX1_takeLetter 15 = .ok (.arraylength, 1) := by decide +kernel
theorem dX1_takeLetter_16 : decode cX1_takeLetter 16 = .ok (.iconst 1, 1) := by decide +kernel
theorem dX1_takeLetter_17 : decode cX1_takeLetter 17 = .ok (.isub, 1) := by decide +kernel
theorem dX1_takeLetter_18 : decode cX1_takeLetter 18 = .ok (.invokestatic 64, 3) := by decide +kernel
theorem dX1_takeLetter_21 : decode cX1_takeLetter 21 = .ok (.invokestatic 64, 3) := by decide +kernel
theorem dX1_takeLetter_24 : decode cX1_takeLetter 24 = .ok (.istore 4, 2) := by decide +kernel
theorem dX1_takeLetter_26 : decode cX1_takeLetter 26 = .ok (.iload 4, 2) := by decide +kernel
theorem dX1_takeLetter_28 : decode cX1_takeLetter 28 = .ok (.ifCond .ge 4, 3) := by decide +kernel
theorem dX1_takeLetter_31 : decode cX1_takeLetter 31 = .ok (.return_, 1) := by decide +kernel
theorem dX1_takeLetter_32 : decode cX1_takeLetter 32 = .ok (.aload_n 0, 1) := by decide +kernel
theorem dX1_takeLetter_33 : decode cX1_takeLetter 33 = .ok (.getfield 9, 3) := by decide +kernel
theorem dX1_takeLetter_36 : decode cX1_takeLetter 36 = .ok (.iconst 0, 1) := by decide +kernel
theorem dX1_takeLetter_37 : decode cX1_takeLetter 37 = .ok (.iaload, 1) := by decide +kernel
theorem dX1_takeLetter_38 : decode cX1_takeLetter 38 = .ok (.istore 5, 2) := by decide +kernel
theorem dX1_takeLetter_40 : decode cX1_takeLetter 40 = .ok (.iload 5, 2) := by decide +kernel
theorem dX1_takeLetter_42 : decode cX1_takeLetter 42 = .ok (.iconst 1, 1) := by decide +kernel
theorem dX1_takeLetter_43 : decode cX1_takeLetter 43 = .ok (.iadd, 1) := by decide +kernel
theorem dX1_takeLetter_44 : decode cX1_takeLetter 44 = .ok (.istore 6, 2) := by decide +kernel
theorem dX1_takeLetter_46 : decode cX1_takeLetter 46 = .ok (.aload_n 0, 1) := by decide +kernel
theorem dX1_takeLetter_47 : decode cX1_takeLetter 47 = .ok (.getfield 9, 3) := by decide +kernel
theorem dX1_takeLetter_50 : decode cX1_takeLetter 50 = .ok (.iconst 0, 1) := by decide +kernel
theorem dX1_takeLetter_51 : decode cX1_takeLetter 51 = .ok (.iload 6, 2) := by decide +kernel
theorem dX1_takeLetter_53 : decode cX1_takeLetter 53 = .ok (.iastore, 1) := by decide +kernel
theorem dX1_takeLetter_54 : decode cX1_takeLetter 54 = .ok (.iconst 1, 1) := by decide +kernel
theorem dX1_takeLetter_55 : decode cX1_takeLetter 55 = .ok (.istore 7, 2) := by decide +kernel
theorem dX1_takeLetter_57 : decode cX1_takeLetter 57 = .ok (.iload 7, 2) := by decide +kernel
theorem dX1_takeLetter_59 : decode cX1_takeLetter 59 = .ok (.iload 4, 2) := by decide +kernel
theorem dX1_takeLetter_61 : decode cX1_takeLetter 61 = .ok (.if_icmp .gt 68, 3) := by decide +kernel
theorem dX1_takeLetter_64 : decode cX1_takeLetter 64 = .ok (.aload_n 0, 1) := by decide +kernel
theorem dX1_takeLetter_65 : decode cX1_takeLetter 65 = .ok (.getfield 9, 3) := by decide +kernel
theorem dX1_takeLetter_68 : decode cX1_takeLetter 68 = .ok (.iload 7, 2) := by decide +kernel
theorem dX1_takeLetter_70 : decode cX1_takeLetter 70 = .ok (.iaload, 1) := by decide +kernel
theorem dX1_takeLetter_71 : decode cX1_takeLetter 71 = .ok (.istore 8, 2) := by decide +kernel
theorem dX1_takeLetter_73 : decode cX1_takeLetter 73 = .ok (.aload_n 3, 1) := by decide +kernel
theorem dX1_takeLetter_74 : decode cX1_takeLetter 74 = .ok (.iload 7, 2) := by decide +kernel
theorem dX1_takeLetter_76 : decode cX1_takeLetter 76 = .ok (.iconst 1, 1) := by decide +kernel
theorem dX1_takeLetter_77 : decode cX1_takeLetter 77 = .ok (.isub, 1) := by decide +kernel
theorem dX1_takeLetter_78 : decode cX1_takeLetter 78 = .ok (.iaload, 1) := by decide +kernel
theorem dX1_takeLetter_79 : decode cX1_takeLetter 79 = .ok (.iload_n 2, 1) := by decide +kernel
theorem dX1_takeLetter_80 : decode cX1_takeLetter 80 = .ok (.if_icmp .ne 8, 3) := by decide +kernel
theorem dX1_takeLetter_83 : decode cX1_takeLetter 83 = .ok (.iload 5, 2) := by decide +kernel
theorem dX1_takeLetter_85 : decode cX1_takeLetter 85 = .ok (.goto 7, 3) := by decide +kernel
theorem dX1_takeLetter_88 : decode cX1_takeLetter 88 = .ok (.iload 5, 2) := by decide +kernel
theorem dX1_takeLetter_90 : decode cX1_takeLetter 90 = .ok (.iconst 1, 1) := by decide +kernel
theorem dX1_takeLetter_91 : decode cX1_takeLetter 91 = .ok (.iadd, 1) := by decide +kernel
theorem dX1_takeLetter_92 : decode cX1_takeLetter 92 = .ok (.istore 9, 2) := by decide +kernel
theorem dX1_takeLetter_94 : decode cX1_takeLetter 94 = .ok (.iload 9, 2) := by decide +kernel
theorem dX1_takeLetter_96 : decode cX1_takeLetter 96 = .ok (.iconst 1, 1) := by decide +kernel
theorem dX1_takeLetter_97 : decode cX1_takeLetter 97 = .ok (.iload 8, 2) := by decide +kernel
theorem dX1_takeLetter_99 : decode cX1_takeLetter 99 = .ok (.iload 6, 2) := by decide +kernel
theorem dX1_takeLetter_101 : decode cX1_takeLetter 101 = .ok (.invokestatic 64, 3) := by decide +kernel
theorem dX1_takeLetter_104 : decode cX1_takeLetter 104 = .ok (.iadd, 1) := by decide +kernel
theorem dX1_takeLetter_105 : decode cX1_takeLetter 105 = .ok (.invokestatic 64, 3) := by decide +kernel
theorem dX1_takeLetter_108 : decode cX1_takeLetter 108 = .ok (.istore 6, 2) := by decide +kernel
theorem dX1_takeLetter_110 : decode cX1_takeLetter 110 = .ok (.aload_n 0, 1) := by decide +kernel
theorem dX1_takeLetter_111 : decode cX1_takeLetter 111 = .ok (.getfield 9, 3) := by decide +kernel
theorem dX1_takeLetter_114 : decode cX1_takeLetter 114 = .ok (.iload 7, 2) := by decide +kernel
theorem dX1_takeLetter_116 : decode cX1_takeLetter 116 = .ok (.iload 6, 2) := by decide +kernel
theorem dX1_takeLetter_118 : decode cX1_takeLetter 118 = .ok (.iastore, 1) := by decide +kernel
theorem dX1_takeLetter_119 : decode cX1_takeLetter 119 = .ok (.iload 8, 2) := by decide +kernel
theorem dX1_takeLetter_121 : decode cX1_takeLetter 121 = .ok (.istore 5, 2) := by decide +kernel
theorem dX1_takeLetter_123 : decode cX1_takeLetter 123 = .ok (.iinc 7 1, 3) := by decide +kernel
theorem dX1_takeLetter_126 : decode cX1_takeLetter 126 = .ok (.goto (-69), 3) := by decide +kernel
theorem dX1_takeLetter_129 : decode cX1_takeLetter 129 = .ok (.return_, 1) := by decide +kernel
theorem dX1_endOfRow_0 : decode cX1_endOfRow 0 = .ok (.aload_n 1, 1) := by decide +kernel
theorem dX1_endOfRow_1 : decode cX1_endOfRow 1 = .ok (.getfield 48, 3) := by decide +kernel
theorem dX1_endOfRow_4 : decode cX1_endOfRow 4 = .ok (.ifCond .lt 27, 3) := by decide +kernel
theorem dX1_endOfRow_7 : decode cX1_endOfRow 7 = .ok (.aload_n 1, 1) := by decide +kernel
theorem dX1_endOfRow_8 : decode cX1_endOfRow 8 = .ok (.getfield 48, 3) := by decide +kernel
theorem dX1_endOfRow_11 : decode cX1_endOfRow 11 = .ok (.aload_n 0, 1) := by decide +kernel
theorem dX1_endOfRow_12 : decode cX1_endOfRow 12 = .ok (.getfield 9, 3) := by decide +kernel
theorem dX1_endOfRow_15 : decode cX1_endOfRow 15 = .ok (.arraylength, 1) := by decide +kernel
theorem dX1_endOfRow_16 : decode cX1_endOfRow 16 = .ok (.if_icmp .ge 15, 3) := by decide +kernel
theorem dX1_endOfRow_19 : decode cX1_endOfRow 19 = .ok (.aload_n 0, 1) := by decide +kernel
theorem dX1_endOfRow_20 : decode cX1_endOfRow 20 = .ok (.getfield 9, 3) := by decide +kernel
theorem dX1_endOfRow_23 : decode cX1_endOfRow 23 = .ok (.aload_n 1, 1) := by decide +kernel
theorem dX1_endOfRow_24 : decode cX1_endOfRow 24 = .ok (.getfield 48, 3) := by decide +kernel
theorem dX1_endOfRow_27 : decode cX1_endOfRow 27 = .ok (.iaload, 1) := by decide +kernel
theorem dX1_endOfRow_28 : decode cX1_endOfRow 28 = .ok (.goto 4, 3) := by decide +kernel
theorem dX1_endOfRow_31 : decode cX1_endOfRow 31 = .ok (.iconst 0, 1) := by decide +kernel
theorem dX1_endOfRow_32 : decode cX1_endOfRow 32 = .ok (.ireturn, 1) := by decide +kernel
theorem dX2_init_0 : decode cX2_init 0 = .ok (.aload_n 0, 1) := by decide +kernel
theorem dX2_init_1 : decode cX2_init 1 = .ok (.invokespecial 3, 3) := by decide +kernel
theorem dX2_init_4 : decode cX2_init 4 = .ok (.aload_n 0, 1) := by decide +kernel
theorem dX2_init_5 : decode cX2_init 5 = .ok (.bipush 6, 2) := by decide +kernel
theorem dX2_init_7 : decode cX2_init 7 = .ok (.anewarray 9, 3) := by decide +kernel
theorem dX2_init_10 : decode cX2_init 10 = .ok (.putfield 11, 3) := by decide +kernel
theorem dX2_init_13 : decode cX2_init 13 = .ok (.iconst 0, 1) := by decide +kernel
theorem dX2_init_14 : decode cX2_init 14 = .ok (.istore_n 1, 1) := by decide +kernel
theorem dX2_init_15 : decode cX2_init 15 = .ok (.iload_n 1, 1) := by decide +kernel
theorem dX2_init_16 : decode cX2_init 16 = .ok (.aload_n 0, 1) := by decide +kernel
theorem dX2_init_17 : decode cX2_init 17 = .ok (.getfield 11, 3) := by decide +kernel
theorem dX2_init_20 : decode cX2_init 20 = .ok (.arraylength, 1) := by decide +kernel
theorem dX2_init_21 : decode cX2_init 21 = .ok (.if_icmp .ge 22, 3) := by decide +kernel
theorem dX2_init_24 : decode cX2_init 24 = .ok (.aload_n 0, 1) := by decide +kernel
theorem dX2_init_25 : decode cX2_init 25 = .ok (.getfield 11, 3) := by decide +kernel
theorem dX2_init_28 : decode cX2_init 28 = .ok (.iload_n 1, 1) := by decide +kernel
theorem dX2_init_29 : decode cX2_init 29 = .ok (.new 9, 3) := by decide +kernel
theorem dX2_init_32 : decode cX2_init 32 = .ok (.dup, 1) := by decide +kernel
theorem dX2_init_33 : decode cX2_init 33 = .ok (.invokespecial 17, 3) := by decide +kernel
theorem dX2_init_36 : decode cX2_init 36 = .ok (.aastore, 1) := by decide +kernel
theorem dX2_init_37 : decode cX2_init 37 = .ok (.iinc 1 1, 3) := by decide +kernel
theorem dX2_init_40 : decode cX2_init 40 = .ok (.goto (-25), 3) := by decide +kernel
theorem dX2_init_43 : decode cX2_init 43 = .ok (.return_, 1) := by decide +kernel
theorem dX2_record_0 : decode cX2_record 0 = .ok (.aload_n 0, 1) := by decide +kernel
theorem dX2_record_1 : decode cX2_record 1 = .ok (.getfield 18, 3) := by decide +kernel
theorem dX2_record_4 : decode cX2_record 4 = .ok (.aload_n 0, 1) := by decide +kernel
theorem dX2_record_5 : decode cX2_record 5 = .ok (.getfield 11, 3) := by decide +kernel
theorem dX2_record_8 : decode cX2_record 8 = .ok (.arraylength, 1) := by decide +kernel
theorem dX2_record_9 : decode cX2_record 9 = .ok (.if_icmp .lt 7, 3) := by decide +kernel
theorem dX2_record_12 : decode cX2_record 12 = .ok (.aload_n 0, 1) := by decide +kernel
theorem dX2_record_13 : decode cX2_record 13 = .ok (.invokevirtual 22, 3) := by decide +kernel
theorem dX2_record_16 : decode cX2_record 16 = .ok (.aload_n 0, 1) := by decide +kernel
theorem dX2_record_17 : decode cX2_record 17 = .ok (.getfield 18, 3) := by decide +kernel
theorem dX2_record_20 : decode cX2_record 20 = .ok (.ifCond .lt 38, 3) := by decide +kernel
theorem dX2_record_23 : decode cX2_record 23 = .ok (.aload_n 0, 1) := by decide +kernel
theorem dX2_record_24 : decode cX2_record 24 = .ok (.getfield 18, 3) := by decide +kernel
theorem dX2_record_27 : decode cX2_record 27 = .ok (.aload_n 0, 1) := by decide +kernel
theorem dX2_record_28 : decode cX2_record 28 = .ok (.getfield 11, 3) := by decide +kernel
theorem dX2_record_31 : decode cX2_record 31 = .ok (.arraylength, 1) := by decide +kernel
theorem dX2_record_32 : decode cX2_record 32 = .ok (.if_icmp .ge 26, 3) := by decide +kernel
theorem dX2_record_35 : decode cX2_record 35 = .ok (.aload_n 0, 1) := by decide +kernel
theorem dX2_record_36 : decode cX2_record 36 = .ok (.getfield 11, 3) := by decide +kernel
theorem dX2_record_39 : decode cX2_record 39 = .ok (.aload_n 0, 1) := by decide +kernel
theorem dX2_record_40 : decode cX2_record 40 = .ok (.getfield 18, 3) := by decide +kernel
theorem dX2_record_43 : decode cX2_record 43 = .ok (.aaload, 1) := by decide +kernel
theorem dX2_record_44 : decode cX2_record 44 = .ok (.aload_n 1, 1) := by decide +kernel
theorem dX2_record_45 : decode cX2_record 45 = .ok (.invokevirtual 25, 3) := by decide +kernel
theorem dX2_record_48 : decode cX2_record 48 = .ok (.aload_n 0, 1) := by decide +kernel
theorem dX2_record_49 : decode cX2_record 49 = .ok (.dup, 1) := by decide +kernel
theorem dX2_record_50 : decode cX2_record 50 = .ok (.getfield 18, 3) := by decide +kernel
theorem dX2_record_53 : decode cX2_record 53 = .ok (.iconst 1, 1) := by decide +kernel
theorem dX2_record_54 : decode cX2_record 54 = .ok (.iadd, 1) := by decide +kernel
theorem dX2_record_55 : decode cX2_record 55 = .ok (.putfield 18, 3) := by decide +kernel
theorem dX2_record_58 : decode cX2_record 58 = .ok (.return_, 1) := by decide +kernel
theorem dX2_dropOldest_0 : decode cX2_dropOldest 0 = .ok (.iconst 1, 1) := by decide +kernel
theorem dX2_dropOldest_1 : decode cX2_dropOldest 1 = .ok (.istore_n 1, 1) := by decide +kernel
theorem dX2_dropOldest_2 : decode cX2_dropOldest 2 = .ok (.iload_n 1, 1) := by decide +kernel
theorem dX2_dropOldest_3 : decode cX2_dropOldest 3 = .ok (.aload_n 0, 1) := by decide +kernel
theorem dX2_dropOldest_4 : decode cX2_dropOldest 4 = .ok (.getfield 11, 3) := by decide +kernel
theorem dX2_dropOldest_7 : decode cX2_dropOldest 7 = .ok (.arraylength, 1) := by decide +kernel
theorem dX2_dropOldest_8 : decode cX2_dropOldest 8 = .ok (.if_icmp .ge 39, 3) := by decide +kernel
theorem dX2_dropOldest_11 : decode cX2_dropOldest 11 = .ok (.aload_n 0, 1) := by decide +kernel
theorem dX2_dropOldest_12 : decode cX2_dropOldest 12 = .ok (.getfield 11, 3) := by decide +kernel
theorem dX2_dropOldest_15 : decode cX2_dropOldest 15 = .ok (.iload_n 1, 1) := by decide +kernel
theorem dX2_dropOldest_16 : decode cX2_dropOldest 16 = .ok (.iconst 1, 1) := by decide +kernel
theorem dX2_dropOldest_17 : decode cX2_dropOldest 17 = .ok (.isub, 1) := by decide +kernel
theorem dX2_dropOldest_18 : decode cX2_dropOldest 18 = .ok (.aaload, 1) := by decide +kernel
theorem dX2_dropOldest_19 : decode cX2_dropOldest 19 = .ok (.astore_n 2, 1) := by decide +kernel
theorem dX2_dropOldest_20 : decode cX2_dropOldest 20 = .ok (.aload_n 0, 1) := by decide +kernel
theorem dX2_dropOldest_21 : decode cX2_dropOldest 21 = .ok (.getfield 11, 3) := by decide +kernel
theorem dX2_dropOldest_24 : decode cX2_dropOldest 24 = .ok (.iload_n 1, 1) := by decide +kernel
theorem dX2_dropOldest_25 : decode cX2_dropOldest 25 = .ok (.iconst 1, 1) := by decide +kernel
theorem dX2_dropOldest_26 : decode cX2_dropOldest 26 = .ok (.isub, 1) := by decide +kernel
theorem dX2_dropOldest_27 : decode cX2_dropOldest 27 = .ok (.aload_n 0, 1) := by decide +kernel
theorem dX2_dropOldest_28 : decode cX2_dropOldest 28 = .ok (.getfield 11, 3) := by decide +kernel
theorem dX2_dropOldest_31 : decode cX2_dropOldest 31 = .ok (.iload_n 1, 1) := by decide +kernel
theorem dX2_dropOldest_32 : decode cX2_dropOldest 32 = .ok (.aaload, 1) := by decide +kernel
theorem dX2_dropOldest_33 : decode cX2_dropOldest 33 = .ok (.aastore, 1) := by decide +kernel
theorem dX2_dropOldest_34 : decode cX2_dropOldest 34 = .ok (.aload_n 0, 1) := by decide +kernel
theorem dX2_dropOldest_35 : decode cX2_dropOldest 35 = .ok (.getfield 11, 3) := by decide +kernel
theorem dX2_dropOldest_38 : decode cX2_dropOldest 38 = .ok (.iload_n 1, 1) := by decide +kernel
theorem dX2_dropOldest_39 : decode cX2_dropOldest 39 = .ok (.aload_n 2, 1) := by decide +kernel
theorem dX2_dropOldest_40 : decode cX2_dropOldest 40 = .ok (.aastore, 1) := by decide +kernel
theorem dX2_dropOldest_41 : decode cX2_dropOldest 41 = .ok (.iinc 1 1, 3) := by decide +kernel
theorem dX2_dropOldest_44 : decode cX2_dropOldest 44 = .ok (.goto (-42), 3) := by decide +kernel
theorem dX2_dropOldest_47 : decode cX2_dropOldest 47 = .ok (.aload_n 0, 1) := by decide +kernel
theorem dX2_dropOldest_48 : decode cX2_dropOldest 48 = .ok (.aload_n 0, 1) := by decide +kernel
theorem dX2_dropOldest_49 : decode cX2_dropOldest 49 = .ok (.getfield 11, 3) := by decide +kernel
theorem dX2_dropOldest_52 : decode cX2_dropOldest 52 = .ok (.arraylength, 1) := by decide +kernel
theorem dX2_dropOldest_53 : decode cX2_dropOldest 53 = .ok (.iconst 1, 1) := by decide +kernel
theorem dX2_dropOldest_54 : decode cX2_dropOldest 54 = .ok (.isub, 1) := by decide +kernel
theorem dX2_dropOldest_55 : decode cX2_dropOldest 55 = .ok (.putfield 18, 3) := by decide +kernel
theorem dX2_dropOldest_58 : decode cX2_dropOldest 58 = .ok (.return_, 1) := by decide +kernel
theorem dX2_stepBack_0 : decode cX2_stepBack 0 = .ok (.aload_n 0, 1) := by decide +kernel
theorem dX2_stepBack_1 : decode cX2_stepBack 1 = .ok (.getfield 18, 3) := by decide +kernel
theorem dX2_stepBack_4 : decode cX2_stepBack 4 = .ok (.ifCond .le 38, 3) := by decide +kernel
theorem dX2_stepBack_7 : decode cX2_stepBack 7 = .ok (.aload_n 0, 1) := by decide +kernel
theorem dX2_stepBack_8 : decode cX2_stepBack 8 = .ok (.getfield 18, 3) := by decide +kernel
theorem dX2_stepBack_11 : decode cX2_stepBack 11 = .ok (.aload_n 0, 1) := by decide +kernel
theorem dX2_stepBack_12 : decode cX2_stepBack 12 = .ok (.getfield 11, 3) := by decide +kernel
theorem dX2_stepBack_15 : decode cX2_stepBack 15 = .ok (.arraylength, 1) := by decide +kernel
theorem dX2_stepBack_16 : decode cX2_stepBack 16 = .ok (.if_icmp .gt 26, 3) := by decide +kernel
theorem dX2_stepBack_19 : decode cX2_stepBack 19 = .ok (.aload_n 0, 1) := by decide +kernel
theorem dX2_stepBack_20 : decode cX2_stepBack 20 = .ok (.dup, 1) := by decide +kernel
theorem dX2_stepBack_21 : decode cX2_stepBack 21 = .ok (.getfield 18, 3) := by decide +kernel
theorem dX2_stepBack_24 : decode cX2_stepBack 24 = .ok (.iconst 1, 1) := by decide +kernel
theorem dX2_stepBack_25 : decode cX2_stepBack 25 = .ok (.isub, 1) := by decide +kernel
theorem dX2_stepBack_26 : decode cX2_stepBack 26 = .ok (.putfield 18, 3) := by decide +kernel
theorem dX2_stepBack_29 : decode cX2_stepBack 29 = .ok (.aload_n 1, 1) := by decide +kernel
theorem dX2_stepBack_30 : decode cX2_stepBack 30 = .ok (.aload_n 0, 1) := by decide +kernel
theorem dX2_stepBack_31 : decode cX2_stepBack 31 = .ok (.getfield 11, 3) := by decide +kernel
theorem dX2_stepBack_34 : decode cX2_stepBack 34 = .ok (.aload_n 0, 1) := by decide +kernel
theorem dX2_stepBack_35 : decode cX2_stepBack 35 = .ok (.getfield 18, 3) := by decide +kernel
theorem dX2_stepBack_38 : decode cX2_stepBack 38 = .ok (.aaload, 1) := by decide +kernel
theorem dX2_stepBack_39 : decode cX2_stepBack 39 = .ok (.invokevirtual 25, 3) := by decide +kernel
theorem dX2_stepBack_42 : decode cX2_stepBack 42 = .ok (.return_, 1) := by decide +kernel
theorem dX3_init_0 : decode cX3_init 0 = .ok (.aload_n 0, 1) := by decide +kernel
theorem dX3_init_1 : decode cX3_init 1 = .ok (.invokespecial 3, 3) := by decide +kernel
theorem dX3_init_4 : decode cX3_init 4 = .ok (.aload_n 0, 1) := by decide +kernel
theorem dX3_init_5 : decode cX3_init 5 = .ok (.new 9, 3) := by decide +kernel
theorem dX3_init_8 : decode cX3_init 8 = .ok (.dup, 1) := by decide +kernel
theorem dX3_init_9 : decode cX3_init 9 = .ok (.bipush 6, 2) := by decide +kernel
theorem dX3_init_11 : decode cX3_init 11 = .ok (.invokespecial 11, 3) := by decide +kernel
theorem dX3_init_14 : decode cX3_init 14 = .ok (.putfield 14, 3) := by decide +kernel
theorem dX3_init_17 : decode cX3_init 17 = .ok (.aload_n 0, 1) := by decide +kernel
theorem dX3_init_18 : decode cX3_init 18 = .ok (.new 9, 3) := by decide +kernel
theorem dX3_init_21 : decode cX3_init 21 = .ok (.dup, 1) := by decide +kernel
theorem dX3_init_22 : decode cX3_init 22 = .ok (.bipush 16, 2) := by decide +kernel
theorem dX3_init_24 : decode cX3_init 24 = .ok (.invokespecial 11, 3) := by decide +kernel
theorem dX3_init_27 : decode cX3_init 27 = .ok (.putfield 20, 3) := by decide +kernel
theorem dX3_init_30 : decode cX3_init 30 = .ok (.aload_n 0, 1) := by decide +kernel
theorem dX3_init_31 : decode cX3_init 31 = .ok (.new 9, 3) := by decide +kernel
theorem dX3_init_34 : decode cX3_init 34 = .ok (.dup, 1) := by decide +kernel
theorem dX3_init_35 : decode cX3_init 35 = .ok (.bipush 6, 2) := by decide +kernel
theorem dX3_init_37 : decode cX3_init 37 = .ok (.invokespecial 11, 3) := by decide +kernel
theorem dX3_init_40 : decode cX3_init 40 = .ok (.putfield 23, 3) := by decide +kernel
theorem dX3_init_43 : decode cX3_init 43 = .ok (.return_, 1) := by decide +kernel
theorem dX3_become_0 : decode cX3_become 0 = .ok (.aload_n 0, 1) := by decide +kernel
theorem dX3_become_1 : decode cX3_become 1 = .ok (.getfield 14, 3) := by decide +kernel
theorem dX3_become_4 : decode cX3_become 4 = .ok (.aload_n 1, 1) := by decide +kernel
theorem dX3_become_5 : decode cX3_become 5 = .ok (.getfield 14, 3) := by decide +kernel
theorem dX3_become_8 : decode cX3_become 8 = .ok (.invokevirtual 26, 3) := by decide +kernel
theorem dX3_become_11 : decode cX3_become 11 = .ok (.aload_n 0, 1) := by decide +kernel
theorem dX3_become_12 : decode cX3_become 12 = .ok (.getfield 20, 3) := by decide +kernel
theorem dX3_become_15 : decode cX3_become 15 = .ok (.aload_n 1, 1) := by decide +kernel
theorem dX3_become_16 : decode cX3_become 16 = .ok (.getfield 20, 3) := by decide +kernel
theorem dX3_become_19 : decode cX3_become 19 = .ok (.invokevirtual 26, 3) := by decide +kernel
theorem dX3_become_22 : decode cX3_become 22 = .ok (.aload_n 0, 1) := by decide +kernel
theorem dX3_become_23 : decode cX3_become 23 = .ok (.getfield 23, 3) := by decide +kernel
theorem dX3_become_26 : decode cX3_become 26 = .ok (.aload_n 1, 1) := by decide +kernel
theorem dX3_become_27 : decode cX3_become 27 = .ok (.getfield 23, 3) := by decide +kernel
theorem dX3_become_30 : decode cX3_become 30 = .ok (.invokevirtual 26, 3) := by decide +kernel
theorem dX3_become_33 : decode cX3_become 33 = .ok (.aload_n 0, 1) := by decide +kernel
theorem dX3_become_34 : decode cX3_become 34 = .ok (.aload_n 1, 1) := by decide +kernel
theorem dX3_become_35 : decode cX3_become 35 = .ok (.getfield 30, 3) := by decide +kernel
theorem dX3_become_38 : decode cX3_become 38 = .ok (.putfield 30, 3) := by decide +kernel
theorem dX3_become_41 : decode cX3_become 41 = .ok (.aload_n 0, 1) := by decide +kernel
theorem dX3_become_42 : decode cX3_become 42 = .ok (.aload_n 1, 1) := by decide +kernel
theorem dX3_become_43 : decode cX3_become 43 = .ok (.getfield 34, 3) := by decide +kernel
theorem dX3_become_46 : decode cX3_become 46 = .ok (.putfield 34, 3) := by decide +kernel
theorem dX3_become_49 : decode cX3_become 49 = .ok (.aload_n 0, 1) := by decide +kernel
theorem dX3_become_50 : decode cX3_become 50 = .ok (.aload_n 1, 1) := by decide +kernel
theorem dX3_become_51 : decode cX3_become 51 = .ok (.getfield 37, 3) := by decide +kernel
theorem dX3_become_54 : decode cX3_become 54 = .ok (.putfield 37, 3) := by decide +kernel
theorem dX3_become_57 : decode cX3_become 57 = .ok (.aload_n 0, 1) := by decide +kernel
theorem dX3_become_58 : decode cX3_become 58 = .ok (.aload_n 1, 1) := by decide +kernel
theorem dX3_become_59 : decode cX3_become 59 = .ok (.getfield 40, 3) := by decide +kernel
theorem dX3_become_62 : decode cX3_become 62 = .ok (.putfield 40, 3) := by decide +kernel
theorem dX3_become_65 : decode cX3_become 65 = .ok (.aload_n 0, 1) := by decide +kernel
theorem dX3_become_66 : decode cX3_become 66 = .ok (.aload_n 1, 1) := by decide +kernel
theorem dX3_become_67 : decode cX3_become 67 = .ok (.getfield 43, 3) := by decide +kernel
theorem dX3_become_70 : decode cX3_become 70 = .ok (.putfield 43, 3) := by decide +kernel
theorem dX3_become_73 : decode cX3_become 73 = .ok (.return_, 1) := by decide +kernel
theorem dX3_begin_0 : decode cX3_begin 0 = .ok (.aload_n 0, 1) := by decide +kernel
theorem dX3_begin_1 : decode cX3_begin 1 = .ok (.iload_n 1, 1) := by decide +kernel
theorem dX3_begin_2 : decode cX3_begin 2 = .ok (.putfield 30, 3) := by decide +kernel
theorem dX3_begin_5 : decode cX3_begin 5 = .ok (.aload_n 0, 1) := by decide +kernel
theorem dX3_begin_6 : decode cX3_begin 6 = .ok (.iconst 1, 1) := by decide +kernel
theorem dX3_begin_7 : decode cX3_begin 7 = .ok (.putfield 43, 3) := by decide +kernel
theorem dX3_begin_10 : decode cX3_begin 10 = .ok (.aload_n 0, 1) := by decide +kernel
theorem dX3_begin_11 : decode cX3_begin 11 = .ok (.iload_n 2, 1) := by decide +kernel
theorem dX3_begin_12 : decode cX3_begin 12 = .ok (.iload_n 3, 1) := by decide +kernel
theorem dX3_begin_13 : decode cX3_begin 13 = .ok (.invokevirtual 46, 3) := by decide +kernel
theorem dX3_begin_16 : decode cX3_begin 16 = .ok (.aload_n 0, 1) := by decide +kernel
theorem dX3_begin_17 : decode cX3_begin 17 = .ok (.aload 4, 2) := by decide +kernel
theorem dX3_begin_19 : decode cX3_begin 19 = .ok (.invokevirtual 50, 3) := by decide +kernel
theorem dX3_begin_22 : decode cX3_begin 22 = .ok (.return_, 1) := by decide +kernel
theorem dX3_attachTo_0 : decode cX3_attachTo 0 = .ok (.aload_n 0, 1) := by decide +kernel
theorem dX3_attachTo_1 : decode cX3_attachTo 1 = .ok (.iload_n 1, 1) := by decide +kernel
theorem dX3_attachTo_2 : decode cX3_attachTo 2 = .ok (.putfield 37, 3) := by decide +kernel
theorem dX3_attachTo_5 : decode cX3_attachTo 5 = .ok (.aload_n 0, 1) := by decide +kernel
theorem dX3_attachTo_6 : decode cX3_attachTo 6 = .ok (.iload_n 2, 1) := by decide +kernel
theorem dX3_attachTo_7 : decode cX3_attachTo 7 = .ok (.putfield 40, 3) := by decide +kernel
theorem dX3_attachTo_10 : decode cX3_attachTo 10 = .ok (.aload_n 0, 1) := by decide +kernel
theorem dX3_attachTo_11 : decode cX3_attachTo 11 = .ok (.iconst 1, 1) := by decide +kernel
theorem dX3_attachTo_12 : decode cX3_attachTo 12 = .ok (.putfield 34, 3) := by decide +kernel
theorem dX3_attachTo_15 : decode cX3_attachTo 15 = .ok (.return_, 1) := by decide +kernel
theorem dX3_quoteFrom_0 : decode cX3_quoteFrom 0 = .ok (.aload_n 0, 1) := by decide +kernel
theorem dX3_quoteFrom_1 : decode cX3_quoteFrom 1 = .ok (.getfield 14, 3) := by decide +kernel
theorem dX3_quoteFrom_4 : decode cX3_quoteFrom 4 = .ok (.aload_n 1, 1) := by decide +kernel
theorem dX3_quoteFrom_5 : decode cX3_quoteFrom 5 = .ok (.aload_n 0, 1) := by decide +kernel
theorem dX3_quoteFrom_6 : decode cX3_quoteFrom 6 = .ok (.getfield 37, 3) := by decide +kernel
theorem dX3_quoteFrom_9 : decode cX3_quoteFrom 9 = .ok (.bipush 6, 2) := by decide +kernel
theorem dX3_quoteFrom_11 : decode cX3_quoteFrom 11 = .ok (.isub, 1) := by decide +kernel
theorem dX3_quoteFrom_12 : decode cX3_quoteFrom 12 = .ok (.aload_n 0, 1) := by decide +kernel
theorem dX3_quoteFrom_13 : decode cX3_quoteFrom 13 = .ok (.getfield 37, 3) := by decide +kernel
theorem dX3_quoteFrom_16 : decode cX3_quoteFrom 16 = .ok (.invokevirtual 53, 3) := by decide +kernel
theorem dX3_quoteFrom_19 : decode cX3_quoteFrom 19 = .ok (.aload_n 0, 1) := by decide +kernel
theorem dX3_quoteFrom_20 : decode cX3_quoteFrom 20 = .ok (.getfield 20, 3) := by decide +kernel
theorem dX3_quoteFrom_23 : decode cX3_quoteFrom 23 = .ok (.aload_n 1, 1) := by decide +kernel
theorem dX3_quoteFrom_24 : decode cX3_quoteFrom 24 = .ok (.aload_n 0, 1) := by decide +kernel
theorem dX3_quoteFrom_25 : decode cX3_quoteFrom 25 = .ok (.getfield 37, 3) := by decide +kernel
theorem dX3_quoteFrom_28 : decode cX3_quoteFrom 28 = .ok (.aload_n 0, 1) := by decide +kernel
theorem dX3_quoteFrom_29 : decode cX3_quoteFrom 29 = .ok (.getfield 40, 3) := by decide +kernel
theorem dX3_quoteFrom_32 : decode cX3_quoteFrom 32 = .ok (.invokevirtual 53, 3) := by decide +kernel
theorem dX3_quoteFrom_35 : decode cX3_quoteFrom 35 = .ok (.aload_n 0, 1) := by decide +kernel
theorem dX3_quoteFrom_36 : decode cX3_quoteFrom 36 = .ok (.getfield 23, 3) := by decide +kernel
theorem dX3_quoteFrom_39 : decode cX3_quoteFrom 39 = .ok (.aload_n 1, 1) := by decide +kernel
theorem dX3_quoteFrom_40 : decode cX3_quoteFrom 40 = .ok (.aload_n 0, 1) := by decide +kernel
theorem dX3_quoteFrom_41 : decode cX3_quoteFrom 41 = .ok (.getfield 40, 3) := by decide +kernel
theorem dX3_quoteFrom_44 : decode cX3_quoteFrom 44 = .ok (.aload_n 0, 1) := by decide +kernel
theorem dX3_quoteFrom_45 : decode cX3_quoteFrom 45 = .ok (.getfield 40, 3) := by decide +kernel
theorem dX3_quoteFrom_48 : decode cX3_quoteFrom 48 = .ok (.bipush 6, 2) := by decide +kernel
theorem dX3_quoteFrom_50 : decode cX3_quoteFrom 50 = .ok (.iadd, 1) := by decide +kernel
theorem dX3_quoteFrom_51 : decode cX3_quoteFrom 51 = .ok (.invokevirtual 53, 3) := by decide +kernel
theorem dX3_quoteFrom_54 : decode cX3_quoteFrom 54 = .ok (.return_, 1) := by decide +kernel
theorem dX3_moveForInsert_0 : decode cX3_moveForInsert 0 = .ok (.aload_n 0, 1) := by decide +kernel
theorem dX3_moveForInsert_1 : decode cX3_moveForInsert 1 = .ok (.getfield 37, 3) := by decide +kernel
theorem dX3_moveForInsert_4 : decode cX3_moveForInsert 4 = .ok (.iload_n 1, 1) := by decide +kernel
theorem dX3_moveForInsert_5 : decode cX3_moveForInsert 5 = .ok (.if_icmp .lt 26, 3) := by decide +kernel
theorem dX3_moveForInsert_8 : decode cX3_moveForInsert 8 = .ok (.aload_n 0, 1) := by decide +kernel
theorem dX3_moveForInsert_9 : decode cX3_moveForInsert 9 = .ok (.dup, 1) := by decide +kernel
theorem dX3_moveForInsert_10 : decode cX3_moveForInsert 10 = .ok (.getfield 37, 3) := by decide +kernel
theorem dX3_moveForInsert_13 : decode cX3_moveForInsert 13 = .ok (.iload_n 2, 1) := by decide +kernel
theorem dX3_moveForInsert_14 : decode cX3_moveForInsert 14 = .ok (.iadd, 1) := by decide +kernel
theorem dX3_moveForInsert_15 : decode cX3_moveForInsert 15 = .ok (.putfield 37, 3) := by decide +kernel
theorem dX3_moveForInsert_18 : decode cX3_moveForInsert 18 = .ok (.aload_n 0, 1) := by decide +kernel
theorem dX3_moveForInsert_19 : decode cX3_moveForInsert 19 = .ok (.dup, 1) := by decide +kernel
theorem dX3_moveForInsert_20 : decode cX3_moveForInsert 20 = .ok (.getfield 40, 3) := by decide +kernel
theorem dX3_moveForInsert_23 : decode cX3_moveForInsert 23 = .ok (.iload_n 2, 1) := by decide +kernel
theorem dX3_moveForInsert_24 : decode cX3_moveForInsert 24 = .ok (.iadd, 1) := by decide +kernel
theorem dX3_moveForInsert_25 : decode cX3_moveForInsert 25 = .ok (.putfield 40, 3) := by decide +kernel
theorem dX3_moveForInsert_28 : decode cX3_moveForInsert 28 = .ok (.goto 21, 3) := by decide +kernel
theorem dX3_moveForInsert_31 : decode cX3_moveForInsert 31 = .ok (.aload_n 0, 1) := by decide +kernel
theorem dX3_moveForInsert_32 : decode cX3_moveForInsert 32 = .ok (.getfield 40, 3) := by decide +kernel
theorem dX3_moveForInsert_35 : decode cX3_moveForInsert 35 = .ok (.iload_n 1, 1) := by decide +kernel
theorem dX3_moveForInsert_36 : decode cX3_moveForInsert 36 = .ok (.if_icmp .le 13, 3) := by decide +kernel
theorem dX3_moveForInsert_39 : decode cX3_moveForInsert 39 = .ok (.aload_n 0, 1) := by decide +kernel
theorem dX3_moveForInsert_40 : decode cX3_moveForInsert 40 = .ok (.dup, 1) := by decide +kernel
theorem dX3_moveForInsert_41 : decode cX3_moveForInsert 41 = .ok (.getfield 40, 3) := by decide +kernel
theorem dX3_moveForInsert_44 : decode cX3_moveForInsert 44 = .ok (.iload_n 2, 1) := by decide +kernel
theorem dX3_moveForInsert_45 : decode cX3_moveForInsert 45 = .ok (.iadd, 1) := by decide +kernel
theorem dX3_moveForInsert_46 : decode cX3_moveForInsert 46 = .ok (.putfield 40, 3) := by decide +kernel
theorem dX3_moveForInsert_49 : decode cX3_moveForInsert 49 = .ok (.return_, 1) := by decide +kernel
theorem dX3_moveForDelete_0 : decode cX3_moveForDelete 0 = .ok (.aload_n 0, 1) := by decide +kernel
theorem dX3_moveForDelete_1 : decode cX3_moveForDelete 1 = .ok (.aload_n 0, 1) := by decide +kernel
theorem dX3_moveForDelete_2 : decode cX3_moveForDelete 2 = .ok (.getfield 37, 3) := by decide +kernel
theorem dX3_moveForDelete_5 : decode cX3_moveForDelete 5 = .ok (.iload_n 1, 1) := by decide +kernel
theorem dX3_moveForDelete_6 : decode cX3_moveForDelete 6 = .ok (.iload_n 2, 1) := by decide +kernel
theorem dX3_moveForDelete_7 : decode cX3_moveForDelete 7 = .ok (.invokestatic 57, 3) := by decide +kernel
theorem dX3_moveForDelete_10 : decode cX3_moveForDelete 10 = .ok (.putfield 37, 3) := by decide +kernel
theorem dX3_moveForDelete_13 : decode cX3_moveForDelete 13 = .ok (.aload_n 0, 1) := by decide +kernel
theorem dX3_moveForDelete_14 : decode cX3_moveForDelete 14 = .ok (.aload_n 0, 1) := by decide +kernel
theorem dX3_moveForDelete_15 : decode cX3_moveForDelete 15 = .ok (.getfield 40, 3) := by decide +kernel
theorem dX3_moveForDelete_18 : decode cX3_moveForDelete 18 = .ok (.iload_n 1, 1) := by decide +kernel
theorem dX3_moveForDelete_19 : decode cX3_moveForDelete 19 = .ok (.iload_n 2, 1) := by decide +kernel
theorem dX3_moveForDelete_20 : decode cX3_moveForDelete 20 = .ok (.invokestatic 57, 3) := by decide +kernel
theorem dX3_moveForDelete_23 : decode cX3_moveForDelete 23 = .ok (.putfield 40, 3) := by decide +kernel
theorem dX3_moveForDelete_26 : decode cX3_moveForDelete 26 = .ok (.aload_n 0, 1) := by decide +kernel
theorem dX3_moveForDelete_27 : decode cX3_moveForDelete 27 = .ok (.getfield 34, 3) := by decide +kernel
theorem dX3_moveForDelete_30 : decode cX3_moveForDelete 30 = .ok (.ifCond .eq 14, 3) := by decide +kernel
theorem dX3_moveForDelete_33 : decode cX3_moveForDelete 33 = .ok (.aload_n 0, 1) := by decide +kernel
theorem dX3_moveForDelete_34 : decode cX3_moveForDelete 34 = .ok (.getfield 37, 3) := by decide +kernel
theorem dX3_moveForDelete_37 : decode cX3_moveForDelete 37 = .ok (.aload_n 0, 1) := by decide +kernel
theorem dX3_moveForDelete_38 : decode cX3_moveForDelete 38 = .ok (.getfield 40, 3) := by decide +kernel
theorem dX3_moveForDelete_41 : decode cX3_moveForDelete 41 = .ok (.if_icmp .ge 5, 3) := by decide +kernel
theorem dX3_moveForDelete_44 : decode cX3_moveForDelete 44 = .ok (.iconst 0, 1) := by decide +kernel
theorem dX3_moveForDelete_45 : decode cX3_moveForDelete 45 = .ok (.ireturn, 1) := by decide +kernel
theorem dX3_moveForDelete_46 : decode cX3_moveForDelete 46 = .ok (.aload_n 0, 1) := by decide +kernel
theorem dX3_moveForDelete_47 : decode cX3_moveForDelete 47 = .ok (.iconst 0, 1) := by decide +kernel
theorem dX3_moveForDelete_48 : decode cX3_moveForDelete 48 = .ok (.putfield 34, 3) := by decide +kernel
theorem dX3_moveForDelete_51 : decode cX3_moveForDelete 51 = .ok (.iconst 1, 1) := by decide +kernel
theorem dX3_moveForDelete_52 : decode cX3_moveForDelete 52 = .ok (.ireturn, 1) := by decide +kernel
theorem dX3_boundAfterDelete_0 : decode cX3_boundAfterDelete 0 = .ok (.iload_n 0, 1) := by decide +kernel
theorem dX3_boundAfterDelete_1 : decode cX3_boundAfterDelete 1 = .ok (.iload_n 1, 1) := by decide +kernel
theorem dX3_boundAfterDelete_2 : decode cX3_boundAfterDelete 2 = .ok (.iload_n 2, 1) := by decide +kernel
theorem dX3_boundAfterDelete_3 : decode cX3_boundAfterDelete 3 = .ok (.iadd, 1) := by decide +kernel
theorem dX3_boundAfterDelete_4 : decode cX3_boundAfterDelete 4 = .ok (.if_icmp .lt 9, 3) := by decide +kernel
theorem dX3_boundAfterDelete_7 : decode cX3_boundAfterDelete 7 = .ok (.iload_n 0, 1) := by decide +kernel
theorem dX3_boundAfterDelete_8 : decode cX3_boundAfterDelete 8 = .ok (.iload_n 2, 1) := by decide +kernel
theorem dX3_boundAfterDelete_9 : decode cX3_boundAfterDelete 9 = .ok (.isub, 1) := by decide +kernel
theorem dX3_boundAfterDelete_10 : decode cX3_boundAfterDelete 10 = .ok (.goto 8, 3) := by decide +kernel
theorem dX3_boundAfterDelete_13 : decode cX3_boundAfterDelete 13 = .ok (.iload_n 0, 1) := by decide +kernel
theorem dX3_boundAfterDelete_14 : decode cX3_boundAfterDelete 14 = .ok (.iload_n 1, 1) := by decide +kernel
theorem dX3_boundAfterDelete_15 : decode cX3_boundAfterDelete 15 = .ok (.invokestatic 61, 3) := by decide +kernel
theorem dX3_boundAfterDelete_18 : decode cX3_boundAfterDelete 18 = .ok (.ireturn, 1) := by decide +kernel
theorem dX3_moveForReplacement_0 : decode cX3_moveForReplacement 0 = .ok (.aload_n 0, 1) := by decide +kernel
theorem dX3_moveForReplacement_1 : decode cX3_moveForReplacement 1 = .ok (.iconst 0, 1) := by decide +kernel
theorem dX3_moveForReplacement_2 : decode cX3_moveForReplacement 2 = .ok (.putfield 34, 3) := by decide +kernel
theorem dX3_moveForReplacement_5 : decode cX3_moveForReplacement 5 = .ok (.aload_n 0, 1) := by decide +kernel
theorem dX3_moveForReplacement_6 : decode cX3_moveForReplacement 6 = .ok (.aload_n 0, 1) := by decide +kernel
theorem dX3_moveForReplacement_7 : decode cX3_moveForReplacement 7 = .ok (.getfield 37, 3) := by decide +kernel
theorem dX3_moveForReplacement_10 : decode cX3_moveForReplacement 10 = .ok (.iload_n 1, 1) := by decide +kernel
theorem dX3_moveForReplacement_11 : decode cX3_moveForReplacement 11 = .ok (.invokestatic 61, 3) := by decide +kernel
theorem dX3_moveForReplacement_14 : decode cX3_moveForReplacement 14 = .ok (.putfield 37, 3) := by decide +kernel
theorem dX3_moveForReplacement_17 : decode cX3_moveForReplacement 17 = .ok (.aload_n 0, 1) := by decide +kernel
theorem dX3_moveForReplacement_18 : decode cX3_moveForReplacement 18 = .ok (.aload_n 0, 1) := by decide +kernel
theorem dX3_moveForReplacement_19 : decode cX3_moveForReplacement 19 = .ok (.getfield 40, 3) := by decide +kernel
theorem dX3_moveForReplacement_22 : decode cX3_moveForReplacement 22 = .ok (.iload_n 1, 1) := by decide +kernel
theorem dX3_moveForReplacement_23 : decode cX3_moveForReplacement 23 = .ok (.invokestatic 61, 3) := by decide +kernel
theorem dX3_moveForReplacement_26 : decode cX3_moveForReplacement 26 = .ok (.putfield 40, 3) := by decide +kernel
theorem dX3_moveForReplacement_29 : decode cX3_moveForReplacement 29 = .ok (.return_, 1) := by decide +kernel
theorem dX3_isTwinOf_0 : decode cX3_isTwinOf 0 = .ok (.aload_n 0, 1) := by decide +kernel
theorem dX3_isTwinOf_1 : decode cX3_isTwinOf 1 = .ok (.getfield 34, 3) := by decide +kernel
theorem dX3_isTwinOf_4 : decode cX3_isTwinOf 4 = .ok (.iconst 1, 1) := by decide +kernel
theorem dX3_isTwinOf_5 : decode cX3_isTwinOf 5 = .ok (.if_icmp .ne 37, 3) := by decide +kernel
theorem dX3_isTwinOf_8 : decode cX3_isTwinOf 8 = .ok (.aload_n 1, 1) := by decide +kernel
theorem dX3_isTwinOf_9 : decode cX3_isTwinOf 9 = .ok (.getfield 34, 3) := by decide +kernel
theorem dX3_isTwinOf_12 : decode cX3_isTwinOf 12 = .ok (.iconst 1, 1) := by decide +kernel
theorem dX3_isTwinOf_13 : decode cX3_isTwinOf 13 = .ok (.if_icmp .ne 29, 3) := by decide +kernel
theorem dX3_isTwinOf_16 : decode cX3_isTwinOf 16 = .ok (.aload_n 0, 1) := by decide +kernel
theorem dX3_isTwinOf_17 : decode cX3_isTwinOf 17 = .ok (.getfield 37, 3) := by decide +kernel
theorem dX3_isTwinOf_20 : decode cX3_isTwinOf 20 = .ok (.aload_n 1, 1) := by decide +kernel
theorem dX3_isTwinOf_21 : decode cX3_isTwinOf 21 = .ok (.getfield 37, 3) := by decide +kernel
theorem dX3_isTwinOf_24 : decode cX3_isTwinOf 24 = .ok (.if_icmp .ne 18, 3) := by decide +kernel
theorem dX3_isTwinOf_27 : decode cX3_isTwinOf 27 = .ok (.aload_n 0, 1) := by decide +kernel
theorem dX3_isTwinOf_28 : decode cX3_isTwinOf 28 = .ok (.getfield 40, 3) := by decide +kernel
theorem dX3_isTwinOf_31 : decode cX3_isTwinOf 31 = .ok (.aload_n 1, 1) := by decide +kernel
theorem dX3_isTwinOf_32 : decode cX3_isTwinOf 32 = .ok (.getfield 40, 3) := by decide +kernel
theorem dX3_isTwinOf_35 : decode cX3_isTwinOf 35 = .ok (.if_icmp .ne 7, 3) := by decide +kernel
theorem dX3_isTwinOf_38 : decode cX3_isTwinOf 38 = .ok (.iconst 1, 1) := by decide +kernel
theorem dX3_isTwinOf_39 : decode cX3_isTwinOf 39 = .ok (.goto 4, 3) := by decide +kernel
theorem dX3_isTwinOf_42 : decode cX3_isTwinOf 42 = .ok (.iconst 0, 1) := by decide +kernel
theorem dX3_isTwinOf_43 : decode cX3_isTwinOf 43 = .ok (.ireturn, 1) := by decide +kernel
theorem dX3_covers_0 : decode cX3_covers 0 = .ok (.aload_n 0, 1) := by decide +kernel
theorem dX3_covers_1 : decode cX3_covers 1 = .ok (.getfield 34, 3) := by decide +kernel
theorem dX3_covers_4 : decode cX3_covers 4 = .ok (.iconst 1, 1) := by decide +kernel
theorem dX3_covers_5 : decode cX3_covers 5 = .ok (.if_icmp .ne 23, 3) := by decide +kernel
theorem dX3_covers_8 : decode cX3_covers 8 = .ok (.aload_n 0, 1) := by decide +kernel
theorem dX3_covers_9 : decode cX3_covers 9 = .ok (.getfield 37, 3) := by decide +kernel
theorem dX3_covers_12 : decode cX3_covers 12 = .ok (.iload_n 1, 1) := by decide +kernel
theorem dX3_covers_13 : decode cX3_covers 13 = .ok (.if_icmp .gt 15, 3) := by decide +kernel
theorem dX3_covers_16 : decode cX3_covers 16 = .ok (.iload_n 1, 1) := by decide +kernel
theorem dX3_covers_17 : decode cX3_covers 17 = .ok (.aload_n 0, 1) := by decide +kernel
theorem dX3_covers_18 : decode cX3_covers 18 = .ok (.getfield 40, 3) := by decide +kernel
theorem dX3_covers_21 : decode cX3_covers 21 = .ok (.if_icmp .ge 7, 3) := by decide +kernel
theorem dX3_covers_24 : decode cX3_covers 24 = .ok (.iconst 1, 1) := by decide +kernel
theorem dX3_covers_25 : decode cX3_covers 25 = .ok (.goto 4, 3) := by decide +kernel
theorem dX3_covers_28 : decode cX3_covers 28 = .ok (.iconst 0, 1) := by decide +kernel
theorem dX3_covers_29 : decode cX3_covers 29 = .ok (.ireturn, 1) := by decide +kernel
theorem dX3_standsBefore_0 : decode cX3_standsBefore 0 = .ok (.aload_n 0, 1) := by decide +kernel
theorem dX3_standsBefore_1 : decode cX3_standsBefore 1 = .ok (.getfield 37, 3) := by decide +kernel
theorem dX3_standsBefore_4 : decode cX3_standsBefore 4 = .ok (.aload_n 1, 1) := by decide +kernel
theorem dX3_standsBefore_5 : decode cX3_standsBefore 5 = .ok (.getfield 37, 3) := by decide +kernel
theorem dX3_standsBefore_8 : decode cX3_standsBefore 8 = .ok (.if_icmp .eq 20, 3) := by decide +kernel
theorem dX3_standsBefore_11 : decode cX3_standsBefore 11 = .ok (.aload_n 0, 1) := by decide +kernel
theorem dX3_standsBefore_12 : decode cX3_standsBefore 12 = .ok (.getfield 37, 3) := by decide +kernel
theorem dX3_standsBefore_15 : decode cX3_standsBefore 15 = .ok (.aload_n 1, 1) := by decide +kernel
theorem dX3_standsBefore_16 : decode cX3_standsBefore 16 = .ok (.getfield 37, 3) := by decide +kernel
theorem dX3_standsBefore_19 : decode cX3_standsBefore 19 = .ok (.if_icmp .ge 7, 3) := by decide +kernel
theorem dX3_standsBefore_22 : decode cX3_standsBefore 22 = .ok (.iconst 1, 1) := by decide +kernel
theorem dX3_standsBefore_23 : decode cX3_standsBefore 23 = .ok (.goto 4, 3) := by decide +kernel
theorem dX3_standsBefore_26 : decode cX3_standsBefore 26 = .ok (.iconst 0, 1) := by decide +kernel
theorem dX3_standsBefore_27 : decode cX3_standsBefore 27 = .ok (.ireturn, 1) := by decide +kernel
theorem dX3_standsBefore_28 : decode cX3_standsBefore 28 = .ok (.aload_n 0, 1) := by decide +kernel
theorem dX3_standsBefore_29 : decode cX3_standsBefore 29 = .ok (.getfield 40, 3) := by decide +kernel
theorem dX3_standsBefore_32 : decode cX3_standsBefore 32 = .ok (.aload_n 1, 1) := by decide +kernel
theorem dX3_standsBefore_33 : decode cX3_standsBefore 33 = .ok (.getfield 40, 3) := by decide +kernel
theorem dX3_standsBefore_36 : decode cX3_standsBefore 36 = .ok (.if_icmp .eq 22, 3) := by decide +kernel
theorem dX3_standsBefore_39 : decode cX3_standsBefore 39 = .ok (.aload_n 0, 1) := by decide +kernel
theorem dX3_standsBefore_40 : decode cX3_standsBefore 40 = .ok (.getfield 40, 3) := by decide +kernel
theorem dX3_standsBefore_43 : decode cX3_standsBefore 43 = .ok (.aload_n 1, 1) := by decide +kernel
theorem dX3_standsBefore_44 : decode cX3_standsBefore 44 = .ok (.getfield 40, 3) := by decide +kernel
theorem dX3_standsBefore_47 : decode cX3_standsBefore 47 = .ok (.if_icmp .le 7, 3) := by decide +kernel
theorem dX3_standsBefore_50 : decode cX3_standsBefore 50 = .ok (.iconst 1, 1) := by decide +kernel
theorem dX3_standsBefore_51 : decode cX3_standsBefore 51 = .ok (.goto 23, 3) := by decide +kernel
theorem dX3_standsBefore_54 : decode cX3_standsBefore 54 = .ok (.iconst 0, 1) := by decide +kernel
theorem dX3_standsBefore_55 : decode cX3_standsBefore 55 = .ok (.goto 19, 3) := by decide +kernel
theorem dX3_standsBefore_58 : decode cX3_standsBefore 58 = .ok (.aload_n 0, 1) := by decide +kernel
theorem dX3_standsBefore_59 : decode cX3_standsBefore 59 = .ok (.getfield 30, 3) := by decide +kernel
theorem dX3_standsBefore_62 : decode cX3_standsBefore 62 = .ok (.aload_n 1, 1) := by decide +kernel
theorem dX3_standsBefore_63 : decode cX3_standsBefore 63 = .ok (.getfield 30, 3) := by decide +kernel
theorem dX3_standsBefore_66 : decode cX3_standsBefore 66 = .ok (.if_icmp .ge 7, 3) := by decide +kernel
theorem dX3_standsBefore_69 : decode cX3_standsBefore 69 = .ok (.iconst 1, 1) := by decide +kernel
theorem dX3_standsBefore_70 : decode cX3_standsBefore 70 = .ok (.goto 4, 3) := by decide +kernel
theorem dX3_standsBefore_73 : decode cX3_standsBefore 73 = .ok (.iconst 0, 1) := by decide +kernel
theorem dX3_standsBefore_74 : decode cX3_standsBefore 74 = .ok (.ireturn, 1) := by decide +kernel
theorem dX3_scoreOf_0 : decode cX3_scoreOf 0 = .ok (.aload_n 0, 1) := by decide +kernel
theorem dX3_scoreOf_1 : decode cX3_scoreOf 1 = .ok (.aload_n 2, 1) := by decide +kernel
theorem dX3_scoreOf_2 : decode cX3_scoreOf 2 = .ok (.iload_n 3, 1) := by decide +kernel
theorem dX3_scoreOf_3 : decode cX3_scoreOf 3 = .ok (.invokevirtual 67, 3) := by decide +kernel
theorem dX3_scoreOf_6 : decode cX3_scoreOf 6 = .ok (.aload_n 0, 1) := by decide +kernel
theorem dX3_scoreOf_7 : decode cX3_scoreOf 7 = .ok (.aload_n 2, 1) := by decide +kernel
theorem dX3_scoreOf_8 : decode cX3_scoreOf 8 = .ok (.iload 4, 2) := by decide +kernel
theorem dX3_scoreOf_10 : decode cX3_scoreOf 10 = .ok (.invokevirtual 71, 3) := by decide +kernel
theorem dX3_scoreOf_13 : decode cX3_scoreOf 13 = .ok (.iadd, 1) := by decide +kernel
theorem dX3_scoreOf_14 : decode cX3_scoreOf 14 = .ok (.istore 5, 2) := by decide +kernel
theorem dX3_scoreOf_16 : decode cX3_scoreOf 16 = .ok (.bipush 60, 2) := by decide +kernel
theorem dX3_scoreOf_18 : decode cX3_scoreOf 18 = .ok (.bipush 10, 2) := by decide +kernel
theorem dX3_scoreOf_20 : decode cX3_scoreOf 20 = .ok (.iload_n 1, 1) := by decide +kernel
theorem dX3_scoreOf_21 : decode cX3_scoreOf 21 = .ok (.imul, 1) := by decide +kernel
theorem dX3_scoreOf_22 : decode cX3_scoreOf 22 = .ok (.isub, 1) := by decide +kernel
theorem dX3_scoreOf_23 : decode cX3_scoreOf 23 = .ok (.iconst 4, 1) := by decide +kernel
theorem dX3_scoreOf_24 : decode cX3_scoreOf 24 = .ok (.iload 5, 2) := by decide +kernel
theorem dX3_scoreOf_26 : decode cX3_scoreOf 26 = .ok (.imul, 1) := by decide +kernel
theorem dX3_scoreOf_27 : decode cX3_scoreOf 27 = .ok (.iadd, 1) := by decide +kernel
theorem dX3_scoreOf_28 : decode cX3_scoreOf 28 = .ok (.iload_n 3, 1) := by decide +kernel
theorem dX3_scoreOf_29 : decode cX3_scoreOf 29 = .ok (.aload_n 0, 1) := by decide +kernel
theorem dX3_scoreOf_30 : decode cX3_scoreOf 30 = .ok (.getfield 37, 3) := by decide +kernel
theorem dX3_scoreOf_33 : decode cX3_scoreOf 33 = .ok (.isub, 1) := by decide +kernel
theorem dX3_scoreOf_34 : decode cX3_scoreOf 34 = .ok (.invokestatic 74, 3) := by decide +kernel
theorem dX3_scoreOf_37 : decode cX3_scoreOf 37 = .ok (.iconst 5, 1) := by decide +kernel
theorem dX3_scoreOf_38 : decode cX3_scoreOf 38 = .ok (.idiv, 1) := by decide +kernel
theorem dX3_scoreOf_39 : decode cX3_scoreOf 39 = .ok (.isub, 1) := by decide +kernel
theorem dX3_scoreOf_40 : decode cX3_scoreOf 40 = .ok (.ireturn, 1) := by decide +kernel
theorem dX3_likeBefore_0 : decode cX3_likeBefore 0 = .ok (.iconst 0, 1) := by decide +kernel
theorem dX3_likeBefore_1 : decode cX3_likeBefore 1 = .ok (.istore_n 3, 1) := by decide +kernel
theorem dX3_likeBefore_2 : decode cX3_likeBefore 2 = .ok (.iload_n 3, 1) := by decide +kernel
theorem dX3_likeBefore_3 : decode cX3_likeBefore 3 = .ok (.aload_n 0, 1) := by decide +kernel
theorem dX3_likeBefore_4 : decode cX3_likeBefore 4 = .ok (.getfield 14, 3) := by decide +kernel
theorem dX3_likeBefore_7 : decode cX3_likeBefore 7 = .ok (.getfield 78, 3) := by decide +kernel
theorem dX3_likeBefore_10 : decode cX3_likeBefore 10 = .ok (.if_icmp .ge 39, 3) := by decide +kernel
theorem dX3_likeBefore_13 : decode cX3_likeBefore 13 = .ok (.aload_n 0, 1) := by decide +kernel
theorem dX3_likeBefore_14 : decode cX3_likeBefore 14 = .ok (.getfield 14, 3) := by decide +kernel
theorem dX3_likeBefore_17 : decode cX3_likeBefore 17 = .ok (.aload_n 0, 1) := by decide +kernel
theorem dX3_likeBefore_18 : decode cX3_likeBefore 18 = .ok (.getfield 14, 3) := by decide +kernel
theorem dX3_likeBefore_21 : decode cX3_likeBefore 21 = .ok (.getfield 78, 3) := by decide +kernel
theorem dX3_likeBefore_24 : decode cX3_likeBefore 24 = .ok (.iconst 1, 1) := by decide +kernel
theorem dX3_likeBefore_25 : decode cX3_likeBefore 25 = .ok (.isub, 1) := by decide +kernel
theorem dX3_likeBefore_26 : decode cX3_likeBefore 26 = .ok (.iload_n 3, 1) := by decide +kernel
theorem dX3_likeBefore_27 : decode cX3_likeBefore 27 = .ok (.isub, 1) := by decide +kernel
theorem dX3_likeBefore_28 : decode cX3_likeBefore 28 = .ok (.invokevirtual 81, 3) := by decide +kernel
theorem dX3_likeBefore_31 : decode cX3_likeBefore 31 = .ok (.aload_n 1, 1) := by decide +kernel
theorem dX3_likeBefore_32 : decode cX3_likeBefore 32 = .ok (.iload_n 2, 1) := by decide +kernel
theorem dX3_likeBefore_33 : decode cX3_likeBefore 33 = .ok (.iconst 1, 1) := by decide +kernel
theorem dX3_likeBefore_34 : decode cX3_likeBefore 34 = .ok (.isub, 1) := by decide +kernel
theorem dX3_likeBefore_35 : decode cX3_likeBefore 35 = .ok (.iload_n 3, 1) := by decide +kernel
theorem dX3_likeBefore_36 : decode cX3_likeBefore 36 = .ok (.isub, 1) := by decide +kernel
theorem dX3_likeBefore_37 : decode cX3_likeBefore 37 = .ok (.invokevirtual 81, 3) := by decide +kernel
theorem dX3_likeBefore_40 : decode cX3_likeBefore 40 = .ok (.if_icmp .ne 9, 3) := by decide +kernel
theorem dX3_likeBefore_43 : decode cX3_likeBefore 43 = .ok (.iinc 3 1, 3) := by decide +kernel
theorem dX3_likeBefore_46 : decode cX3_likeBefore 46 = .ok (.goto (-44), 3) := by decide +kernel
theorem dX3_likeBefore_49 : decode cX3_likeBefore 49 = .ok (.iload_n 3, 1) := by decide +kernel
theorem dX3_likeBefore_50 : decode cX3_likeBefore 50 = .ok (.ireturn, 1) := by decide +kernel
theorem dX3_likeBehind_0 : decode cX3_likeBehind 0 = .ok (.iconst 0, 1) := by decide +kernel
theorem dX3_likeBehind_1 : decode cX3_likeBehind 1 = .ok (.istore_n 3, 1) := by decide +kernel
theorem dX3_likeBehind_2 : decode cX3_likeBehind 2 = .ok (.iload_n 3, 1) := by decide +kernel
theorem dX3_likeBehind_3 : decode cX3_likeBehind 3 = .ok (.aload_n 0, 1) := by decide +kernel
theorem dX3_likeBehind_4 : decode cX3_likeBehind 4 = .ok (.getfield 23, 3) := by decide +kernel
theorem dX3_likeBehind_7 : decode cX3_likeBehind 7 = .ok (.getfield 78, 3) := by decide +kernel
theorem dX3_likeBehind_10 : decode cX3_likeBehind 10 = .ok (.if_icmp .ge 27, 3) := by decide +kernel
theorem dX3_likeBehind_13 : decode cX3_likeBehind 13 = .ok (.aload_n 0, 1) := by decide +kernel
theorem dX3_likeBehind_14 : decode cX3_likeBehind 14 = .ok (.getfield 23, 3) := by decide +kernel
theorem dX3_likeBehind_17 : decode cX3_likeBehind 17 = .ok (.iload_n 3, 1) := by decide +kernel
theorem dX3_likeBehind_18 : decode cX3_likeBehind 18 = .ok (.invokevirtual 81, 3) := by decide +kernel
theorem dX3_likeBehind_21 : decode cX3_likeBehind 21 = .ok (.aload_n 1, 1) := by decide +kernel
theorem dX3_likeBehind_22 : decode cX3_likeBehind 22 = .ok (.iload_n 2, 1) := by decide +kernel
theorem dX3_likeBehind_23 : decode cX3_likeBehind 23 = .ok (.iload_n 3, 1) := by decide +kernel
theorem dX3_likeBehind_24 : decode cX3_likeBehind 24 = .ok (.iadd, 1) := by decide +kernel
theorem dX3_likeBehind_25 : decode cX3_likeBehind 25 = .ok (.invokevirtual 81, 3) := by decide +kernel
theorem dX3_likeBehind_28 : decode cX3_likeBehind 28 = .ok (.if_icmp .ne 9, 3) := by decide +kernel
theorem dX3_likeBehind_31 : decode cX3_likeBehind 31 = .ok (.iinc 3 1, 3) := by decide +kernel
theorem dX3_likeBehind_34 : decode cX3_likeBehind 34 = .ok (.goto (-32), 3) := by decide +kernel
theorem dX3_likeBehind_37 : decode cX3_likeBehind 37 = .ok (.iload_n 3, 1) := by decide +kernel
theorem dX3_likeBehind_38 : decode cX3_likeBehind 38 = .ok (.ireturn, 1) := by decide +kernel
theorem dX4_init_0 : decode cX4_init 0 = .ok (.aload_n 0, 1) := by decide +kernel
theorem dX4_init_1 : decode cX4_init 1 = .ok (.invokespecial 3, 3) := by decide +kernel
theorem dX4_init_4 : decode cX4_init 4 = .ok (.aload_n 0, 1) := by decide +kernel
theorem dX4_init_5 : decode cX4_init 5 = .ok (.new 9, 3) := by decide +kernel
theorem dX4_init_8 : decode cX4_init 8 = .ok (.dup, 1) := by decide +kernel
theorem dX4_init_9 : decode cX4_init 9 = .ok (.bipush 120, 2) := by decide +kernel
theorem dX4_init_11 : decode cX4_init 11 = .ok (.invokespecial 11, 3) := by decide +kernel
theorem dX4_init_14 : decode cX4_init 14 = .ok (.putfield 14, 3) := by decide +kernel
theorem dX4_init_17 : decode cX4_init 17 = .ok (.aload_n 0, 1) := by decide +kernel
theorem dX4_init_18 : decode cX4_init 18 = .ok (.bipush 10, 2) := by decide +kernel
theorem dX4_init_20 : decode cX4_init 20 = .ok (.anewarray 20, 3) := by decide +kernel
theorem dX4_init_23 : decode cX4_init 23 = .ok (.putfield 22, 3) := by decide +kernel
theorem dX4_init_26 : decode cX4_init 26 = .ok (.iconst 0, 1) := by decide +kernel
theorem dX4_init_27 : decode cX4_init 27 = .ok (.istore_n 1, 1) := by decide +kernel
theorem dX4_init_28 : decode cX4_init 28 = .ok (.iload_n 1, 1) := by decide +kernel
theorem dX4_init_29 : decode cX4_init 29 = .ok (.aload_n 0, 1) := by decide +kernel
theorem dX4_init_30 : decode cX4_init 30 = .ok (.getfield 22, 3) := by decide +kernel
theorem dX4_init_33 : decode cX4_init 33 = .ok (.arraylength, 1) := by decide +kernel
theorem dX4_init_34 : decode cX4_init 34 = .ok (.if_icmp .ge 22, 3) := by decide +kernel
theorem dX4_init_37 : decode cX4_init 37 = .ok (.aload_n 0, 1) := by decide +kernel
theorem dX4_init_38 : decode cX4_init 38 = .ok (.getfield 22, 3) := by decide +kernel
theorem dX4_init_41 : decode cX4_init 41 = .ok (.iload_n 1, 1) := by decide +kernel
theorem dX4_init_42 : decode cX4_init 42 = .ok (.new 20, 3) := by decide +kernel
theorem dX4_init_45 : decode cX4_init 45 = .ok (.dup, 1) := by decide +kernel
theorem dX4_init_46 : decode cX4_init 46 = .ok (.invokespecial 26, 3) := by decide +kernel
theorem dX4_init_49 : decode cX4_init 49 = .ok (.aastore, 1) := by decide +kernel
theorem dX4_init_50 : decode cX4_init 50 = .ok (.iinc 1 1, 3) := by decide +kernel
theorem dX4_init_53 : decode cX4_init 53 = .ok (.goto (-25), 3) := by decide +kernel
theorem dX4_init_56 : decode cX4_init 56 = .ok (.return_, 1) := by decide +kernel
theorem dX4_become_0 : decode cX4_become 0 = .ok (.aload_n 0, 1) := by decide +kernel
theorem dX4_become_1 : decode cX4_become 1 = .ok (.getfield 14, 3) := by decide +kernel
theorem dX4_become_4 : decode cX4_become 4 = .ok (.aload_n 1, 1) := by decide +kernel
theorem dX4_become_5 : decode cX4_become 5 = .ok (.getfield 14, 3) := by decide +kernel
theorem dX4_become_8 : decode cX4_become 8 = .ok (.invokevirtual 27, 3) := by decide +kernel
theorem dX4_become_11 : decode cX4_become 11 = .ok (.aload_n 0, 1) := by decide +kernel
theorem dX4_become_12 : decode cX4_become 12 = .ok (.aload_n 1, 1) := by decide +kernel
theorem dX4_become_13 : decode cX4_become 13 = .ok (.getfield 31, 3) := by decide +kernel
theorem dX4_become_16 : decode cX4_become 16 = .ok (.aload_n 0, 1) := by decide +kernel
theorem dX4_become_17 : decode cX4_become 17 = .ok (.getfield 22, 3) := by decide +kernel
theorem dX4_become_20 : decode cX4_become 20 = .ok (.arraylength, 1) := by decide +kernel
theorem dX4_become_21 : decode cX4_become 21 = .ok (.invokestatic 35, 3) := by decide +kernel
theorem dX4_become_24 : decode cX4_become 24 = .ok (.putfield 31, 3) := by decide +kernel
theorem dX4_become_27 : decode cX4_become 27 = .ok (.aload_n 0, 1) := by decide +kernel
theorem dX4_become_28 : decode cX4_become 28 = .ok (.aload_n 1, 1) := by decide +kernel
theorem dX4_become_29 : decode cX4_become 29 = .ok (.getfield 41, 3) := by decide +kernel
theorem dX4_become_32 : decode cX4_become 32 = .ok (.putfield 41, 3) := by decide +kernel
theorem dX4_become_35 : decode cX4_become 35 = .ok (.iconst 0, 1) := by decide +kernel
theorem dX4_become_36 : decode cX4_become 36 = .ok (.istore_n 2, 1) := by decide +kernel
theorem dX4_become_37 : decode cX4_become 37 = .ok (.iload_n 2, 1) := by decide +kernel
theorem dX4_become_38 : decode cX4_become 38 = .ok (.aload_n 0, 1) := by decide +kernel
theorem dX4_become_39 : decode cX4_become 39 = .ok (.getfield 31, 3) := by decide +kernel
theorem dX4_become_42 : decode cX4_become 42 = .ok (.if_icmp .ge 33, 3) := by decide +kernel
theorem dX4_become_45 : decode cX4_become 45 = .ok (.iload_n 2, 1) := by decide +kernel
theorem dX4_become_46 : decode cX4_become 46 = .ok (.aload_n 1, 1) := by decide +kernel
theorem dX4_become_47 : decode cX4_become 47 = .ok (.getfield 22, 3) := by decide +kernel
theorem dX4_become_50 : decode cX4_become 50 = .ok (.arraylength, 1) := by decide +kernel
theorem dX4_become_51 : decode cX4_become 51 = .ok (.if_icmp .ge 24, 3) := by decide +kernel
theorem dX4_become_54 : decode cX4_become 54 = .ok (.aload_n 0, 1) := by decide +kernel
theorem dX4_become_55 : decode cX4_become 55 = .ok (.getfield 22, 3) := by decide +kernel
theorem dX4_become_58 : decode cX4_become 58 = .ok (.iload_n 2, 1) := by decide +kernel
theorem dX4_become_59 : decode cX4_become 59 = .ok (.aaload, 1) := by decide +kernel
theorem dX4_become_60 : decode cX4_become 60 = .ok (.aload_n 1, 1) := by decide +kernel
theorem dX4_become_61 : decode cX4_become 61 = .ok (.getfield 22, 3) := by decide +kernel
theorem dX4_become_64 : decode cX4_become 64 = .ok (.iload_n 2, 1) := by decide +kernel
theorem dX4_become_65 : decode cX4_become 65 = .ok (.aaload, 1) := by decide +kernel
theorem dX4_become_66 : decode cX4_become 66 = .ok (.invokevirtual 44, 3) := by decide +kernel
theorem dX4_become_69 : decode cX4_become 69 = .ok (.iinc 2 1, 3) := by decide +kernel
theorem dX4_become_72 : decode cX4_become 72 = .ok (.goto (-35), 3) := by decide +kernel
theorem dX4_become_75 : decode cX4_become 75 = .ok (.return_, 1) := by decide +kernel
theorem dX4_indexOf_0 : decode cX4_indexOf 0 = .ok (.iconst 0, 1) := by decide +kernel
theorem dX4_indexOf_1 : decode cX4_indexOf 1 = .ok (.istore_n 2, 1) := by decide +kernel
theorem dX4_indexOf_2 : decode cX4_indexOf 2 = .ok (.iload_n 2, 1) := by decide +kernel
theorem dX4_indexOf_3 : decode cX4_indexOf 3 = .ok (.aload_n 0, 1) := by decide +kernel
theorem dX4_indexOf_4 : decode cX4_indexOf 4 = .ok (.getfield 31, 3) := by decide +kernel
theorem dX4_indexOf_7 : decode cX4_indexOf 7 = .ok (.if_icmp .ge 33, 3) := by decide +kernel
theorem dX4_indexOf_10 : decode cX4_indexOf 10 = .ok (.iload_n 2, 1) := by decide +kernel
theorem dX4_indexOf_11 : decode cX4_indexOf 11 = .ok (.aload_n 0, 1) := by decide +kernel
theorem dX4_indexOf_12 : decode cX4_indexOf 12 = .ok (.getfield 22, 3) := by decide +kernel
theorem dX4_indexOf_15 : decode cX4_indexOf 15 = .ok (.arraylength, 1) := by decide +kernel
theorem dX4_indexOf_16 : decode cX4_indexOf 16 = .ok (.if_icmp .ge 24, 3) := by decide +kernel
theorem dX4_indexOf_19 : decode cX4_indexOf 19 = .ok (.aload_n 0, 1) := by decide +kernel
theorem dX4_indexOf_20 : decode cX4_indexOf 20 = .ok (.getfield 22, 3) := by decide +kernel
theorem dX4_indexOf_23 : decode cX4_indexOf 23 = .ok (.iload_n 2, 1) := by decide +kernel
theorem dX4_indexOf_24 : decode cX4_indexOf 24 = .ok (.aaload, 1) := by decide +kernel
theorem dX4_indexOf_25 : decode cX4_indexOf 25 = .ok (.getfield 47, 3) := by decide +kernel
theorem dX4_indexOf_28 : decode cX4_indexOf 28 = .ok (.iload_n 1, 1) := by decide +kernel
theorem dX4_indexOf_29 : decode cX4_indexOf 29 = .ok (.if_icmp .ne 5, 3) := by decide +kernel
theorem dX4_indexOf_32 : decode cX4_indexOf 32 = .ok (.iload_n 2, 1) := by decide +kernel
theorem dX4_indexOf_33 : decode cX4_indexOf 33 = .ok (.ireturn, 1) := by decide +kernel
theorem dX4_indexOf_34 : decode cX4_indexOf 34 = .ok (.iinc 2 1, 3) := by decide +kernel
theorem dX4_indexOf_37 : decode cX4_indexOf 37 = .ok (.goto (-35), 3) := by decide +kernel
theorem dX4_indexOf_40 : decode cX4_indexOf 40 = .ok (.iconst (-1), 1) := by decide +kernel
theorem dX4_indexOf_41 : decode cX4_indexOf 41 = .ok (.ireturn, 1) := by decide +kernel
theorem dX4_find_0 : decode cX4_find 0 = .ok (.aload_n 0, 1) := by decide +kernel
theorem dX4_find_1 : decode cX4_find 1 = .ok (.iload_n 1, 1) := by decide +kernel
theorem dX4_find_2 : decode cX4_find 2 = .ok (.invokevirtual 50, 3) := by decide +kernel
theorem dX4_find_5 : decode cX4_find 5 = .ok (.istore_n 2, 1) := by decide +kernel
theorem dX4_find_6 : decode cX4_find 6 = .ok (.iload_n 2, 1) := by decide +kernel
theorem dX4_find_7 : decode cX4_find 7 = .ok (.ifCond .lt 21, 3) := by decide +kernel
theorem dX4_find_10 : decode cX4_find 10 = .ok (.iload_n 2, 1) := by decide +kernel
theorem dX4_find_11 : decode cX4_find 11 = .ok (.aload_n 0, 1) := by decide +kernel
theorem dX4_find_12 : decode cX4_find 12 = .ok (.getfield 22, 3) := by decide +kernel
theorem dX4_find_15 : decode cX4_find 15 = .ok (.arraylength, 1) := by decide +kernel
theorem dX4_find_16 : decode cX4_find 16 = .ok (.if_icmp .ge 12, 3) := by decide +kernel
theorem dX4_find_19 : decode cX4_find 19 = .ok (.aload_n 0, 1) := by decide +kernel
theorem dX4_find_20 : decode cX4_find 20 = .ok (.getfield 22, 3) := by decide +kernel
theorem dX4_find_23 : decode cX4_find 23 = .ok (.iload_n 2, 1) := by decide +kernel
theorem dX4_find_24 : decode cX4_find 24 = .ok (.aaload, 1) := by decide +kernel
theorem dX4_find_25 : decode cX4_find 25 = .ok (.goto 4, 3) := by decide +kernel
theorem dX4_find_28 : decode cX4_find 28 = .ok (.aconst_null, 1) := by decide +kernel
theorem dX4_find_29 : decode cX4_find 29 = .ok (.areturn, 1) := by decide +kernel
theorem dX4_addNote_0 : decode cX4_addNote 0 = .ok (.aload_n 0, 1) := by decide +kernel
theorem dX4_addNote_1 : decode cX4_addNote 1 = .ok (.getfield 31, 3) := by decide +kernel
theorem dX4_addNote_4 : decode cX4_addNote 4 = .ok (.ifCond .lt 15, 3) := by decide +kernel
theorem dX4_addNote_7 : decode cX4_addNote 7 = .ok (.aload_n 0, 1) := by decide +kernel
theorem dX4_addNote_8 : decode cX4_addNote 8 = .ok (.getfield 31, 3) := by decide +kernel
theorem dX4_addNote_11 : decode cX4_addNote 11 = .ok (.aload_n 0, 1) := by decide +kernel
theorem dX4_addNote_12 : decode cX4_addNote 12 = .ok (.getfield 22, 3) := by decide +kernel
theorem dX4_addNote_15 : decode cX4_addNote 15 = .ok (.arraylength, 1) := by decide +kernel
theorem dX4_addNote_16 : decode cX4_addNote 16 = .ok (.if_icmp .lt 7, 3) := by decide +kernel
theorem dX4_addNote_19 : decode cX4_addNote 19 = .ok (.sipush (-1004), 3) := by decide +kernel
theorem dX4_addNote_22 : decode cX4_addNote 22 = .ok (.ireturn, 1) := by decide +kernel
theorem dX4_addNote_23 : decode cX4_addNote 23 = .ok (.aload_n 0, 1) := by decide +kernel
theorem dX4_addNote_24 : decode cX4_addNote 24 = .ok (.getfield 41, 3) := by decide +kernel
theorem dX4_addNote_27 : decode cX4_addNote 27 = .ok (.istore_n 3, 1) := by decide +kernel
theorem dX4_addNote_28 : decode cX4_addNote 28 = .ok (.aload_n 0, 1) := by decide +kernel
theorem dX4_addNote_29 : decode cX4_addNote 29 = .ok (.getfield 22, 3) := by decide +kernel
theorem dX4_addNote_32 : decode cX4_addNote 32 = .ok (.aload_n 0, 1) := by decide +kernel
theorem dX4_addNote_33 : decode cX4_addNote 33 = .ok (.getfield 31, 3) := by decide +kernel
theorem dX4_addNote_36 : decode cX4_addNote 36 = .ok (.aaload, 1) := by decide +kernel
theorem dX4_addNote_37 : decode cX4_addNote 37 = .ok (.iload_n 3, 1) := by decide +kernel
theorem dX4_addNote_38 : decode cX4_addNote 38 = .ok (.iload_n 1, 1) := by decide +kernel
theorem dX4_addNote_39 : decode cX4_addNote 39 = .ok (.iload_n 2, 1) := by decide +kernel
theorem dX4_addNote_40 : decode cX4_addNote 40 = .ok (.aload_n 0, 1) := by decide +kernel
theorem dX4_addNote_41 : decode cX4_addNote 41 = .ok (.getfield 14, 3) := by decide +kernel
theorem dX4_addNote_44 : decode cX4_addNote 44 = .ok (.invokevirtual 54, 3) := by decide +kernel
theorem dX4_addNote_47 : decode cX4_addNote 47 = .ok (.aload_n 0, 1) := by decide +kernel
theorem dX4_addNote_48 : decode cX4_addNote 48 = .ok (.dup, 1) := by decide +kernel
theorem dX4_addNote_49 : decode cX4_addNote 49 = .ok (.getfield 31, 3) := by decide +kernel
theorem dX4_addNote_52 : decode cX4_addNote 52 = .ok (.iconst 1, 1) := by decide +kernel
theorem dX4_addNote_53 : decode cX4_addNote 53 = .ok (.iadd, 1) := by decide +kernel
theorem dX4_addNote_54 : decode cX4_addNote 54 = .ok (.putfield 31, 3) := by decide +kernel
theorem dX4_addNote_57 : decode cX4_addNote 57 = .ok (.aload_n 0, 1) := by decide +kernel
theorem dX4_addNote_58 : decode cX4_addNote 58 = .ok (.dup, 1) := by decide +kernel
theorem dX4_addNote_59 : decode cX4_addNote 59 = .ok (.getfield 41, 3) := by decide +kernel
theorem dX4_addNote_62 : decode cX4_addNote 62 = .ok (.iconst 1, 1) := by decide +kernel
theorem dX4_addNote_63 : decode cX4_addNote 63 = .ok (.iadd, 1) := by decide +kernel
theorem dX4_addNote_64 : decode cX4_addNote 64 = .ok (.putfield 41, 3) := by decide +kernel
theorem dX4_addNote_67 : decode cX4_addNote 67 = .ok (.iload_n 3, 1) := by decide +kernel
theorem dX4_addNote_68 : decode cX4_addNote 68 = .ok (.ireturn, 1) := by decide +kernel
theorem dX4_drop_0 : decode cX4_drop 0 = .ok (.iload_n 1, 1) := by decide +kernel
theorem dX4_drop_1 : decode cX4_drop 1 = .ok (.ifCond .lt 23, 3) := by decide +kernel
theorem dX4_drop_4 : decode cX4_drop 4 = .ok (.iload_n 1, 1) := by decide +kernel
theorem dX4_drop_5 : decode cX4_drop 5 = .ok (.aload_n 0, 1) := by decide +kernel
theorem dX4_drop_6 : decode cX4_drop 6 = .ok (.getfield 31, 3) := by decide +kernel
theorem dX4_drop_9 : decode cX4_drop 9 = .ok (.if_icmp .ge 15, 3) := by decide +kernel
theorem dX4_drop_12 : decode cX4_drop 12 = .ok (.aload_n 0, 1) := by decide +kernel
theorem dX4_drop_13 : decode cX4_drop 13 = .ok (.getfield 31, 3) := by decide +kernel
theorem dX4_drop_16 : decode cX4_drop 16 = .ok (.aload_n 0, 1) := by decide +kernel
theorem dX4_drop_17 : decode cX4_drop 17 = .ok (.getfield 22, 3) := by decide +kernel
theorem dX4_drop_20 : decode cX4_drop 20 = .ok (.arraylength, 1) := by decide +kernel
theorem dX4_drop_21 : decode cX4_drop 21 = .ok (.if_icmp .le 4, 3) := by decide +kernel
theorem dX4_drop_24 : decode cX4_drop 24 = .ok (.return_, 1) := by decide +kernel
theorem dX4_drop_25 : decode cX4_drop 25 = .ok (.aload_n 0, 1) := by decide +kernel
theorem dX4_drop_26 : decode cX4_drop 26 = .ok (.getfield 22, 3) := by decide +kernel
theorem dX4_drop_29 : decode cX4_drop 29 = .ok (.iload_n 1, 1) := by decide +kernel
theorem dX4_drop_30 : decode cX4_drop 30 = .ok (.aaload, 1) := by decide +kernel
theorem dX4_drop_31 : decode cX4_drop 31 = .ok (.astore_n 2, 1) := by decide +kernel
theorem dX4_drop_32 : decode cX4_drop 32 = .ok (.iload_n 1, 1) := by decide +kernel
theorem dX4_drop_33 : decode cX4_drop 33 = .ok (.iconst 1, 1) := by decide +kernel
theorem dX4_drop_34 : decode cX4_drop 34 = .ok (.iadd, 1) := by decide +kernel
theorem dX4_drop_35 : decode cX4_drop 35 = .ok (.istore_n 3, 1) := by decide +kernel
theorem dX4_drop_36 : decode cX4_drop 36 = .ok (.iload_n 3, 1) := by decide +kernel
theorem dX4_drop_37 : decode cX4_drop 37 = .ok (.aload_n 0, 1) := by decide +kernel
theorem dX4_drop_38 : decode cX4_drop 38 = .ok (.getfield 31, 3) := by decide +kernel
theorem dX4_drop_41 : decode cX4_drop 41 = .ok (.if_icmp .ge 23, 3) := by decide +kernel
theorem dX4_drop_44 : decode cX4_drop 44 = .ok (.aload_n 0, 1) := by decide +kernel
theorem dX4_drop_45 : decode cX4_drop 45 = .ok (.getfield 22, 3) := by decide +kernel
theorem dX4_drop_48 : decode cX4_drop 48 = .ok (.iload_n 3, 1) := by decide +kernel
theorem dX4_drop_49 : decode cX4_drop 49 = .ok (.iconst 1, 1) := by decide +kernel
theorem dX4_drop_50 : decode cX4_drop 50 = .ok (.isub, 1) := by decide +kernel
theorem dX4_drop_51 : decode cX4_drop 51 = .ok (.aload_n 0, 1) := by decide +kernel
theorem dX4_drop_52 : decode cX4_drop 52 = .ok (.getfield 22, 3) := by decide +kernel
theorem dX4_drop_55 : decode cX4_drop 55 = .ok (.iload_n 3, 1) := by decide +kernel
theorem dX4_drop_56 : decode cX4_drop 56 = .ok (.aaload, 1) := by decide +kernel
theorem dX4_drop_57 : decode cX4_drop 57 = .ok (.aastore, 1) := by decide +kernel
theorem dX4_drop_58 : decode cX4_drop 58 = .ok (.iinc 3 1, 3) := by decide +kernel
theorem dX4_drop_61 : decode cX4_drop 61 = .ok (.goto (-25), 3) := by decide +kernel
theorem dX4_drop_64 : decode cX4_drop 64 = .ok (.aload_n 0, 1) := by decide +kernel
theorem dX4_drop_65 : decode cX4_drop 65 = .ok (.dup, 1) := by decide +kernel
theorem dX4_drop_66 : decode cX4_drop 66 = .ok (.getfield 31, 3) := by decide +kernel
theorem dX4_drop_69 : decode cX4_drop 69 = .ok (.iconst 1, 1) := by decide +kernel
theorem dX4_drop_70 : decode cX4_drop 70 = .ok (.isub, 1) := by decide +kernel
theorem dX4_drop_71 : decode cX4_drop 71 = .ok (.putfield 31, 3) := by decide +kernel
theorem dX4_drop_74 : decode cX4_drop 74 = .ok (.aload_n 0, 1) := by decide +kernel
theorem dX4_drop_75 : decode cX4_drop 75 = .ok (.getfield 22, 3) := by decide +kernel
theorem dX4_drop_78 : decode cX4_drop 78 = .ok (.aload_n 0, 1) := by decide +kernel
theorem dX4_drop_79 : decode cX4_drop 79 = .ok (.getfield 31, 3) := by decide +kernel
theorem dX4_drop_82 : decode cX4_drop 82 = .ok (.aload_n 2, 1) := by decide +kernel
theorem dX4_drop_83 : decode cX4_drop 83 = .ok (.aastore, 1) := by decide +kernel
theorem dX4_drop_84 : decode cX4_drop 84 = .ok (.return_, 1) := by decide +kernel
theorem dX4_replaceDocument_0 : decode cX4_replaceDocument 0 = .ok (.aload_n 0, 1) := by decide +kernel
theorem dX4_replaceDocument_1 : decode cX4_replaceDocument 1 = .ok (.getfield 14, 3) := by decide +kernel
theorem dX4_replaceDocument_4 : decode cX4_replaceDocument 4 = .ok (.aload_n 1, 1) := by decide +kernel
theorem dX4_replaceDocument_5 : decode cX4_replaceDocument 5 = .ok (.invokevirtual 27, 3) := by decide +kernel
theorem dX4_replaceDocument_8 : decode cX4_replaceDocument 8 = .ok (.iconst 0, 1) := by decide +kernel
theorem dX4_replaceDocument_9 : decode cX4_replaceDocument 9 = .ok (.istore_n 2, 1) := by decide +kernel
theorem dX4_replaceDocument_10 : decode cX4_replaceDocument 10 = .ok (.iload_n 2, 1) := by decide +kernel
theorem dX4_replaceDocument_11 : decode cX4_replaceDocument 11 = .ok (.aload_n 0, 1) := by decide +kernel
theorem dX4_replaceDocument_12 : decode cX4_replaceDocument 12 = .ok (.getfield 31, 3) := by decide +kernel
theorem dX4_replaceDocument_15 : decode cX4_replaceDocument 15 = .ok (.if_icmp .ge 34, 3) := by decide +kernel
theorem dX4_replaceDocument_18 : decode cX4_replaceDocument 18 = .ok (.iload_n 2, 1) := by decide +kernel
theorem dX4_replaceDocument_19 : decode cX4_replaceDocument 19 = .ok (.aload_n 0, 1) := by decide +kernel
theorem dX4_replaceDocument_20 : decode cX4_replaceDocument 20 = .ok (.getfield 22, 3) := by decide +kernel
theorem dX4_replaceDocument_23 : decode cX4_replaceDocument 23 = .ok (.arraylength, 1) := by decide +kernel
theorem dX4_replaceDocument_24 : decode cX4_replaceDocument 24 = .ok (.if_icmp .ge 25, 3) := by decide +kernel
theorem dX4_replaceDocument_27 : decode cX4_replaceDocument 27 = .ok (.aload_n 0, 1) := by decide +kernel
theorem dX4_replaceDocument_28 : decode cX4_replaceDocument 28 = .ok (.getfield 22, 3) := by decide +kernel
theorem dX4_replaceDocument_31 : decode cX4_replaceDocument 31 = .ok (.iload_n 2, 1) := by decide +kernel
theorem dX4_replaceDocument_32 : decode cX4_replaceDocument 32 = .ok (.aaload, 1) := by decide +kernel
theorem dX4_replaceDocument_33 : decode cX4_replaceDocument 33 = .ok (.aload_n 0, 1) := by decide +kernel
theorem dX4_replaceDocument_34 : decode cX4_replaceDocument 34 = .ok (.getfield 14, 3) := by decide +kernel
theorem dX4_replaceDocument_37 : decode cX4_replaceDocument 37 = .ok (.getfield 58, 3) := by decide +kernel
theorem dX4_replaceDocument_40 : decode cX4_replaceDocument 40 = .ok (.invokevirtual 61, 3) := by decide +kernel
theorem dX4_replaceDocument_43 : decode cX4_replaceDocument 43 = .ok (.iinc 2 1, 3) := by decide +kernel
theorem dX4_replaceDocument_46 : decode cX4_replaceDocument 46 = .ok (.goto (-36), 3) := by decide +kernel
theorem dX4_replaceDocument_49 : decode cX4_replaceDocument 49 = .ok (.return_, 1) := by decide +kernel
theorem dX4_putIn_0 : decode cX4_putIn 0 = .ok (.aload_n 0, 1) := by decide +kernel
theorem dX4_putIn_1 : decode cX4_putIn 1 = .ok (.getfield 14, 3) := by decide +kernel
theorem dX4_putIn_4 : decode cX4_putIn 4 = .ok (.iload_n 1, 1) := by decide +kernel
theorem dX4_putIn_5 : decode cX4_putIn 5 = .ok (.aload_n 2, 1) := by decide +kernel
theorem dX4_putIn_6 : decode cX4_putIn 6 = .ok (.invokevirtual 64, 3) := by decide +kernel
theorem dX4_putIn_9 : decode cX4_putIn 9 = .ok (.iconst 0, 1) := by decide +kernel
theorem dX4_putIn_10 : decode cX4_putIn 10 = .ok (.istore_n 3, 1) := by decide +kernel
theorem dX4_putIn_11 : decode cX4_putIn 11 = .ok (.iload_n 3, 1) := by decide +kernel
theorem dX4_putIn_12 : decode cX4_putIn 12 = .ok (.aload_n 0, 1) := by decide +kernel
theorem dX4_putIn_13 : decode cX4_putIn 13 = .ok (.getfield 31, 3) := by decide +kernel
theorem dX4_putIn_16 : decode cX4_putIn 16 = .ok (.if_icmp .ge 32, 3) := by decide +kernel
theorem dX4_putIn_19 : decode cX4_putIn 19 = .ok (.iload_n 3, 1) := by decide +kernel
theorem dX4_putIn_20 : decode cX4_putIn 20 = .ok (.aload_n 0, 1) := by decide +kernel
theorem dX4_putIn_21 : decode cX4_putIn 21 = .ok (.getfield 22, 3) := by decide +kernel
theorem dX4_putIn_24 : decode cX4_putIn 24 = .ok (.arraylength, 1) := by decide +kernel
theorem dX4_putIn_25 : decode cX4_putIn 25 = .ok (.if_icmp .ge 23, 3) := by decide +kernel
theorem dX4_putIn_28 : decode cX4_putIn 28 = .ok (.aload_n 0, 1) := by decide +kernel
theorem dX4_putIn_29 : decode cX4_putIn 29 = .ok (.getfield 22, 3) := by decide +kernel
theorem dX4_putIn_32 : decode cX4_putIn 32 = .ok (.iload_n 3, 1) := by decide +kernel
theorem dX4_putIn_33 : decode cX4_putIn 33 = .ok (.aaload, 1) := by decide +kernel
theorem dX4_putIn_34 : decode cX4_putIn 34 = .ok (.iload_n 1, 1) := by decide +kernel
theorem dX4_putIn_35 : decode cX4_putIn 35 = .ok (.aload_n 2, 1) := by decide +kernel
theorem dX4_putIn_36 : decode cX4_putIn 36 = .ok (.getfield 58, 3) := by decide +kernel
theorem dX4_putIn_39 : decode cX4_putIn 39 = .ok (.invokevirtual 68, 3) := by decide +kernel
theorem dX4_putIn_42 : decode cX4_putIn 42 = .ok (.iinc 3 1, 3) := by decide +kernel
theorem dX4_putIn_45 : decode cX4_putIn 45 = .ok (.goto (-34), 3) := by decide +kernel
theorem dX4_putIn_48 : decode cX4_putIn 48 = .ok (.return_, 1) := by decide +kernel
theorem dX4_cutOut_0 : decode cX4_cutOut 0 = .ok (.aload_n 0, 1) := by decide +kernel
theorem dX4_cutOut_1 : decode cX4_cutOut 1 = .ok (.getfield 14, 3) := by decide +kernel
theorem dX4_cutOut_4 : decode cX4_cutOut 4 = .ok (.iload_n 1, 1) := by decide +kernel
theorem dX4_cutOut_5 : decode cX4_cutOut 5 = .ok (.iload_n 2, 1) := by decide +kernel
theorem dX4_cutOut_6 : decode cX4_cutOut 6 = .ok (.invokevirtual 72, 3) := by decide +kernel
theorem dX4_cutOut_9 : decode cX4_cutOut 9 = .ok (.iconst 0, 1) := by decide +kernel
theorem dX4_cutOut_10 : decode cX4_cutOut 10 = .ok (.istore_n 3, 1) := by decide +kernel
theorem dX4_cutOut_11 : decode cX4_cutOut 11 = .ok (.iconst 0, 1) := by decide +kernel
theorem dX4_cutOut_12 : decode cX4_cutOut 12 = .ok (.istore 4, 2) := by decide +kernel
theorem dX4_cutOut_14 : decode cX4_cutOut 14 = .ok (.iload 4, 2) := by decide +kernel
theorem dX4_cutOut_16 : decode cX4_cutOut 16 = .ok (.aload_n 0, 1) := by decide +kernel
theorem dX4_cutOut_17 : decode cX4_cutOut 17 = .ok (.getfield 31, 3) := by decide +kernel
theorem dX4_cutOut_20 : decode cX4_cutOut 20 = .ok (.if_icmp .ge 37, 3) := by decide +kernel
theorem dX4_cutOut_23 : decode cX4_cutOut 23 = .ok (.iload 4, 2) := by decide +kernel
theorem dX4_cutOut_25 : decode cX4_cutOut 25 = .ok (.aload_n 0, 1) := by decide +kernel
theorem dX4_cutOut_26 : decode cX4_cutOut 26 = .ok (.getfield 22, 3) := by decide +kernel
theorem dX4_cutOut_29 : decode cX4_cutOut 29 = .ok (.arraylength, 1) := by decide +kernel
theorem dX4_cutOut_30 : decode cX4_cutOut 30 = .ok (.if_icmp .ge 27, 3) := by decide +kernel
theorem dX4_cutOut_33 : decode cX4_cutOut 33 = .ok (.aload_n 0, 1) := by decide +kernel
theorem dX4_cutOut_34 : decode cX4_cutOut 34 = .ok (.getfield 22, 3) := by decide +kernel
theorem dX4_cutOut_37 : decode cX4_cutOut 37 = .ok (.iload 4, 2) := by decide +kernel
theorem dX4_cutOut_39 : decode cX4_cutOut 39 = .ok (.aaload, 1) := by decide +kernel
theorem dX4_cutOut_40 : decode cX4_cutOut 40 = .ok (.iload_n 1, 1) := by decide +kernel
theorem dX4_cutOut_41 : decode cX4_cutOut 41 = .ok (.iload_n 2, 1) := by decide +kernel
theorem dX4_cutOut_42 : decode cX4_cutOut 42 = .ok (.invokevirtual 75, 3) := by decide +kernel
theorem dX4_cutOut_45 : decode cX4_cutOut 45 = .ok (.ifCond .eq 6, 3) := by decide +kernel
theorem dX4_cutOut_48 : decode cX4_cutOut 48 = .ok (.iinc 3 1, 3) := by decide +kernel
theorem dX4_cutOut_51 : decode cX4_cutOut 51 = .ok (.iinc 4 1, 3) := by decide +kernel
theorem dX4_cutOut_54 : decode cX4_cutOut 54 = .ok (.goto (-40), 3) := by decide +kernel
theorem dX4_cutOut_57 : decode cX4_cutOut 57 = .ok (.iload_n 3, 1) := by decide +kernel
theorem dX4_cutOut_58 : decode cX4_cutOut 58 = .ok (.ireturn, 1) := by decide +kernel
theorem dX4_hasTwins_0 : decode cX4_hasTwins 0 = .ok (.iconst 0, 1) := by decide +kernel
theorem dX4_hasTwins_1 : decode cX4_hasTwins 1 = .ok (.istore_n 1, 1) := by decide +kernel
theorem dX4_hasTwins_2 : decode cX4_hasTwins 2 = .ok (.iload_n 1, 1) := by decide +kernel
theorem dX4_hasTwins_3 : decode cX4_hasTwins 3 = .ok (.aload_n 0, 1) := by decide +kernel
theorem dX4_hasTwins_4 : decode cX4_hasTwins 4 = .ok (.getfield 31, 3) := by decide +kernel
theorem dX4_hasTwins_7 : decode cX4_hasTwins 7 = .ok (.if_icmp .ge 28, 3) := by decide +kernel
theorem dX4_hasTwins_10 : decode cX4_hasTwins 10 = .ok (.iload_n 1, 1) := by decide +kernel
theorem dX4_hasTwins_11 : decode cX4_hasTwins 11 = .ok (.aload_n 0, 1) := by decide +kernel
theorem dX4_hasTwins_12 : decode cX4_hasTwins 12 = .ok (.getfield 22, 3) := by decide +kernel
theorem dX4_hasTwins_15 : decode cX4_hasTwins 15 = .ok (.arraylength, 1) := by decide +kernel
theorem dX4_hasTwins_16 : decode cX4_hasTwins 16 = .ok (.if_icmp .ge 19, 3) := by decide +kernel
theorem dX4_hasTwins_19 : decode cX4_hasTwins 19 = .ok (.aload_n 0, 1) := by decide +kernel
theorem dX4_hasTwins_20 : decode cX4_hasTwins 20 = .ok (.iload_n 1, 1) := by decide +kernel
theorem dX4_hasTwins_21 : decode cX4_hasTwins 21 = .ok (.invokevirtual 79, 3) := by decide +kernel
theorem dX4_hasTwins_24 : decode cX4_hasTwins 24 = .ok (.ifCond .lt 5, 3) := by decide +kernel
theorem dX4_hasTwins_27 : decode cX4_hasTwins 27 = .ok (.iconst 1, 1) := by decide +kernel
theorem dX4_hasTwins_28 : decode cX4_hasTwins 28 = .ok (.ireturn, 1) := by decide +kernel
theorem dX4_hasTwins_29 : decode cX4_hasTwins 29 = .ok (.iinc 1 1, 3) := by decide +kernel
theorem dX4_hasTwins_32 : decode cX4_hasTwins 32 = .ok (.goto (-30), 3) := by decide +kernel
theorem dX4_hasTwins_35 : decode cX4_hasTwins 35 = .ok (.iconst 0, 1) := by decide +kernel
theorem dX4_hasTwins_36 : decode cX4_hasTwins 36 = .ok (.ireturn, 1) := by decide +kernel
theorem dX4_mergeTwins_0 : decode cX4_mergeTwins 0 = .ok (.iconst 0, 1) := by decide +kernel
theorem dX4_mergeTwins_1 : decode cX4_mergeTwins 1 = .ok (.istore_n 1, 1) := by decide +kernel
theorem dX4_mergeTwins_2 : decode cX4_mergeTwins 2 = .ok (.aload_n 0, 1) := by decide +kernel
theorem dX4_mergeTwins_3 : decode cX4_mergeTwins 3 = .ok (.getfield 31, 3) := by decide +kernel
theorem dX4_mergeTwins_6 : decode cX4_mergeTwins 6 = .ok (.iconst 1, 1) := by decide +kernel
theorem dX4_mergeTwins_7 : decode cX4_mergeTwins 7 = .ok (.isub, 1) := by decide +kernel
theorem dX4_mergeTwins_8 : decode cX4_mergeTwins 8 = .ok (.istore_n 2, 1) := by decide +kernel
theorem dX4_mergeTwins_9 : decode cX4_mergeTwins 9 = .ok (.iload_n 2, 1) := by decide +kernel
theorem dX4_mergeTwins_10 : decode cX4_mergeTwins 10 = .ok (.ifCond .lt 68, 3) := by decide +kernel
theorem dX4_mergeTwins_13 : decode cX4_mergeTwins 13 = .ok (.iload_n 2, 1) := by decide +kernel
theorem dX4_mergeTwins_14 : decode cX4_mergeTwins 14 = .ok (.aload_n 0, 1) := by decide +kernel
theorem dX4_mergeTwins_15 : decode cX4_mergeTwins 15 = .ok (.getfield 22, 3) := by decide +kernel
theorem dX4_mergeTwins_18 : decode cX4_mergeTwins 18 = .ok (.arraylength, 1) := by decide +kernel
theorem dX4_mergeTwins_19 : decode cX4_mergeTwins 19 = .ok (.if_icmp .ge 59, 3) := by decide +kernel
theorem dX4_mergeTwins_22 : decode cX4_mergeTwins 22 = .ok (.aload_n 0, 1) := by decide +kernel
theorem dX4_mergeTwins_23 : decode cX4_mergeTwins 23 = .ok (.iload_n 2, 1) := by decide +kernel
theorem dX4_mergeTwins_24 : decode cX4_mergeTwins 24 = .ok (.invokevirtual 79, 3) := by decide +kernel
theorem dX4_mergeTwins_27 : decode cX4_mergeTwins 27 = .ok (.istore_n 3, 1) := by decide +kernel
theorem dX4_mergeTwins_28 : decode cX4_mergeTwins 28 = .ok (.iload_n 3, 1) := by decide +kernel
theorem dX4_mergeTwins_29 : decode cX4_mergeTwins 29 = .ok (.ifCond .lt 43, 3) := by decide +kernel
theorem dX4_mergeTwins_32 : decode cX4_mergeTwins 32 = .ok (.iload_n 3, 1) := by decide +kernel
theorem dX4_mergeTwins_33 : decode cX4_mergeTwins 33 = .ok (.aload_n 0, 1) := by decide +kernel
theorem dX4_mergeTwins_34 : decode cX4_mergeTwins 34 = .ok (.getfield 22, 3) := by decide +kernel
theorem dX4_mergeTwins_37 : decode cX4_mergeTwins 37 = .ok (.arraylength, 1) := by decide +kernel
theorem dX4_mergeTwins_38 : decode cX4_mergeTwins 38 = .ok (.if_icmp .ge 34, 3) := by decide +kernel
theorem dX4_mergeTwins_41 : decode cX4_mergeTwins 41 = .ok (.aload_n 0, 1) := by decide +kernel
theorem dX4_mergeTwins_42 : decode cX4_mergeTwins 42 = .ok (.getfield 22, 3) := by decide +kernel
theorem dX4_mergeTwins_45 : decode cX4_mergeTwins 45 = .ok (.iload_n 3, 1) := by decide +kernel
theorem dX4_mergeTwins_46 : decode cX4_mergeTwins 46 = .ok (.aaload, 1) := by decide +kernel
theorem dX4_mergeTwins_47 : decode cX4_mergeTwins 47 = .ok (.dup, 1) := by decide +kernel
theorem dX4_mergeTwins_48 : decode cX4_mergeTwins 48 = .ok (.getfield 82, 3) := by decide +kernel
theorem dX4_mergeTwins_51 : decode cX4_mergeTwins 51 = .ok (.aload_n 0, 1) := by decide +kernel
theorem dX4_mergeTwins_52 : decode cX4_mergeTwins 52 = .ok (.getfield 22, 3) := by decide +kernel
theorem dX4_mergeTwins_55 : decode cX4_mergeTwins 55 = .ok (.iload_n 2, 1) := by decide +kernel
theorem dX4_mergeTwins_56 : decode cX4_mergeTwins 56 = .ok (.aaload, 1) := by decide +kernel
theorem dX4_mergeTwins_57 : decode cX4_mergeTwins 57 = .ok (.getfield 82, 3) := by decide +kernel
theorem dX4_mergeTwins_60 : decode cX4_mergeTwins 60 = .ok (.iadd, 1) := by decide +kernel
theorem dX4_mergeTwins_61 : decode cX4_mergeTwins 61 = .ok (.putfield 82, 3) := by decide +kernel
theorem dX4_mergeTwins_64 : decode cX4_mergeTwins 64 = .ok (.aload_n 0, 1) := by decide +kernel
theorem dX4_mergeTwins_65 : decode cX4_mergeTwins 65 = .ok (.iload_n 2, 1) := by decide +kernel
theorem dX4_mergeTwins_66 : decode cX4_mergeTwins 66 = .ok (.invokevirtual 85, 3) := by decide +kernel
theorem dX4_mergeTwins_69 : decode cX4_mergeTwins 69 = .ok (.iinc 1 1, 3) := by decide +kernel
theorem dX4_mergeTwins_72 : decode cX4_mergeTwins 72 = .ok (.iinc 2 (-1), 3) := by decide +kernel
theorem dX4_mergeTwins_75 : decode cX4_mergeTwins 75 = .ok (.goto (-66), 3) := by decide +kernel
theorem dX4_mergeTwins_78 : decode cX4_mergeTwins 78 = .ok (.iload_n 1, 1) := by decide +kernel
theorem dX4_mergeTwins_79 : decode cX4_mergeTwins 79 = .ok (.ireturn, 1) := by decide +kernel
theorem dX4_firstTwin_0 : decode cX4_firstTwin 0 = .ok (.iload_n 1, 1) := by decide +kernel
theorem dX4_firstTwin_1 : decode cX4_firstTwin 1 = .ok (.ifCond .lt 12, 3) := by decide +kernel
theorem dX4_firstTwin_4 : decode cX4_firstTwin 4 = .ok (.iload_n 1, 1) := by decide +kernel
theorem dX4_firstTwin_5 : decode cX4_firstTwin 5 = .ok (.aload_n 0, 1) := by decide +kernel
theorem dX4_firstTwin_6 : decode cX4_firstTwin 6 = .ok (.getfield 22, 3) := by decide +kernel
theorem dX4_firstTwin_9 : decode cX4_firstTwin 9 = .ok (.arraylength, 1) := by decide +kernel
theorem dX4_firstTwin_10 : decode cX4_firstTwin 10 = .ok (.if_icmp .lt 5, 3) := by decide +kernel
theorem dX4_firstTwin_13 : decode cX4_firstTwin 13 = .ok (.iconst (-1), 1) := by decide +kernel
theorem dX4_firstTwin_14 : decode cX4_firstTwin 14 = .ok (.ireturn, 1) := by decide +kernel
theorem dX4_firstTwin_15 : decode cX4_firstTwin 15 = .ok (.iconst 0, 1) := by decide +kernel
theorem dX4_firstTwin_16 : decode cX4_firstTwin 16 = .ok (.istore_n 2, 1) := by decide +kernel
theorem dX4_firstTwin_17 : decode cX4_firstTwin 17 = .ok (.iload_n 2, 1) := by decide +kernel
theorem dX4_firstTwin_18 : decode cX4_firstTwin 18 = .ok (.iload_n 1, 1) := by decide +kernel
theorem dX4_firstTwin_19 : decode cX4_firstTwin 19 = .ok (.if_icmp .ge 29, 3) := by decide +kernel
theorem dX4_firstTwin_22 : decode cX4_firstTwin 22 = .ok (.aload_n 0, 1) := by decide +kernel
theorem dX4_firstTwin_23 : decode cX4_firstTwin 23 = .ok (.getfield 22, 3) := by decide +kernel
theorem dX4_firstTwin_26 : decode cX4_firstTwin 26 = .ok (.iload_n 2, 1) := by decide +kernel
theorem dX4_firstTwin_27 : decode cX4_firstTwin 27 = .ok (.aaload, 1) := by decide +kernel
theorem dX4_firstTwin_28 : decode cX4_firstTwin 28 = .ok (.aload_n 0, 1) := by decide +kernel
theorem dX4_firstTwin_29 : decode cX4_firstTwin 29 = .ok (.getfield 22, 3) := by decide +kernel
theorem dX4_firstTwin_32 : decode cX4_firstTwin 32 = .ok (.iload_n 1, 1) := by decide +kernel
theorem dX4_firstTwin_33 : decode cX4_firstTwin 33 = .ok (.aaload, 1) := by decide +kernel
theorem dX4_firstTwin_34 : decode cX4_firstTwin 34 = .ok (.invokevirtual 88, 3) := by decide +kernel
theorem dX4_firstTwin_37 : decode cX4_firstTwin 37 = .ok (.ifCond .eq 5, 3) := by decide +kernel
theorem dX4_firstTwin_40 : decode cX4_firstTwin 40 = .ok (.iload_n 2, 1) := by decide +kernel
theorem dX4_firstTwin_41 : decode cX4_firstTwin 41 = .ok (.ireturn, 1) := by decide +kernel
theorem dX4_firstTwin_42 : decode cX4_firstTwin 42 = .ok (.iinc 2 1, 3) := by decide +kernel
theorem dX4_firstTwin_45 : decode cX4_firstTwin 45 = .ok (.goto (-28), 3) := by decide +kernel
theorem dX4_firstTwin_48 : decode cX4_firstTwin 48 = .ok (.iconst (-1), 1) := by decide +kernel
theorem dX4_firstTwin_49 : decode cX4_firstTwin 49 = .ok (.ireturn, 1) := by decide +kernel
theorem dX4_numberCovering_0 : decode cX4_numberCovering 0 = .ok (.iconst 0, 1) := by decide +kernel
theorem dX4_numberCovering_1 : decode cX4_numberCovering 1 = .ok (.istore_n 3, 1) := by decide +kernel
theorem dX4_numberCovering_2 : decode cX4_numberCovering 2 = .ok (.iload_n 3, 1) := by decide +kernel
theorem dX4_numberCovering_3 : decode cX4_numberCovering 3 = .ok (.aload_n 0, 1) := by decide +kernel
theorem dX4_numberCovering_4 : decode cX4_numberCovering 4 = .ok (.getfield 31, 3) := by decide +kernel
theorem dX4_numberCovering_7 : decode cX4_numberCovering 7 = .ok (.if_icmp .ge 56, 3) := by decide +kernel
theorem dX4_numberCovering_10 : decode cX4_numberCovering 10 = .ok (.iload_n 3, 1) := by decide +kernel
theorem dX4_numberCovering_11 : decode cX4_numberCovering 11 = .ok (.aload_n 0, 1) := by decide +kernel
theorem dX4_numberCovering_12 : decode cX4_numberCovering 12 = .ok (.getfield 22, 3) := by decide +kernel
theorem dX4_numberCovering_15 : decode cX4_numberCovering 15 = .ok (.arraylength, 1) := by decide +kernel
theorem dX4_numberCovering_16 : decode cX4_numberCovering 16 = .ok (.if_icmp .ge 47, 3) := by decide +kernel
theorem dX4_numberCovering_19 : decode cX4_numberCovering 19 = .ok (.aload_n 0, 1) := by decide +kernel
theorem dX4_numberCovering_20 : decode cX4_numberCovering 20 = .ok (.getfield 22, 3) := by decide +kernel
theorem dX4_numberCovering_23 : decode cX4_numberCovering 23 = .ok (.iload_n 3, 1) := by decide +kernel
theorem dX4_numberCovering_24 : decode cX4_numberCovering 24 = .ok (.aaload, 1) := by decide +kernel
theorem dX4_numberCovering_25 : decode cX4_numberCovering 25 = .ok (.iload_n 1, 1) := by decide +kernel
theorem dX4_numberCovering_26 : decode cX4_numberCovering 26 = .ok (.invokevirtual 92, 3) := by decide +kernel
theorem dX4_numberCovering_29 : decode cX4_numberCovering 29 = .ok (.ifCond .eq 28, 3) := by decide +kernel
theorem dX4_numberCovering_32 : decode cX4_numberCovering 32 = .ok (.aload_n 0, 1) := by decide +kernel
theorem dX4_numberCovering_33 : decode cX4_numberCovering 33 = .ok (.aload_n 0, 1) := by decide +kernel
theorem dX4_numberCovering_34 : decode cX4_numberCovering 34 = .ok (.getfield 22, 3) := by decide +kernel
theorem dX4_numberCovering_37 : decode cX4_numberCovering 37 = .ok (.iload_n 3, 1) := by decide +kernel
theorem dX4_numberCovering_38 : decode cX4_numberCovering 38 = .ok (.aaload, 1) := by decide +kernel
theorem dX4_numberCovering_39 : decode cX4_numberCovering 39 = .ok (.iload_n 1, 1) := by decide +kernel
theorem dX4_numberCovering_40 : decode cX4_numberCovering 40 = .ok (.invokevirtual 96, 3) := by decide +kernel
theorem dX4_numberCovering_43 : decode cX4_numberCovering 43 = .ok (.iload_n 2, 1) := by decide +kernel
theorem dX4_numberCovering_44 : decode cX4_numberCovering 44 = .ok (.if_icmp .ne 13, 3) := by decide +kernel
theorem dX4_numberCovering_47 : decode cX4_numberCovering 47 = .ok (.aload_n 0, 1) := by decide +kernel
theorem dX4_numberCovering_48 : decode cX4_numberCovering 48 = .ok (.getfield 22, 3) := by decide +kernel
theorem dX4_numberCovering_51 : decode cX4_numberCovering 51 = .ok (.iload_n 3, 1) := by decide +kernel
theorem dX4_numberCovering_52 : decode cX4_numberCovering 52 = .ok (.aaload, 1) := by decide +kernel
theorem dX4_numberCovering_53 : decode cX4_numberCovering 53 = .ok (.getfield 47, 3) := by decide +kernel
theorem dX4_numberCovering_56 : decode cX4_numberCovering 56 = .ok (.ireturn, 1) := by decide +kernel
theorem dX4_numberCovering_57 : decode cX4_numberCovering 57 = .ok (.iinc 3 1, 3) := by decide +kernel
theorem dX4_numberCovering_60 : decode cX4_numberCovering 60 = .ok (.goto (-58), 3) := by decide +kernel
theorem dX4_numberCovering_63 : decode cX4_numberCovering 63 = .ok (.sipush (-1005), 3) := by decide +kernel
theorem dX4_numberCovering_66 : decode cX4_numberCovering 66 = .ok (.ireturn, 1) := by decide +kernel
theorem dX4_rankOf_0 : decode cX4_rankOf 0 = .ok (.iconst 0, 1) := by decide +kernel
theorem dX4_rankOf_1 : decode cX4_rankOf 1 = .ok (.istore_n 3, 1) := by decide +kernel
theorem dX4_rankOf_2 : decode cX4_rankOf 2 = .ok (.iconst 0, 1) := by decide +kernel
theorem dX4_rankOf_3 : decode cX4_rankOf 3 = .ok (.istore 4, 2) := by decide +kernel
theorem dX4_rankOf_5 : decode cX4_rankOf 5 = .ok (.iload 4, 2) := by decide +kernel
theorem dX4_rankOf_7 : decode cX4_rankOf 7 = .ok (.aload_n 0, 1) := by decide +kernel
theorem dX4_rankOf_8 : decode cX4_rankOf 8 = .ok (.getfield 31, 3) := by decide +kernel
theorem dX4_rankOf_11 : decode cX4_rankOf 11 = .ok (.if_icmp .ge 50, 3) := by decide +kernel
theorem dX4_rankOf_14 : decode cX4_rankOf 14 = .ok (.iload 4, 2) := by decide +kernel
theorem dX4_rankOf_16 : decode cX4_rankOf 16 = .ok (.aload_n 0, 1) := by decide +kernel
theorem dX4_rankOf_17 : decode cX4_rankOf 17 = .ok (.getfield 22, 3) := by decide +kernel
theorem dX4_rankOf_20 : decode cX4_rankOf 20 = .ok (.arraylength, 1) := by decide +kernel
theorem dX4_rankOf_21 : decode cX4_rankOf 21 = .ok (.if_icmp .ge 40, 3) := by decide +kernel
theorem dX4_rankOf_24 : decode cX4_rankOf 24 = .ok (.aload_n 0, 1) := by decide +kernel
theorem dX4_rankOf_25 : decode cX4_rankOf 25 = .ok (.getfield 22, 3) := by decide +kernel
theorem dX4_rankOf_28 : decode cX4_rankOf 28 = .ok (.iload 4, 2) := by decide +kernel
theorem dX4_rankOf_30 : decode cX4_rankOf 30 = .ok (.aaload, 1) := by decide +kernel
theorem dX4_rankOf_31 : decode cX4_rankOf 31 = .ok (.iload_n 2, 1) := by decide +kernel
theorem dX4_rankOf_32 : decode cX4_rankOf 32 = .ok (.invokevirtual 92, 3) := by decide +kernel
theorem dX4_rankOf_35 : decode cX4_rankOf 35 = .ok (.ifCond .eq 20, 3) := by decide +kernel
theorem dX4_rankOf_38 : decode cX4_rankOf 38 = .ok (.aload_n 0, 1) := by decide +kernel
theorem dX4_rankOf_39 : decode cX4_rankOf 39 = .ok (.getfield 22, 3) := by decide +kernel
theorem dX4_rankOf_42 : decode cX4_rankOf 42 = .ok (.iload 4, 2) := by decide +kernel
theorem dX4_rankOf_44 : decode cX4_rankOf 44 = .ok (.aaload, 1) := by decide +kernel
theorem dX4_rankOf_45 : decode cX4_rankOf 45 = .ok (.aload_n 1, 1) := by decide +kernel
theorem dX4_rankOf_46 : decode cX4_rankOf 46 = .ok (.invokevirtual 100, 3) := by decide +kernel
theorem dX4_rankOf_49 : decode cX4_rankOf 49 = .ok (.ifCond .eq 6, 3) := by decide +kernel
theorem dX4_rankOf_52 : decode cX4_rankOf 52 = .ok (.iinc 3 1, 3) := by decide +kernel
theorem dX4_rankOf_55 : decode cX4_rankOf 55 = .ok (.iinc 4 1, 3) := by decide +kernel
theorem dX4_rankOf_58 : decode cX4_rankOf 58 = .ok (.goto (-53), 3) := by decide +kernel
theorem dX4_rankOf_61 : decode cX4_rankOf 61 = .ok (.iload_n 3, 1) := by decide +kernel
theorem dX4_rankOf_62 : decode cX4_rankOf 62 = .ok (.ireturn, 1) := by decide +kernel
theorem dX5_init_0 : decode cX5_init 0 = .ok (.aload_n 0, 1) := by decide +kernel
theorem dX5_init_1 : decode cX5_init 1 = .ok (.invokespecial 3, 3) := by decide +kernel
theorem dX5_init_4 : decode cX5_init 4 = .ok (.aload_n 0, 1) := by decide +kernel
theorem dX5_init_5 : decode cX5_init 5 = .ok (.bipush 10, 2) := by decide +kernel
theorem dX5_init_7 : decode cX5_init 7 = .ok (.anewarray 9, 3) := by decide +kernel
theorem dX5_init_10 : decode cX5_init 10 = .ok (.putfield 11, 3) := by decide +kernel
theorem dX5_init_13 : decode cX5_init 13 = .ok (.aload_n 0, 1) := by decide +kernel
theorem dX5_init_14 : decode cX5_init 14 = .ok (.bipush 11, 2) := by decide +kernel
theorem dX5_init_16 : decode cX5_init 16 = .ok (.anewarray 17, 3) := by decide +kernel
theorem dX5_init_19 : decode cX5_init 19 = .ok (.putfield 19, 3) := by decide +kernel
theorem dX5_init_22 : decode cX5_init 22 = .ok (.new 9, 3) := by decide +kernel
theorem dX5_init_25 : decode cX5_init 25 = .ok (.dup, 1) := by decide +kernel
theorem dX5_init_26 : decode cX5_init 26 = .ok (.invokespecial 23, 3) := by decide +kernel
theorem dX5_init_29 : decode cX5_init 29 = .ok (.astore_n 1, 1) := by decide +kernel
theorem dX5_init_30 : decode cX5_init 30 = .ok (.iconst 0, 1) := by decide +kernel
theorem dX5_init_31 : decode cX5_init 31 = .ok (.istore_n 2, 1) := by decide +kernel
theorem dX5_init_32 : decode cX5_init 32 = .ok (.iload_n 2, 1) := by decide +kernel
theorem dX5_init_33 : decode cX5_init 33 = .ok (.aload_n 0, 1) := by decide +kernel
theorem dX5_init_34 : decode cX5_init 34 = .ok (.getfield 11, 3) := by decide +kernel
theorem dX5_init_37 : decode cX5_init 37 = .ok (.arraylength, 1) := by decide +kernel
theorem dX5_init_38 : decode cX5_init 38 = .ok (.if_icmp .ge 16, 3) := by decide +kernel
theorem dX5_init_41 : decode cX5_init 41 = .ok (.aload_n 0, 1) := by decide +kernel
theorem dX5_init_42 : decode cX5_init 42 = .ok (.getfield 11, 3) := by decide +kernel
theorem dX5_init_45 : decode cX5_init 45 = .ok (.iload_n 2, 1) := by decide +kernel
theorem dX5_init_46 : decode cX5_init 46 = .ok (.aload_n 1, 1) := by decide +kernel
theorem dX5_init_47 : decode cX5_init 47 = .ok (.aastore, 1) := by decide +kernel
theorem dX5_init_48 : decode cX5_init 48 = .ok (.iinc 2 1, 3) := by decide +kernel
theorem dX5_init_51 : decode cX5_init 51 = .ok (.goto (-19), 3) := by decide +kernel
theorem dX5_init_54 : decode cX5_init 54 = .ok (.iconst 0, 1) := by decide +kernel
theorem dX5_init_55 : decode cX5_init 55 = .ok (.istore_n 2, 1) := by decide +kernel
theorem dX5_init_56 : decode cX5_init 56 = .ok (.iload_n 2, 1) := by decide +kernel
theorem dX5_init_57 : decode cX5_init 57 = .ok (.aload_n 0, 1) := by decide +kernel
theorem dX5_init_58 : decode cX5_init 58 = .ok (.getfield 19, 3) := by decide +kernel
theorem dX5_init_61 : decode cX5_init 61 = .ok (.arraylength, 1) := by decide +kernel
theorem dX5_init_62 : decode cX5_init 62 = .ok (.if_icmp .ge 22, 3) := by decide +kernel
theorem dX5_init_65 : decode cX5_init 65 = .ok (.aload_n 0, 1) := by decide +kernel
theorem dX5_init_66 : decode cX5_init 66 = .ok (.getfield 19, 3) := by decide +kernel
theorem dX5_init_69 : decode cX5_init 69 = .ok (.iload_n 2, 1) := by decide +kernel
theorem dX5_init_70 : decode cX5_init 70 = .ok (.new 17, 3) := by decide +kernel
theorem dX5_init_73 : decode cX5_init 73 = .ok (.dup, 1) := by decide +kernel
theorem dX5_init_74 : decode cX5_init 74 = .ok (.invokespecial 24, 3) := by decide +kernel
theorem dX5_init_77 : decode cX5_init 77 = .ok (.aastore, 1) := by decide +kernel
theorem dX5_init_78 : decode cX5_init 78 = .ok (.iinc 2 1, 3) := by decide +kernel
theorem dX5_init_81 : decode cX5_init 81 = .ok (.goto (-25), 3) := by decide +kernel
theorem dX5_init_84 : decode cX5_init 84 = .ok (.return_, 1) := by decide +kernel
theorem dX5_gather_0 : decode cX5_gather 0 = .ok (.aload_n 0, 1) := by decide +kernel
theorem dX5_gather_1 : decode cX5_gather 1 = .ok (.iconst 0, 1) := by decide +kernel
theorem dX5_gather_2 : decode cX5_gather 2 = .ok (.putfield 25, 3) := by decide +kernel
theorem dX5_gather_5 : decode cX5_gather 5 = .ok (.iconst 0, 1) := by decide +kernel
theorem dX5_gather_6 : decode cX5_gather 6 = .ok (.istore_n 2, 1) := by decide +kernel
theorem dX5_gather_7 : decode cX5_gather 7 = .ok (.iload_n 2, 1) := by decide +kernel
theorem dX5_gather_8 : decode cX5_gather 8 = .ok (.aload_n 1, 1) := by decide +kernel
theorem dX5_gather_9 : decode cX5_gather 9 = .ok (.getfield 29, 3) := by decide +kernel
theorem dX5_gather_12 : decode cX5_gather 12 = .ok (.if_icmp .ge 40, 3) := by decide +kernel
theorem dX5_gather_15 : decode cX5_gather 15 = .ok (.iload_n 2, 1) := by decide +kernel
theorem dX5_gather_16 : decode cX5_gather 16 = .ok (.aload_n 1, 1) := by decide +kernel
theorem dX5_gather_17 : decode cX5_gather 17 = .ok (.getfield 32, 3) := by decide +kernel
theorem dX5_gather_20 : decode cX5_gather 20 = .ok (.arraylength, 1) := by decide +kernel
theorem dX5_gather_21 : decode cX5_gather 21 = .ok (.if_icmp .ge 31, 3) := by decide +kernel
theorem dX5_gather_24 : decode cX5_gather 24 = .ok (.aload_n 1, 1) := by decide +kernel
theorem dX5_gather_25 : decode cX5_gather 25 = .ok (.getfield 32, 3) := by decide +kernel
theorem dX5_gather_28 : decode cX5_gather 28 = .ok (.iload_n 2, 1) := by decide +kernel
theorem dX5_gather_29 : decode cX5_gather 29 = .ok (.aaload, 1) := by decide +kernel
theorem dX5_gather_30 : decode cX5_gather 30 = .ok (.getfield 35, 3) := by decide +kernel
theorem dX5_gather_33 : decode cX5_gather 33 = .ok (.ifCond .ne 13, 3) := by decide +kernel
theorem dX5_gather_36 : decode cX5_gather 36 = .ok (.aload_n 0, 1) := by decide +kernel
theorem dX5_gather_37 : decode cX5_gather 37 = .ok (.aload_n 1, 1) := by decide +kernel
theorem dX5_gather_38 : decode cX5_gather 38 = .ok (.getfield 32, 3) := by decide +kernel
theorem dX5_gather_41 : decode cX5_gather 41 = .ok (.iload_n 2, 1) := by decide +kernel
theorem dX5_gather_42 : decode cX5_gather 42 = .ok (.aaload, 1) := by decide +kernel
theorem dX5_gather_43 : decode cX5_gather 43 = .ok (.invokevirtual 38, 3) := by decide +kernel
theorem dX5_gather_46 : decode cX5_gather 46 = .ok (.iinc 2 1, 3) := by decide +kernel

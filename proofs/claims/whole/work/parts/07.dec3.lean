theorem dX9_attachAll_33 : decode cX9_attachAll 33 = .ok (.invokevirtual 156, 3) := by decide +kernel
theorem dX9_attachAll_36 : decode cX9_attachAll 36 = .ok (.istore 4, 2) := by decide +kernel
theorem dX9_attachAll_38 : decode cX9_attachAll 38 = .ok (.iload 4, 2) := by decide +kernel
theorem dX9_attachAll_40 : decode cX9_attachAll 40 = .ok (.ifCond .lt 33, 3) := by decide +kernel
theorem dX9_attachAll_43 : decode cX9_attachAll 43 = .ok (.aload_n 0, 1) := by decide +kernel
theorem dX9_attachAll_44 : decode cX9_attachAll 44 = .ok (.aload_n 0, 1) := by decide +kernel
theorem dX9_attachAll_45 : decode cX9_attachAll 45 = .ok (.getfield 36, 3) := by decide +kernel
theorem dX9_attachAll_48 : decode cX9_attachAll 48 = .ok (.iload_n 3, 1) := by decide +kernel
theorem dX9_attachAll_49 : decode cX9_attachAll 49 = .ok (.iaload, 1) := by decide +kernel
theorem dX9_attachAll_50 : decode cX9_attachAll 50 = .ok (.iload 4, 2) := by decide +kernel
theorem dX9_attachAll_52 : decode cX9_attachAll 52 = .ok (.aload_n 0, 1) := by decide +kernel
theorem dX9_attachAll_53 : decode cX9_attachAll 53 = .ok (.getfield 42, 3) := by decide +kernel
theorem dX9_attachAll_56 : decode cX9_attachAll 56 = .ok (.bipush 121, 2) := by decide +kernel
theorem dX9_attachAll_58 : decode cX9_attachAll 58 = .ok (.iload_n 3, 1) := by decide +kernel
theorem dX9_attachAll_59 : decode cX9_attachAll 59 = .ok (.imul, 1) := by decide +kernel
theorem dX9_attachAll_60 : decode cX9_attachAll 60 = .ok (.iload 4, 2) := by decide +kernel
theorem dX9_attachAll_62 : decode cX9_attachAll 62 = .ok (.iadd, 1) := by decide +kernel
theorem dX9_attachAll_63 : decode cX9_attachAll 63 = .ok (.iaload, 1) := by decide +kernel
theorem dX9_attachAll_64 : decode cX9_attachAll 64 = .ok (.invokevirtual 137, 3) := by decide +kernel
theorem dX9_attachAll_67 : decode cX9_attachAll 67 = .ok (.iload 4, 2) := by decide +kernel
theorem dX9_attachAll_69 : decode cX9_attachAll 69 = .ok (.istore_n 2, 1) := by decide +kernel
theorem dX9_attachAll_70 : decode cX9_attachAll 70 = .ok (.iinc 1 1, 3) := by decide +kernel
theorem dX9_attachAll_73 : decode cX9_attachAll 73 = .ok (.iinc 3 1, 3) := by decide +kernel
theorem dX9_attachAll_76 : decode cX9_attachAll 76 = .ok (.goto (-54), 3) := by decide +kernel
theorem dX9_attachAll_79 : decode cX9_attachAll 79 = .ok (.aload_n 0, 1) := by decide +kernel
theorem dX9_attachAll_80 : decode cX9_attachAll 80 = .ok (.getfield 141, 3) := by decide +kernel
theorem dX9_attachAll_83 : decode cX9_attachAll 83 = .ok (.ifCond .ne 9, 3) := by decide +kernel
theorem dX9_attachAll_86 : decode cX9_attachAll 86 = .ok (.sipush (-1005), 3) := by decide +kernel
theorem dX9_attachAll_89 : decode cX9_attachAll 89 = .ok (.goto 8, 3) := by decide +kernel
theorem dX9_attachAll_92 : decode cX9_attachAll 92 = .ok (.aload_n 0, 1) := by decide +kernel
theorem dX9_attachAll_93 : decode cX9_attachAll 93 = .ok (.iload_n 1, 1) := by decide +kernel
theorem dX9_attachAll_94 : decode cX9_attachAll 94 = .ok (.invokevirtual 72, 3) := by decide +kernel
theorem dX9_attachAll_97 : decode cX9_attachAll 97 = .ok (.ireturn, 1) := by decide +kernel
theorem dX9_isLike_0 : decode cX9_isLike 0 = .ok (.aload_n 0, 1) := by decide +kernel
theorem dX9_isLike_1 : decode cX9_isLike 1 = .ok (.getfield 7, 3) := by decide +kernel
theorem dX9_isLike_4 : decode cX9_isLike 4 = .ok (.iload_n 1, 1) := by decide +kernel
theorem dX9_isLike_5 : decode cX9_isLike 5 = .ok (.iconst 1, 1) := by decide +kernel
theorem dX9_isLike_6 : decode cX9_isLike 6 = .ok (.invokestatic 48, 3) := by decide +kernel
theorem dX9_isLike_9 : decode cX9_isLike 9 = .ok (.iaload, 1) := by decide +kernel
theorem dX9_isLike_10 : decode cX9_isLike 10 = .ok (.iconst 1, 1) := by decide +kernel
theorem dX9_isLike_11 : decode cX9_isLike 11 = .ok (.if_icmp .ne 21, 3) := by decide +kernel
theorem dX9_isLike_14 : decode cX9_isLike 14 = .ok (.aload_n 0, 1) := by decide +kernel
theorem dX9_isLike_15 : decode cX9_isLike 15 = .ok (.getfield 7, 3) := by decide +kernel
theorem dX9_isLike_18 : decode cX9_isLike 18 = .ok (.iload_n 2, 1) := by decide +kernel
theorem dX9_isLike_19 : decode cX9_isLike 19 = .ok (.iconst 1, 1) := by decide +kernel
theorem dX9_isLike_20 : decode cX9_isLike 20 = .ok (.invokestatic 48, 3) := by decide +kernel
theorem dX9_isLike_23 : decode cX9_isLike 23 = .ok (.iaload, 1) := by decide +kernel
theorem dX9_isLike_24 : decode cX9_isLike 24 = .ok (.iconst 1, 1) := by decide +kernel
theorem dX9_isLike_25 : decode cX9_isLike 25 = .ok (.if_icmp .ne 7, 3) := by decide +kernel
theorem dX9_isLike_28 : decode cX9_isLike 28 = .ok (.iconst 1, 1) := by decide +kernel
theorem dX9_isLike_29 : decode cX9_isLike 29 = .ok (.goto 4, 3) := by decide +kernel
theorem dX9_isLike_32 : decode cX9_isLike 32 = .ok (.iconst 0, 1) := by decide +kernel
theorem dX9_isLike_33 : decode cX9_isLike 33 = .ok (.istore_n 3, 1) := by decide +kernel
theorem dX9_isLike_34 : decode cX9_isLike 34 = .ok (.iload_n 3, 1) := by decide +kernel
theorem dX9_isLike_35 : decode cX9_isLike 35 = .ok (.ifCond .eq 53, 3) := by decide +kernel
theorem dX9_isLike_38 : decode cX9_isLike 38 = .ok (.aload_n 0, 1) := by decide +kernel
theorem dX9_isLike_39 : decode cX9_isLike 39 = .ok (.getfield 7, 3) := by decide +kernel
theorem dX9_isLike_42 : decode cX9_isLike 42 = .ok (.iload_n 1, 1) := by decide +kernel
theorem dX9_isLike_43 : decode cX9_isLike 43 = .ok (.iconst 2, 1) := by decide +kernel
theorem dX9_isLike_44 : decode cX9_isLike 44 = .ok (.invokestatic 48, 3) := by decide +kernel
theorem dX9_isLike_47 : decode cX9_isLike 47 = .ok (.iaload, 1) := by decide +kernel
theorem dX9_isLike_48 : decode cX9_isLike 48 = .ok (.aload_n 0, 1) := by decide +kernel
theorem dX9_isLike_49 : decode cX9_isLike 49 = .ok (.getfield 7, 3) := by decide +kernel
theorem dX9_isLike_52 : decode cX9_isLike 52 = .ok (.iload_n 2, 1) := by decide +kernel
theorem dX9_isLike_53 : decode cX9_isLike 53 = .ok (.iconst 2, 1) := by decide +kernel
theorem dX9_isLike_54 : decode cX9_isLike 54 = .ok (.invokestatic 48, 3) := by decide +kernel
theorem dX9_isLike_57 : decode cX9_isLike 57 = .ok (.iaload, 1) := by decide +kernel
theorem dX9_isLike_58 : decode cX9_isLike 58 = .ok (.if_icmp .ne 30, 3) := by decide +kernel
theorem dX9_isLike_61 : decode cX9_isLike 61 = .ok (.aload_n 0, 1) := by decide +kernel
theorem dX9_isLike_62 : decode cX9_isLike 62 = .ok (.getfield 7, 3) := by decide +kernel
theorem dX9_isLike_65 : decode cX9_isLike 65 = .ok (.iload_n 1, 1) := by decide +kernel
theorem dX9_isLike_66 : decode cX9_isLike 66 = .ok (.iconst 3, 1) := by decide +kernel
theorem dX9_isLike_67 : decode cX9_isLike 67 = .ok (.invokestatic 48, 3) := by decide +kernel
theorem dX9_isLike_70 : decode cX9_isLike 70 = .ok (.iaload, 1) := by decide +kernel
theorem dX9_isLike_71 : decode cX9_isLike 71 = .ok (.aload_n 0, 1) := by decide +kernel
theorem dX9_isLike_72 : decode cX9_isLike 72 = .ok (.getfield 7, 3) := by decide +kernel
theorem dX9_isLike_75 : decode cX9_isLike 75 = .ok (.iload_n 2, 1) := by decide +kernel
theorem dX9_isLike_76 : decode cX9_isLike 76 = .ok (.iconst 3, 1) := by decide +kernel
theorem dX9_isLike_77 : decode cX9_isLike 77 = .ok (.invokestatic 48, 3) := by decide +kernel
theorem dX9_isLike_80 : decode cX9_isLike 80 = .ok (.iaload, 1) := by decide +kernel
theorem dX9_isLike_81 : decode cX9_isLike 81 = .ok (.if_icmp .ne 7, 3) := by decide +kernel
theorem dX9_isLike_84 : decode cX9_isLike 84 = .ok (.iconst 1, 1) := by decide +kernel
theorem dX9_isLike_85 : decode cX9_isLike 85 = .ok (.goto 4, 3) := by decide +kernel
theorem dX9_isLike_88 : decode cX9_isLike 88 = .ok (.iconst 0, 1) := by decide +kernel
theorem dX9_isLike_89 : decode cX9_isLike 89 = .ok (.ireturn, 1) := by decide +kernel
theorem dX9_merge_0 : decode cX9_merge 0 = .ok (.aload_n 0, 1) := by decide +kernel
theorem dX9_merge_1 : decode cX9_merge 1 = .ok (.invokevirtual 66, 3) := by decide +kernel
theorem dX9_merge_4 : decode cX9_merge 4 = .ok (.iconst 0, 1) := by decide +kernel
theorem dX9_merge_5 : decode cX9_merge 5 = .ok (.istore_n 1, 1) := by decide +kernel
theorem dX9_merge_6 : decode cX9_merge 6 = .ok (.iconst 0, 1) := by decide +kernel
theorem dX9_merge_7 : decode cX9_merge 7 = .ok (.istore_n 2, 1) := by decide +kernel
theorem dX9_merge_8 : decode cX9_merge 8 = .ok (.iload_n 2, 1) := by decide +kernel
theorem dX9_merge_9 : decode cX9_merge 9 = .ok (.aload_n 0, 1) := by decide +kernel
theorem dX9_merge_10 : decode cX9_merge 10 = .ok (.getfield 7, 3) := by decide +kernel
theorem dX9_merge_13 : decode cX9_merge 13 = .ok (.bipush 122, 2) := by decide +kernel
theorem dX9_merge_15 : decode cX9_merge 15 = .ok (.iaload, 1) := by decide +kernel
theorem dX9_merge_16 : decode cX9_merge 16 = .ok (.if_icmp .ge 70, 3) := by decide +kernel
theorem dX9_merge_19 : decode cX9_merge 19 = .ok (.aload_n 0, 1) := by decide +kernel
theorem dX9_merge_20 : decode cX9_merge 20 = .ok (.getfield 7, 3) := by decide +kernel
theorem dX9_merge_23 : decode cX9_merge 23 = .ok (.bipush 122, 2) := by decide +kernel
theorem dX9_merge_25 : decode cX9_merge 25 = .ok (.iaload, 1) := by decide +kernel
theorem dX9_merge_26 : decode cX9_merge 26 = .ok (.iconst 1, 1) := by decide +kernel
theorem dX9_merge_27 : decode cX9_merge 27 = .ok (.isub, 1) := by decide +kernel
theorem dX9_merge_28 : decode cX9_merge 28 = .ok (.istore_n 3, 1) := by decide +kernel
theorem dX9_merge_29 : decode cX9_merge 29 = .ok (.iload_n 3, 1) := by decide +kernel
theorem dX9_merge_30 : decode cX9_merge 30 = .ok (.iload_n 2, 1) := by decide +kernel
theorem dX9_merge_31 : decode cX9_merge 31 = .ok (.if_icmp .le 49, 3) := by decide +kernel
theorem dX9_merge_34 : decode cX9_merge 34 = .ok (.aload_n 0, 1) := by decide +kernel
theorem dX9_merge_35 : decode cX9_merge 35 = .ok (.iload_n 2, 1) := by decide +kernel
theorem dX9_merge_36 : decode cX9_merge 36 = .ok (.iload_n 3, 1) := by decide +kernel
theorem dX9_merge_37 : decode cX9_merge 37 = .ok (.invokevirtual 159, 3) := by decide +kernel
theorem dX9_merge_40 : decode cX9_merge 40 = .ok (.ifCond .eq 34, 3) := by decide +kernel
theorem dX9_merge_43 : decode cX9_merge 43 = .ok (.aload_n 0, 1) := by decide +kernel
theorem dX9_merge_44 : decode cX9_merge 44 = .ok (.getfield 7, 3) := by decide +kernel
theorem dX9_merge_47 : decode cX9_merge 47 = .ok (.iload_n 2, 1) := by decide +kernel
theorem dX9_merge_48 : decode cX9_merge 48 = .ok (.iconst 4, 1) := by decide +kernel
theorem dX9_merge_49 : decode cX9_merge 49 = .ok (.invokestatic 48, 3) := by decide +kernel
theorem dX9_merge_52 : decode cX9_merge 52 = .ok (.dup2, 1) := by decide +kernel
theorem dX9_merge_53 : decode cX9_merge 53 = .ok (.iaload, 1) := by decide +kernel
theorem dX9_merge_54 : decode cX9_merge 54 = .ok (.aload_n 0, 1) := by decide +kernel
theorem dX9_merge_55 : decode cX9_merge 55 = .ok (.getfield 7, 3) := by decide +kernel
theorem dX9_merge_58 : decode cX9_merge 58 = .ok (.iload_n 3, 1) := by decide +kernel
theorem dX9_merge_59 : decode cX9_merge 59 = .ok (.iconst 4, 1) := by decide +kernel
theorem dX9_merge_60 : decode cX9_merge 60 = .ok (.invokestatic 48, 3) := by decide +kernel
theorem dX9_merge_63 : decode cX9_merge 63 = .ok (.iaload, 1) := by decide +kernel
theorem dX9_merge_64 : decode cX9_merge 64 = .ok (.iadd, 1) := by decide +kernel
theorem dX9_merge_65 : decode cX9_merge 65 = .ok (.iastore, 1) := by decide +kernel
theorem dX9_merge_66 : decode cX9_merge 66 = .ok (.aload_n 0, 1) := by decide +kernel
theorem dX9_merge_67 : decode cX9_merge 67 = .ok (.iload_n 3, 1) := by decide +kernel
theorem dX9_merge_68 : decode cX9_merge 68 = .ok (.invokevirtual 95, 3) := by decide +kernel
theorem dX9_merge_71 : decode cX9_merge 71 = .ok (.iinc 1 1, 3) := by decide +kernel
theorem dX9_merge_74 : decode cX9_merge 74 = .ok (.iinc 3 (-1), 3) := by decide +kernel
theorem dX9_merge_77 : decode cX9_merge 77 = .ok (.goto (-48), 3) := by decide +kernel
theorem dX9_merge_80 : decode cX9_merge 80 = .ok (.iinc 2 1, 3) := by decide +kernel
theorem dX9_merge_83 : decode cX9_merge 83 = .ok (.goto (-75), 3) := by decide +kernel
theorem dX9_merge_86 : decode cX9_merge 86 = .ok (.iload_n 1, 1) := by decide +kernel
theorem dX9_merge_87 : decode cX9_merge 87 = .ok (.ifCond .ne 9, 3) := by decide +kernel
theorem dX9_merge_90 : decode cX9_merge 90 = .ok (.sipush (-1005), 3) := by decide +kernel
theorem dX9_merge_93 : decode cX9_merge 93 = .ok (.goto 8, 3) := by decide +kernel
theorem dX9_merge_96 : decode cX9_merge 96 = .ok (.aload_n 0, 1) := by decide +kernel
theorem dX9_merge_97 : decode cX9_merge 97 = .ok (.iload_n 1, 1) := by decide +kernel
theorem dX9_merge_98 : decode cX9_merge 98 = .ok (.invokevirtual 72, 3) := by decide +kernel
theorem dX9_merge_101 : decode cX9_merge 101 = .ok (.ireturn, 1) := by decide +kernel
theorem dX9_undo_0 : decode cX9_undo 0 = .ok (.aload_n 0, 1) := by decide +kernel
theorem dX9_undo_1 : decode cX9_undo 1 = .ok (.getfield 60, 3) := by decide +kernel
theorem dX9_undo_4 : decode cX9_undo 4 = .ok (.ifCond .ne 7, 3) := by decide +kernel
theorem dX9_undo_7 : decode cX9_undo 7 = .ok (.sipush (-1003), 3) := by decide +kernel
theorem dX9_undo_10 : decode cX9_undo 10 = .ok (.ireturn, 1) := by decide +kernel
theorem dX9_undo_11 : decode cX9_undo 11 = .ok (.aload_n 0, 1) := by decide +kernel
theorem dX9_undo_12 : decode cX9_undo 12 = .ok (.dup, 1) := by decide +kernel
theorem dX9_undo_13 : decode cX9_undo 13 = .ok (.getfield 60, 3) := by decide +kernel
theorem dX9_undo_16 : decode cX9_undo 16 = .ok (.iconst 1, 1) := by decide +kernel
theorem dX9_undo_17 : decode cX9_undo 17 = .ok (.isub, 1) := by decide +kernel
theorem dX9_undo_18 : decode cX9_undo 18 = .ok (.putfield 60, 3) := by decide +kernel
theorem dX9_undo_21 : decode cX9_undo 21 = .ok (.aload_n 0, 1) := by decide +kernel
theorem dX9_undo_22 : decode cX9_undo 22 = .ok (.getfield 16, 3) := by decide +kernel
theorem dX9_undo_25 : decode cX9_undo 25 = .ok (.sipush 483, 3) := by decide +kernel
theorem dX9_undo_28 : decode cX9_undo 28 = .ok (.aload_n 0, 1) := by decide +kernel
theorem dX9_undo_29 : decode cX9_undo 29 = .ok (.getfield 60, 3) := by decide +kernel
theorem dX9_undo_32 : decode cX9_undo 32 = .ok (.imul, 1) := by decide +kernel
theorem dX9_undo_33 : decode cX9_undo 33 = .ok (.aload_n 0, 1) := by decide +kernel
theorem dX9_undo_34 : decode cX9_undo 34 = .ok (.getfield 7, 3) := by decide +kernel
theorem dX9_undo_37 : decode cX9_undo 37 = .ok (.iconst 0, 1) := by decide +kernel
theorem dX9_undo_38 : decode cX9_undo 38 = .ok (.invokestatic 56, 3) := by decide +kernel
theorem dX9_undo_41 : decode cX9_undo 41 = .ok (.aload_n 0, 1) := by decide +kernel
theorem dX9_undo_42 : decode cX9_undo 42 = .ok (.getfield 60, 3) := by decide +kernel
theorem dX9_undo_45 : decode cX9_undo 45 = .ok (.ireturn, 1) := by decide +kernel
theorem dX9_length_0 : decode cX9_length 0 = .ok (.aload_n 0, 1) := by decide +kernel
theorem dX9_length_1 : decode cX9_length 1 = .ok (.getfield 7, 3) := by decide +kernel
theorem dX9_length_4 : decode cX9_length 4 = .ok (.iconst 0, 1) := by decide +kernel
theorem dX9_length_5 : decode cX9_length 5 = .ok (.iaload, 1) := by decide +kernel
theorem dX9_length_6 : decode cX9_length 6 = .ok (.ireturn, 1) := by decide +kernel
theorem dX9_isLetter_0 : decode cX9_isLetter 0 = .ok (.iload_n 1, 1) := by decide +kernel
theorem dX9_isLetter_1 : decode cX9_isLetter 1 = .ok (.iconst 0, 1) := by decide +kernel
theorem dX9_isLetter_2 : decode cX9_isLetter 2 = .ok (.aload_n 0, 1) := by decide +kernel
theorem dX9_isLetter_3 : decode cX9_isLetter 3 = .ok (.getfield 7, 3) := by decide +kernel
theorem dX9_isLetter_6 : decode cX9_isLetter 6 = .ok (.iconst 0, 1) := by decide +kernel
theorem dX9_isLetter_7 : decode cX9_isLetter 7 = .ok (.iaload, 1) := by decide +kernel
theorem dX9_isLetter_8 : decode cX9_isLetter 8 = .ok (.iconst 1, 1) := by decide +kernel
theorem dX9_isLetter_9 : decode cX9_isLetter 9 = .ok (.isub, 1) := by decide +kernel
theorem dX9_isLetter_10 : decode cX9_isLetter 10 = .ok (.invokestatic 52, 3) := by decide +kernel
theorem dX9_isLetter_13 : decode cX9_isLetter 13 = .ok (.ireturn, 1) := by decide +kernel
theorem dX9_letter_0 : decode cX9_letter 0 = .ok (.aload_n 0, 1) := by decide +kernel
theorem dX9_letter_1 : decode cX9_letter 1 = .ok (.iload_n 1, 1) := by decide +kernel
theorem dX9_letter_2 : decode cX9_letter 2 = .ok (.invokevirtual 162, 3) := by decide +kernel
theorem dX9_letter_5 : decode cX9_letter 5 = .ok (.ifCond .eq 14, 3) := by decide +kernel
theorem dX9_letter_8 : decode cX9_letter 8 = .ok (.aload_n 0, 1) := by decide +kernel
theorem dX9_letter_9 : decode cX9_letter 9 = .ok (.getfield 7, 3) := by decide +kernel
theorem dX9_letter_12 : decode cX9_letter 12 = .ok (.iconst 1, 1) := by decide +kernel
theorem dX9_letter_13 : decode cX9_letter 13 = .ok (.iload_n 1, 1) := by decide +kernel
theorem dX9_letter_14 : decode cX9_letter 14 = .ok (.iadd, 1) := by decide +kernel
theorem dX9_letter_15 : decode cX9_letter 15 = .ok (.iaload, 1) := by decide +kernel
theorem dX9_letter_16 : decode cX9_letter 16 = .ok (.goto 6, 3) := by decide +kernel
theorem dX9_letter_19 : decode cX9_letter 19 = .ok (.sipush (-1001), 3) := by decide +kernel
theorem dX9_letter_22 : decode cX9_letter 22 = .ok (.ireturn, 1) := by decide +kernel
theorem dX9_comments_0 : decode cX9_comments 0 = .ok (.aload_n 0, 1) := by decide +kernel
theorem dX9_comments_1 : decode cX9_comments 1 = .ok (.getfield 7, 3) := by decide +kernel
theorem dX9_comments_4 : decode cX9_comments 4 = .ok (.bipush 122, 2) := by decide +kernel
theorem dX9_comments_6 : decode cX9_comments 6 = .ok (.iaload, 1) := by decide +kernel
theorem dX9_comments_7 : decode cX9_comments 7 = .ok (.ireturn, 1) := by decide +kernel
theorem dX9_commentAt_0 : decode cX9_commentAt 0 = .ok (.iload_n 1, 1) := by decide +kernel
theorem dX9_commentAt_1 : decode cX9_commentAt 1 = .ok (.iconst 0, 1) := by decide +kernel
theorem dX9_commentAt_2 : decode cX9_commentAt 2 = .ok (.aload_n 0, 1) := by decide +kernel
theorem dX9_commentAt_3 : decode cX9_commentAt 3 = .ok (.getfield 7, 3) := by decide +kernel
theorem dX9_commentAt_6 : decode cX9_commentAt 6 = .ok (.bipush 122, 2) := by decide +kernel
theorem dX9_commentAt_8 : decode cX9_commentAt 8 = .ok (.iaload, 1) := by decide +kernel
theorem dX9_commentAt_9 : decode cX9_commentAt 9 = .ok (.iconst 1, 1) := by decide +kernel
theorem dX9_commentAt_10 : decode cX9_commentAt 10 = .ok (.isub, 1) := by decide +kernel
theorem dX9_commentAt_11 : decode cX9_commentAt 11 = .ok (.invokestatic 52, 3) := by decide +kernel
theorem dX9_commentAt_14 : decode cX9_commentAt 14 = .ok (.ifCond .eq 16, 3) := by decide +kernel
theorem dX9_commentAt_17 : decode cX9_commentAt 17 = .ok (.aload_n 0, 1) := by decide +kernel
theorem dX9_commentAt_18 : decode cX9_commentAt 18 = .ok (.getfield 7, 3) := by decide +kernel
theorem dX9_commentAt_21 : decode cX9_commentAt 21 = .ok (.iload_n 1, 1) := by decide +kernel
theorem dX9_commentAt_22 : decode cX9_commentAt 22 = .ok (.iconst 0, 1) := by decide +kernel
theorem dX9_commentAt_23 : decode cX9_commentAt 23 = .ok (.invokestatic 48, 3) := by decide +kernel
theorem dX9_commentAt_26 : decode cX9_commentAt 26 = .ok (.iaload, 1) := by decide +kernel
theorem dX9_commentAt_27 : decode cX9_commentAt 27 = .ok (.goto 6, 3) := by decide +kernel
theorem dX9_commentAt_30 : decode cX9_commentAt 30 = .ok (.sipush (-1001), 3) := by decide +kernel
theorem dX9_commentAt_33 : decode cX9_commentAt 33 = .ok (.ireturn, 1) := by decide +kernel
theorem dX9_of_0 : decode cX9_of 0 = .ok (.aload_n 0, 1) := by decide +kernel
theorem dX9_of_1 : decode cX9_of 1 = .ok (.iload_n 1, 1) := by decide +kernel
theorem dX9_of_2 : decode cX9_of 2 = .ok (.invokevirtual 92, 3) := by decide +kernel
theorem dX9_of_5 : decode cX9_of 5 = .ok (.istore_n 3, 1) := by decide +kernel
theorem dX9_of_6 : decode cX9_of 6 = .ok (.iload_n 3, 1) := by decide +kernel
theorem dX9_of_7 : decode cX9_of 7 = .ok (.ifCond .ge 9, 3) := by decide +kernel
theorem dX9_of_10 : decode cX9_of 10 = .ok (.sipush (-1001), 3) := by decide +kernel
theorem dX9_of_13 : decode cX9_of 13 = .ok (.goto 13, 3) := by decide +kernel
theorem dX9_of_16 : decode cX9_of 16 = .ok (.aload_n 0, 1) := by decide +kernel
theorem dX9_of_17 : decode cX9_of 17 = .ok (.getfield 7, 3) := by decide +kernel
theorem dX9_of_20 : decode cX9_of 20 = .ok (.iload_n 3, 1) := by decide +kernel
theorem dX9_of_21 : decode cX9_of 21 = .ok (.iload_n 2, 1) := by decide +kernel
theorem dX9_of_22 : decode cX9_of 22 = .ok (.invokestatic 48, 3) := by decide +kernel
theorem dX9_of_25 : decode cX9_of 25 = .ok (.iaload, 1) := by decide +kernel
theorem dX9_of_26 : decode cX9_of 26 = .ok (.ireturn, 1) := by decide +kernel
theorem dX9_state_0 : decode cX9_state 0 = .ok (.aload_n 0, 1) := by decide +kernel
theorem dX9_state_1 : decode cX9_state 1 = .ok (.iload_n 1, 1) := by decide +kernel
theorem dX9_state_2 : decode cX9_state 2 = .ok (.iconst 1, 1) := by decide +kernel
theorem dX9_state_3 : decode cX9_state 3 = .ok (.invokevirtual 165, 3) := by decide +kernel
theorem dX9_state_6 : decode cX9_state 6 = .ok (.ireturn, 1) := by decide +kernel
theorem dX9_range_0 : decode cX9_range 0 = .ok (.aload_n 0, 1) := by decide +kernel
theorem dX9_range_1 : decode cX9_range 1 = .ok (.iload_n 1, 1) := by decide +kernel
theorem dX9_range_2 : decode cX9_range 2 = .ok (.iload_n 2, 1) := by decide +kernel
theorem dX9_range_3 : decode cX9_range 3 = .ok (.ifCond .eq 7, 3) := by decide +kernel
theorem dX9_range_6 : decode cX9_range 6 = .ok (.iconst 3, 1) := by decide +kernel
theorem dX9_range_7 : decode cX9_range 7 = .ok (.goto 4, 3) := by decide +kernel
theorem dX9_range_10 : decode cX9_range 10 = .ok (.iconst 2, 1) := by decide +kernel
theorem dX9_range_11 : decode cX9_range 11 = .ok (.invokevirtual 165, 3) := by decide +kernel
theorem dX9_range_14 : decode cX9_range 14 = .ok (.ireturn, 1) := by decide +kernel
theorem dX9_weight_0 : decode cX9_weight 0 = .ok (.aload_n 0, 1) := by decide +kernel
theorem dX9_weight_1 : decode cX9_weight 1 = .ok (.iload_n 1, 1) := by decide +kernel
theorem dX9_weight_2 : decode cX9_weight 2 = .ok (.iconst 4, 1) := by decide +kernel
theorem dX9_weight_3 : decode cX9_weight 3 = .ok (.invokevirtual 165, 3) := by decide +kernel
theorem dX9_weight_6 : decode cX9_weight 6 = .ok (.ireturn, 1) := by decide +kernel
theorem dX9_quoted_0 : decode cX9_quoted 0 = .ok (.aload_n 0, 1) := by decide +kernel
theorem dX9_quoted_1 : decode cX9_quoted 1 = .ok (.iload_n 1, 1) := by decide +kernel
theorem dX9_quoted_2 : decode cX9_quoted 2 = .ok (.invokevirtual 92, 3) := by decide +kernel
theorem dX9_quoted_5 : decode cX9_quoted 5 = .ok (.istore 4, 2) := by decide +kernel
theorem dX9_quoted_7 : decode cX9_quoted 7 = .ok (.iload 4, 2) := by decide +kernel
theorem dX9_quoted_9 : decode cX9_quoted 9 = .ok (.ifCond .ge 7, 3) := by decide +kernel
theorem dX9_quoted_12 : decode cX9_quoted 12 = .ok (.sipush (-1001), 3) := by decide +kernel
theorem dX9_quoted_15 : decode cX9_quoted 15 = .ok (.ireturn, 1) := by decide +kernel
theorem dX9_quoted_16 : decode cX9_quoted 16 = .ok (.iload_n 2, 1) := by decide +kernel
theorem dX9_quoted_17 : decode cX9_quoted 17 = .ok (.iconst 0, 1) := by decide +kernel
theorem dX9_quoted_18 : decode cX9_quoted 18 = .ok (.iconst 2, 1) := by decide +kernel
theorem dX9_quoted_19 : decode cX9_quoted 19 = .ok (.invokestatic 52, 3) := by decide +kernel
theorem dX9_quoted_22 : decode cX9_quoted 22 = .ok (.ifCond .ne 7, 3) := by decide +kernel
theorem dX9_quoted_25 : decode cX9_quoted 25 = .ok (.sipush (-1002), 3) := by decide +kernel
theorem dX9_quoted_28 : decode cX9_quoted 28 = .ok (.ireturn, 1) := by decide +kernel
theorem dX9_quoted_29 : decode cX9_quoted 29 = .ok (.iload_n 2, 1) := by decide +kernel
theorem dX9_quoted_30 : decode cX9_quoted 30 = .ok (.ifCond .ne 7, 3) := by decide +kernel
theorem dX9_quoted_33 : decode cX9_quoted 33 = .ok (.iconst 5, 1) := by decide +kernel
theorem dX9_quoted_34 : decode cX9_quoted 34 = .ok (.goto 15, 3) := by decide +kernel
theorem dX9_quoted_37 : decode cX9_quoted 37 = .ok (.iload_n 2, 1) := by decide +kernel
theorem dX9_quoted_38 : decode cX9_quoted 38 = .ok (.iconst 1, 1) := by decide +kernel
theorem dX9_quoted_39 : decode cX9_quoted 39 = .ok (.if_icmp .ne 8, 3) := by decide +kernel
theorem dX9_quoted_42 : decode cX9_quoted 42 = .ok (.bipush 12, 2) := by decide +kernel
theorem dX9_quoted_44 : decode cX9_quoted 44 = .ok (.goto 5, 3) := by decide +kernel
theorem dX9_quoted_47 : decode cX9_quoted 47 = .ok (.bipush 29, 2) := by decide +kernel
theorem dX9_quoted_49 : decode cX9_quoted 49 = .ok (.istore 5, 2) := by decide +kernel
theorem dX9_quoted_51 : decode cX9_quoted 51 = .ok (.iload_n 3, 1) := by decide +kernel
theorem dX9_quoted_52 : decode cX9_quoted 52 = .ok (.iconst 0, 1) := by decide +kernel
theorem dX9_quoted_53 : decode cX9_quoted 53 = .ok (.aload_n 0, 1) := by decide +kernel
theorem dX9_quoted_54 : decode cX9_quoted 54 = .ok (.getfield 7, 3) := by decide +kernel
theorem dX9_quoted_57 : decode cX9_quoted 57 = .ok (.iload 4, 2) := by decide +kernel
theorem dX9_quoted_59 : decode cX9_quoted 59 = .ok (.iload 5, 2) := by decide +kernel
theorem dX9_quoted_61 : decode cX9_quoted 61 = .ok (.invokestatic 48, 3) := by decide +kernel
theorem dX9_quoted_64 : decode cX9_quoted 64 = .ok (.iaload, 1) := by decide +kernel
theorem dX9_quoted_65 : decode cX9_quoted 65 = .ok (.iconst 1, 1) := by decide +kernel
theorem dX9_quoted_66 : decode cX9_quoted 66 = .ok (.isub, 1) := by decide +kernel
theorem dX9_quoted_67 : decode cX9_quoted 67 = .ok (.invokestatic 52, 3) := by decide +kernel
theorem dX9_quoted_70 : decode cX9_quoted 70 = .ok (.ifCond .eq 22, 3) := by decide +kernel
theorem dX9_quoted_73 : decode cX9_quoted 73 = .ok (.aload_n 0, 1) := by decide +kernel
theorem dX9_quoted_74 : decode cX9_quoted 74 = .ok (.getfield 7, 3) := by decide +kernel
theorem dX9_quoted_77 : decode cX9_quoted 77 = .ok (.iload 4, 2) := by decide +kernel
theorem dX9_quoted_79 : decode cX9_quoted 79 = .ok (.iload 5, 2) := by decide +kernel
theorem dX9_quoted_81 : decode cX9_quoted 81 = .ok (.iconst 1, 1) := by decide +kernel
theorem dX9_quoted_82 : decode cX9_quoted 82 = .ok (.iadd, 1) := by decide +kernel
theorem dX9_quoted_83 : decode cX9_quoted 83 = .ok (.iload_n 3, 1) := by decide +kernel
theorem dX9_quoted_84 : decode cX9_quoted 84 = .ok (.iadd, 1) := by decide +kernel
theorem dX9_quoted_85 : decode cX9_quoted 85 = .ok (.invokestatic 48, 3) := by decide +kernel
theorem dX9_quoted_88 : decode cX9_quoted 88 = .ok (.iaload, 1) := by decide +kernel
theorem dX9_quoted_89 : decode cX9_quoted 89 = .ok (.goto 6, 3) := by decide +kernel
theorem dX9_quoted_92 : decode cX9_quoted 92 = .ok (.sipush (-1005), 3) := by decide +kernel
theorem dX9_quoted_95 : decode cX9_quoted 95 = .ok (.ireturn, 1) := by decide +kernel
theorem dX9_distance_0 : decode cX9_distance 0 = .ok (.aload_n 0, 1) := by decide +kernel
theorem dX9_distance_1 : decode cX9_distance 1 = .ok (.iload_n 1, 1) := by decide +kernel
theorem dX9_distance_2 : decode cX9_distance 2 = .ok (.invokevirtual 92, 3) := by decide +kernel
theorem dX9_distance_5 : decode cX9_distance 5 = .ok (.istore_n 2, 1) := by decide +kernel
theorem dX9_distance_6 : decode cX9_distance 6 = .ok (.iload_n 2, 1) := by decide +kernel
theorem dX9_distance_7 : decode cX9_distance 7 = .ok (.ifCond .ge 7, 3) := by decide +kernel
theorem dX9_distance_10 : decode cX9_distance 10 = .ok (.sipush (-1001), 3) := by decide +kernel
theorem dX9_distance_13 : decode cX9_distance 13 = .ok (.ireturn, 1) := by decide +kernel
theorem dX9_distance_14 : decode cX9_distance 14 = .ok (.aload_n 0, 1) := by decide +kernel
theorem dX9_distance_15 : decode cX9_distance 15 = .ok (.getfield 7, 3) := by decide +kernel
theorem dX9_distance_18 : decode cX9_distance 18 = .ok (.iload_n 2, 1) := by decide +kernel
theorem dX9_distance_19 : decode cX9_distance 19 = .ok (.iconst 1, 1) := by decide +kernel
theorem dX9_distance_20 : decode cX9_distance 20 = .ok (.invokestatic 48, 3) := by decide +kernel
theorem dX9_distance_23 : decode cX9_distance 23 = .ok (.iaload, 1) := by decide +kernel
theorem dX9_distance_24 : decode cX9_distance 24 = .ok (.ifCond .ne 9, 3) := by decide +kernel
theorem dX9_distance_27 : decode cX9_distance 27 = .ok (.sipush (-1003), 3) := by decide +kernel
theorem dX9_distance_30 : decode cX9_distance 30 = .ok (.goto 28, 3) := by decide +kernel
theorem dX9_distance_33 : decode cX9_distance 33 = .ok (.aload_n 0, 1) := by decide +kernel
theorem dX9_distance_34 : decode cX9_distance 34 = .ok (.iload_n 2, 1) := by decide +kernel
theorem dX9_distance_35 : decode cX9_distance 35 = .ok (.aload_n 0, 1) := by decide +kernel
theorem dX9_distance_36 : decode cX9_distance 36 = .ok (.getfield 7, 3) := by decide +kernel
theorem dX9_distance_39 : decode cX9_distance 39 = .ok (.iload_n 2, 1) := by decide +kernel
theorem dX9_distance_40 : decode cX9_distance 40 = .ok (.iconst 2, 1) := by decide +kernel
theorem dX9_distance_41 : decode cX9_distance 41 = .ok (.invokestatic 48, 3) := by decide +kernel
theorem dX9_distance_44 : decode cX9_distance 44 = .ok (.iaload, 1) := by decide +kernel
theorem dX9_distance_45 : decode cX9_distance 45 = .ok (.aload_n 0, 1) := by decide +kernel
theorem dX9_distance_46 : decode cX9_distance 46 = .ok (.getfield 7, 3) := by decide +kernel
theorem dX9_distance_49 : decode cX9_distance 49 = .ok (.iload_n 2, 1) := by decide +kernel
theorem dX9_distance_50 : decode cX9_distance 50 = .ok (.iconst 3, 1) := by decide +kernel
theorem dX9_distance_51 : decode cX9_distance 51 = .ok (.invokestatic 48, 3) := by decide +kernel
theorem dX9_distance_54 : decode cX9_distance 54 = .ok (.iaload, 1) := by decide +kernel
theorem dX9_distance_55 : decode cX9_distance 55 = .ok (.invokevirtual 168, 3) := by decide +kernel
theorem dX9_distance_58 : decode cX9_distance 58 = .ok (.ireturn, 1) := by decide +kernel
theorem dX9_score_0 : decode cX9_score 0 = .ok (.aload_n 0, 1) := by decide +kernel
theorem dX9_score_1 : decode cX9_score 1 = .ok (.iload_n 1, 1) := by decide +kernel
theorem dX9_score_2 : decode cX9_score 2 = .ok (.invokevirtual 92, 3) := by decide +kernel
theorem dX9_score_5 : decode cX9_score 5 = .ok (.istore 4, 2) := by decide +kernel
theorem dX9_score_7 : decode cX9_score 7 = .ok (.iload 4, 2) := by decide +kernel
theorem dX9_score_9 : decode cX9_score 9 = .ok (.ifCond .lt 11, 3) := by decide +kernel
theorem dX9_score_12 : decode cX9_score 12 = .ok (.aload_n 0, 1) := by decide +kernel
theorem dX9_score_13 : decode cX9_score 13 = .ok (.iload_n 2, 1) := by decide +kernel
theorem dX9_score_14 : decode cX9_score 14 = .ok (.invokevirtual 76, 3) := by decide +kernel
theorem dX9_score_17 : decode cX9_score 17 = .ok (.ifCond .ne 7, 3) := by decide +kernel
theorem dX9_score_20 : decode cX9_score 20 = .ok (.sipush (-1001), 3) := by decide +kernel
theorem dX9_score_23 : decode cX9_score 23 = .ok (.ireturn, 1) := by decide +kernel
theorem dX9_score_24 : decode cX9_score 24 = .ok (.iload_n 3, 1) := by decide +kernel
theorem dX9_score_25 : decode cX9_score 25 = .ok (.iload_n 2, 1) := by decide +kernel
theorem dX9_score_26 : decode cX9_score 26 = .ok (.iconst 1, 1) := by decide +kernel
theorem dX9_score_27 : decode cX9_score 27 = .ok (.iadd, 1) := by decide +kernel
theorem dX9_score_28 : decode cX9_score 28 = .ok (.iload_n 2, 1) := by decide +kernel
theorem dX9_score_29 : decode cX9_score 29 = .ok (.bipush 30, 2) := by decide +kernel
theorem dX9_score_31 : decode cX9_score 31 = .ok (.iadd, 1) := by decide +kernel
theorem dX9_score_32 : decode cX9_score 32 = .ok (.invokestatic 52, 3) := by decide +kernel
theorem dX9_score_35 : decode cX9_score 35 = .ok (.ifCond .eq 11, 3) := by decide +kernel
theorem dX9_score_38 : decode cX9_score 38 = .ok (.aload_n 0, 1) := by decide +kernel
theorem dX9_score_39 : decode cX9_score 39 = .ok (.iload_n 3, 1) := by decide +kernel
theorem dX9_score_40 : decode cX9_score 40 = .ok (.invokevirtual 76, 3) := by decide +kernel
theorem dX9_score_43 : decode cX9_score 43 = .ok (.ifCond .ne 7, 3) := by decide +kernel
theorem dX9_score_46 : decode cX9_score 46 = .ok (.sipush (-1002), 3) := by decide +kernel
theorem dX9_score_49 : decode cX9_score 49 = .ok (.ireturn, 1) := by decide +kernel
theorem dX9_score_50 : decode cX9_score 50 = .ok (.aload_n 0, 1) := by decide +kernel
theorem dX9_score_51 : decode cX9_score 51 = .ok (.iload 4, 2) := by decide +kernel
theorem dX9_score_53 : decode cX9_score 53 = .ok (.iload_n 2, 1) := by decide +kernel
theorem dX9_score_54 : decode cX9_score 54 = .ok (.iload_n 3, 1) := by decide +kernel
theorem dX9_score_55 : decode cX9_score 55 = .ok (.aload_n 0, 1) := by decide +kernel
theorem dX9_score_56 : decode cX9_score 56 = .ok (.iload 4, 2) := by decide +kernel
theorem dX9_score_58 : decode cX9_score 58 = .ok (.iload_n 2, 1) := by decide +kernel
theorem dX9_score_59 : decode cX9_score 59 = .ok (.iload_n 3, 1) := by decide +kernel
theorem dX9_score_60 : decode cX9_score 60 = .ok (.invokevirtual 168, 3) := by decide +kernel
theorem dX9_score_63 : decode cX9_score 63 = .ok (.invokevirtual 111, 3) := by decide +kernel
theorem dX9_score_66 : decode cX9_score 66 = .ok (.ireturn, 1) := by decide +kernel
theorem dX9_best_0 : decode cX9_best 0 = .ok (.aload_n 0, 1) := by decide +kernel
theorem dX9_best_1 : decode cX9_best 1 = .ok (.iload_n 1, 1) := by decide +kernel
theorem dX9_best_2 : decode cX9_best 2 = .ok (.invokevirtual 92, 3) := by decide +kernel
theorem dX9_best_5 : decode cX9_best 5 = .ok (.istore_n 3, 1) := by decide +kernel
theorem dX9_best_6 : decode cX9_best 6 = .ok (.iload_n 3, 1) := by decide +kernel
theorem dX9_best_7 : decode cX9_best 7 = .ok (.ifCond .ge 7, 3) := by decide +kernel
theorem dX9_best_10 : decode cX9_best 10 = .ok (.sipush (-1001), 3) := by decide +kernel
theorem dX9_best_13 : decode cX9_best 13 = .ok (.ireturn, 1) := by decide +kernel
theorem dX9_best_14 : decode cX9_best 14 = .ok (.iload_n 2, 1) := by decide +kernel
theorem dX9_best_15 : decode cX9_best 15 = .ok (.iconst 0, 1) := by decide +kernel
theorem dX9_best_16 : decode cX9_best 16 = .ok (.iconst 2, 1) := by decide +kernel
theorem dX9_best_17 : decode cX9_best 17 = .ok (.invokestatic 52, 3) := by decide +kernel
theorem dX9_best_20 : decode cX9_best 20 = .ok (.ifCond .ne 7, 3) := by decide +kernel
theorem dX9_best_23 : decode cX9_best 23 = .ok (.sipush (-1002), 3) := by decide +kernel
theorem dX9_best_26 : decode cX9_best 26 = .ok (.ireturn, 1) := by decide +kernel
theorem dX9_best_27 : decode cX9_best 27 = .ok (.aload_n 0, 1) := by decide +kernel
theorem dX9_best_28 : decode cX9_best 28 = .ok (.iload_n 3, 1) := by decide +kernel
theorem dX9_best_29 : decode cX9_best 29 = .ok (.invokevirtual 134, 3) := by decide +kernel
theorem dX9_best_32 : decode cX9_best 32 = .ok (.ifCond .ne 7, 3) := by decide +kernel
theorem dX9_best_35 : decode cX9_best 35 = .ok (.sipush (-1005), 3) := by decide +kernel
theorem dX9_best_38 : decode cX9_best 38 = .ok (.ireturn, 1) := by decide +kernel
theorem dX9_best_39 : decode cX9_best 39 = .ok (.iload_n 2, 1) := by decide +kernel
theorem dX9_best_40 : decode cX9_best 40 = .ok (.ifCond .ne 10, 3) := by decide +kernel
theorem dX9_best_43 : decode cX9_best 43 = .ok (.aload_n 0, 1) := by decide +kernel
theorem dX9_best_44 : decode cX9_best 44 = .ok (.getfield 125, 3) := by decide +kernel
theorem dX9_best_47 : decode cX9_best 47 = .ok (.goto 24, 3) := by decide +kernel
theorem dX9_best_50 : decode cX9_best 50 = .ok (.iload_n 2, 1) := by decide +kernel
theorem dX9_best_51 : decode cX9_best 51 = .ok (.iconst 1, 1) := by decide +kernel
theorem dX9_best_52 : decode cX9_best 52 = .ok (.if_icmp .ne 10, 3) := by decide +kernel
theorem dX9_best_55 : decode cX9_best 55 = .ok (.aload_n 0, 1) := by decide +kernel
theorem dX9_best_56 : decode cX9_best 56 = .ok (.getfield 128, 3) := by decide +kernel
theorem dX9_best_59 : decode cX9_best 59 = .ok (.goto 12, 3) := by decide +kernel
theorem dX9_best_62 : decode cX9_best 62 = .ok (.aload_n 0, 1) := by decide +kernel
theorem dX9_best_63 : decode cX9_best 63 = .ok (.getfield 128, 3) := by decide +kernel
theorem dX9_best_66 : decode cX9_best 66 = .ok (.aload_n 0, 1) := by decide +kernel
theorem dX9_best_67 : decode cX9_best 67 = .ok (.getfield 131, 3) := by decide +kernel
theorem dX9_best_70 : decode cX9_best 70 = .ok (.iadd, 1) := by decide +kernel
theorem dX9_best_71 : decode cX9_best 71 = .ok (.ireturn, 1) := by decide +kernel
theorem dX9_overlap_0 : decode cX9_overlap 0 = .ok (.aload_n 0, 1) := by decide +kernel
theorem dX9_overlap_1 : decode cX9_overlap 1 = .ok (.iload_n 1, 1) := by decide +kernel
theorem dX9_overlap_2 : decode cX9_overlap 2 = .ok (.invokevirtual 92, 3) := by decide +kernel
theorem dX9_overlap_5 : decode cX9_overlap 5 = .ok (.istore_n 3, 1) := by decide +kernel
theorem dX9_overlap_6 : decode cX9_overlap 6 = .ok (.aload_n 0, 1) := by decide +kernel
theorem dX9_overlap_7 : decode cX9_overlap 7 = .ok (.iload_n 2, 1) := by decide +kernel
theorem dX9_overlap_8 : decode cX9_overlap 8 = .ok (.invokevirtual 92, 3) := by decide +kernel
theorem dX9_overlap_11 : decode cX9_overlap 11 = .ok (.istore 4, 2) := by decide +kernel
theorem dX9_overlap_13 : decode cX9_overlap 13 = .ok (.iload_n 3, 1) := by decide +kernel
theorem dX9_overlap_14 : decode cX9_overlap 14 = .ok (.ifCond .lt 8, 3) := by decide +kernel
theorem dX9_overlap_17 : decode cX9_overlap 17 = .ok (.iload 4, 2) := by decide +kernel
theorem dX9_overlap_19 : decode cX9_overlap 19 = .ok (.ifCond .ge 7, 3) := by decide +kernel
theorem dX9_overlap_22 : decode cX9_overlap 22 = .ok (.sipush (-1001), 3) := by decide +kernel
theorem dX9_overlap_25 : decode cX9_overlap 25 = .ok (.ireturn, 1) := by decide +kernel
theorem dX9_overlap_26 : decode cX9_overlap 26 = .ok (.aload_n 0, 1) := by decide +kernel
theorem dX9_overlap_27 : decode cX9_overlap 27 = .ok (.getfield 7, 3) := by decide +kernel
theorem dX9_overlap_30 : decode cX9_overlap 30 = .ok (.iload_n 3, 1) := by decide +kernel
theorem dX9_overlap_31 : decode cX9_overlap 31 = .ok (.iconst 2, 1) := by decide +kernel
theorem dX9_overlap_32 : decode cX9_overlap 32 = .ok (.invokestatic 48, 3) := by decide +kernel
theorem dX9_overlap_35 : decode cX9_overlap 35 = .ok (.iaload, 1) := by decide +kernel
theorem dX9_overlap_36 : decode cX9_overlap 36 = .ok (.ineg, 1) := by decide +kernel
theorem dX9_overlap_37 : decode cX9_overlap 37 = .ok (.aload_n 0, 1) := by decide +kernel
theorem dX9_overlap_38 : decode cX9_overlap 38 = .ok (.getfield 7, 3) := by decide +kernel
theorem dX9_overlap_41 : decode cX9_overlap 41 = .ok (.iload 4, 2) := by decide +kernel
theorem dX9_overlap_43 : decode cX9_overlap 43 = .ok (.iconst 2, 1) := by decide +kernel
theorem dX9_overlap_44 : decode cX9_overlap 44 = .ok (.invokestatic 48, 3) := by decide +kernel
theorem dX9_overlap_47 : decode cX9_overlap 47 = .ok (.iaload, 1) := by decide +kernel
theorem dX9_overlap_48 : decode cX9_overlap 48 = .ok (.ineg, 1) := by decide +kernel
theorem dX9_overlap_49 : decode cX9_overlap 49 = .ok (.invokestatic 69, 3) := by decide +kernel
theorem dX9_overlap_52 : decode cX9_overlap 52 = .ok (.ineg, 1) := by decide +kernel
theorem dX9_overlap_53 : decode cX9_overlap 53 = .ok (.istore 5, 2) := by decide +kernel
theorem dX9_overlap_55 : decode cX9_overlap 55 = .ok (.aload_n 0, 1) := by decide +kernel
theorem dX9_overlap_56 : decode cX9_overlap 56 = .ok (.getfield 7, 3) := by decide +kernel
theorem dX9_overlap_59 : decode cX9_overlap 59 = .ok (.iload_n 3, 1) := by decide +kernel
theorem dX9_overlap_60 : decode cX9_overlap 60 = .ok (.iconst 3, 1) := by decide +kernel
theorem dX9_overlap_61 : decode cX9_overlap 61 = .ok (.invokestatic 48, 3) := by decide +kernel
theorem dX9_overlap_64 : decode cX9_overlap 64 = .ok (.iaload, 1) := by decide +kernel
theorem dX9_overlap_65 : decode cX9_overlap 65 = .ok (.aload_n 0, 1) := by decide +kernel
theorem dX9_overlap_66 : decode cX9_overlap 66 = .ok (.getfield 7, 3) := by decide +kernel
theorem dX9_overlap_69 : decode cX9_overlap 69 = .ok (.iload 4, 2) := by decide +kernel
theorem dX9_overlap_71 : decode cX9_overlap 71 = .ok (.iconst 3, 1) := by decide +kernel
theorem dX9_overlap_72 : decode cX9_overlap 72 = .ok (.invokestatic 48, 3) := by decide +kernel
theorem dX9_overlap_75 : decode cX9_overlap 75 = .ok (.iaload, 1) := by decide +kernel
theorem dX9_overlap_76 : decode cX9_overlap 76 = .ok (.invokestatic 69, 3) := by decide +kernel
theorem dX9_overlap_79 : decode cX9_overlap 79 = .ok (.istore 6, 2) := by decide +kernel
theorem dX9_overlap_81 : decode cX9_overlap 81 = .ok (.iload 6, 2) := by decide +kernel
theorem dX9_overlap_83 : decode cX9_overlap 83 = .ok (.iload 5, 2) := by decide +kernel
theorem dX9_overlap_85 : decode cX9_overlap 85 = .ok (.if_icmp .le 11, 3) := by decide +kernel
theorem dX9_overlap_88 : decode cX9_overlap 88 = .ok (.iload 6, 2) := by decide +kernel
theorem dX9_overlap_90 : decode cX9_overlap 90 = .ok (.iload 5, 2) := by decide +kernel
theorem dX9_overlap_92 : decode cX9_overlap 92 = .ok (.isub, 1) := by decide +kernel
theorem dX9_overlap_93 : decode cX9_overlap 93 = .ok (.goto 4, 3) := by decide +kernel
theorem dX9_overlap_96 : decode cX9_overlap 96 = .ok (.iconst 0, 1) := by decide +kernel
theorem dX9_overlap_97 : decode cX9_overlap 97 = .ok (.ireturn, 1) := by decide +kernel
theorem dX9_isBefore_0 : decode cX9_isBefore 0 = .ok (.aload_n 0, 1) := by decide +kernel
theorem dX9_isBefore_1 : decode cX9_isBefore 1 = .ok (.getfield 7, 3) := by decide +kernel
theorem dX9_isBefore_4 : decode cX9_isBefore 4 = .ok (.iload_n 1, 1) := by decide +kernel
theorem dX9_isBefore_5 : decode cX9_isBefore 5 = .ok (.iconst 2, 1) := by decide +kernel
theorem dX9_isBefore_6 : decode cX9_isBefore 6 = .ok (.invokestatic 48, 3) := by decide +kernel
theorem dX9_isBefore_9 : decode cX9_isBefore 9 = .ok (.iaload, 1) := by decide +kernel
theorem dX9_isBefore_10 : decode cX9_isBefore 10 = .ok (.aload_n 0, 1) := by decide +kernel
theorem dX9_isBefore_11 : decode cX9_isBefore 11 = .ok (.getfield 7, 3) := by decide +kernel
theorem dX9_isBefore_14 : decode cX9_isBefore 14 = .ok (.iload_n 2, 1) := by decide +kernel
theorem dX9_isBefore_15 : decode cX9_isBefore 15 = .ok (.iconst 2, 1) := by decide +kernel
theorem dX9_isBefore_16 : decode cX9_isBefore 16 = .ok (.invokestatic 48, 3) := by decide +kernel
theorem dX9_isBefore_19 : decode cX9_isBefore 19 = .ok (.iaload, 1) := by decide +kernel
theorem dX9_isBefore_20 : decode cX9_isBefore 20 = .ok (.if_icmp .eq 32, 3) := by decide +kernel
theorem dX9_isBefore_23 : decode cX9_isBefore 23 = .ok (.aload_n 0, 1) := by decide +kernel
theorem dX9_isBefore_24 : decode cX9_isBefore 24 = .ok (.getfield 7, 3) := by decide +kernel
theorem dX9_isBefore_27 : decode cX9_isBefore 27 = .ok (.iload_n 1, 1) := by decide +kernel
theorem dX9_isBefore_28 : decode cX9_isBefore 28 = .ok (.iconst 2, 1) := by decide +kernel
theorem dX9_isBefore_29 : decode cX9_isBefore 29 = .ok (.invokestatic 48, 3) := by decide +kernel
theorem dX9_isBefore_32 : decode cX9_isBefore 32 = .ok (.iaload, 1) := by decide +kernel
theorem dX9_isBefore_33 : decode cX9_isBefore 33 = .ok (.aload_n 0, 1) := by decide +kernel
theorem dX9_isBefore_34 : decode cX9_isBefore 34 = .ok (.getfield 7, 3) := by decide +kernel
theorem dX9_isBefore_37 : decode cX9_isBefore 37 = .ok (.iload_n 2, 1) := by decide +kernel
theorem dX9_isBefore_38 : decode cX9_isBefore 38 = .ok (.iconst 2, 1) := by decide +kernel
theorem dX9_isBefore_39 : decode cX9_isBefore 39 = .ok (.invokestatic 48, 3) := by decide +kernel
theorem dX9_isBefore_42 : decode cX9_isBefore 42 = .ok (.iaload, 1) := by decide +kernel
theorem dX9_isBefore_43 : decode cX9_isBefore 43 = .ok (.if_icmp .ge 7, 3) := by decide +kernel
theorem dX9_isBefore_46 : decode cX9_isBefore 46 = .ok (.iconst 1, 1) := by decide +kernel
theorem dX9_isBefore_47 : decode cX9_isBefore 47 = .ok (.goto 4, 3) := by decide +kernel
theorem dX9_isBefore_50 : decode cX9_isBefore 50 = .ok (.iconst 0, 1) := by decide +kernel
theorem dX9_isBefore_51 : decode cX9_isBefore 51 = .ok (.ireturn, 1) := by decide +kernel
theorem dX9_isBefore_52 : decode cX9_isBefore 52 = .ok (.aload_n 0, 1) := by decide +kernel
theorem dX9_isBefore_53 : decode cX9_isBefore 53 = .ok (.getfield 7, 3) := by decide +kernel
theorem dX9_isBefore_56 : decode cX9_isBefore 56 = .ok (.iload_n 1, 1) := by decide +kernel
theorem dX9_isBefore_57 : decode cX9_isBefore 57 = .ok (.iconst 3, 1) := by decide +kernel
theorem dX9_isBefore_58 : decode cX9_isBefore 58 = .ok (.invokestatic 48, 3) := by decide +kernel
theorem dX9_isBefore_61 : decode cX9_isBefore 61 = .ok (.iaload, 1) := by decide +kernel
theorem dX9_isBefore_62 : decode cX9_isBefore 62 = .ok (.aload_n 0, 1) := by decide +kernel
theorem dX9_isBefore_63 : decode cX9_isBefore 63 = .ok (.getfield 7, 3) := by decide +kernel
theorem dX9_isBefore_66 : decode cX9_isBefore 66 = .ok (.iload_n 2, 1) := by decide +kernel
theorem dX9_isBefore_67 : decode cX9_isBefore 67 = .ok (.iconst 3, 1) := by decide +kernel
theorem dX9_isBefore_68 : decode cX9_isBefore 68 = .ok (.invokestatic 48, 3) := by decide +kernel
theorem dX9_isBefore_71 : decode cX9_isBefore 71 = .ok (.iaload, 1) := by decide +kernel
theorem dX9_isBefore_72 : decode cX9_isBefore 72 = .ok (.if_icmp .gt 31, 3) := by decide +kernel
theorem dX9_isBefore_75 : decode cX9_isBefore 75 = .ok (.aload_n 0, 1) := by decide +kernel
theorem dX9_isBefore_76 : decode cX9_isBefore 76 = .ok (.getfield 7, 3) := by decide +kernel
theorem dX9_isBefore_79 : decode cX9_isBefore 79 = .ok (.iload_n 1, 1) := by decide +kernel
theorem dX9_isBefore_80 : decode cX9_isBefore 80 = .ok (.iconst 3, 1) := by decide +kernel
theorem dX9_isBefore_81 : decode cX9_isBefore 81 = .ok (.invokestatic 48, 3) := by decide +kernel
theorem dX9_isBefore_84 : decode cX9_isBefore 84 = .ok (.iaload, 1) := by decide +kernel
theorem dX9_isBefore_85 : decode cX9_isBefore 85 = .ok (.aload_n 0, 1) := by decide +kernel
theorem dX9_isBefore_86 : decode cX9_isBefore 86 = .ok (.getfield 7, 3) := by decide +kernel
theorem dX9_isBefore_89 : decode cX9_isBefore 89 = .ok (.iload_n 2, 1) := by decide +kernel
theorem dX9_isBefore_90 : decode cX9_isBefore 90 = .ok (.iconst 3, 1) := by decide +kernel
theorem dX9_isBefore_91 : decode cX9_isBefore 91 = .ok (.invokestatic 48, 3) := by decide +kernel
theorem dX9_isBefore_94 : decode cX9_isBefore 94 = .ok (.iaload, 1) := by decide +kernel
theorem dX9_isBefore_95 : decode cX9_isBefore 95 = .ok (.if_icmp .ne 12, 3) := by decide +kernel
theorem dX9_isBefore_98 : decode cX9_isBefore 98 = .ok (.iload_n 1, 1) := by decide +kernel
theorem dX9_isBefore_99 : decode cX9_isBefore 99 = .ok (.iload_n 2, 1) := by decide +kernel
theorem dX9_isBefore_100 : decode cX9_isBefore 100 = .ok (.if_icmp .ge 7, 3) := by decide +kernel
theorem dX9_isBefore_103 : decode cX9_isBefore 103 = .ok (.iconst 1, 1) := by decide +kernel
theorem dX9_isBefore_104 : decode cX9_isBefore 104 = .ok (.goto 4, 3) := by decide +kernel
theorem dX9_isBefore_107 : decode cX9_isBefore 107 = .ok (.iconst 0, 1) := by decide +kernel
theorem dX9_isBefore_108 : decode cX9_isBefore 108 = .ok (.ireturn, 1) := by decide +kernel
theorem dX9_covers_0 : decode cX9_covers 0 = .ok (.aload_n 0, 1) := by decide +kernel
theorem dX9_covers_1 : decode cX9_covers 1 = .ok (.getfield 7, 3) := by decide +kernel
theorem dX9_covers_4 : decode cX9_covers 4 = .ok (.iload_n 1, 1) := by decide +kernel
theorem dX9_covers_5 : decode cX9_covers 5 = .ok (.iconst 1, 1) := by decide +kernel
theorem dX9_covers_6 : decode cX9_covers 6 = .ok (.invokestatic 48, 3) := by decide +kernel
theorem dX9_covers_9 : decode cX9_covers 9 = .ok (.iaload, 1) := by decide +kernel
theorem dX9_covers_10 : decode cX9_covers 10 = .ok (.iconst 1, 1) := by decide +kernel
theorem dX9_covers_11 : decode cX9_covers 11 = .ok (.if_icmp .ne 35, 3) := by decide +kernel
theorem dX9_covers_14 : decode cX9_covers 14 = .ok (.aload_n 0, 1) := by decide +kernel
theorem dX9_covers_15 : decode cX9_covers 15 = .ok (.getfield 7, 3) := by decide +kernel
theorem dX9_covers_18 : decode cX9_covers 18 = .ok (.iload_n 1, 1) := by decide +kernel
theorem dX9_covers_19 : decode cX9_covers 19 = .ok (.iconst 2, 1) := by decide +kernel
theorem dX9_covers_20 : decode cX9_covers 20 = .ok (.invokestatic 48, 3) := by decide +kernel
theorem dX9_covers_23 : decode cX9_covers 23 = .ok (.iaload, 1) := by decide +kernel
theorem dX9_covers_24 : decode cX9_covers 24 = .ok (.iload_n 2, 1) := by decide +kernel
theorem dX9_covers_25 : decode cX9_covers 25 = .ok (.if_icmp .gt 21, 3) := by decide +kernel
theorem dX9_covers_28 : decode cX9_covers 28 = .ok (.iload_n 2, 1) := by decide +kernel
theorem dX9_covers_29 : decode cX9_covers 29 = .ok (.aload_n 0, 1) := by decide +kernel
theorem dX9_covers_30 : decode cX9_covers 30 = .ok (.getfield 7, 3) := by decide +kernel
theorem dX9_covers_33 : decode cX9_covers 33 = .ok (.iload_n 1, 1) := by decide +kernel
theorem dX9_covers_34 : decode cX9_covers 34 = .ok (.iconst 3, 1) := by decide +kernel
theorem dX9_covers_35 : decode cX9_covers 35 = .ok (.invokestatic 48, 3) := by decide +kernel
theorem dX9_covers_38 : decode cX9_covers 38 = .ok (.iaload, 1) := by decide +kernel
theorem dX9_covers_39 : decode cX9_covers 39 = .ok (.if_icmp .ge 7, 3) := by decide +kernel
theorem dX9_covers_42 : decode cX9_covers 42 = .ok (.iconst 1, 1) := by decide +kernel
theorem dX9_covers_43 : decode cX9_covers 43 = .ok (.goto 4, 3) := by decide +kernel
theorem dX9_covers_46 : decode cX9_covers 46 = .ok (.iconst 0, 1) := by decide +kernel
theorem dX9_covers_47 : decode cX9_covers 47 = .ok (.ireturn, 1) := by decide +kernel
theorem dX9_covering_0 : decode cX9_covering 0 = .ok (.aload_n 0, 1) := by decide +kernel
theorem dX9_covering_1 : decode cX9_covering 1 = .ok (.iload_n 1, 1) := by decide +kernel
theorem dX9_covering_2 : decode cX9_covering 2 = .ok (.invokevirtual 162, 3) := by decide +kernel
theorem dX9_covering_5 : decode cX9_covering 5 = .ok (.ifCond .eq 7, 3) := by decide +kernel
theorem dX9_covering_8 : decode cX9_covering 8 = .ok (.iload_n 2, 1) := by decide +kernel
theorem dX9_covering_9 : decode cX9_covering 9 = .ok (.ifCond .ge 7, 3) := by decide +kernel
theorem dX9_covering_12 : decode cX9_covering 12 = .ok (.sipush (-1001), 3) := by decide +kernel
theorem dX9_covering_15 : decode cX9_covering 15 = .ok (.ireturn, 1) := by decide +kernel
theorem dX9_covering_16 : decode cX9_covering 16 = .ok (.iconst 0, 1) := by decide +kernel
theorem dX9_covering_17 : decode cX9_covering 17 = .ok (.istore_n 3, 1) := by decide +kernel
theorem dX9_covering_18 : decode cX9_covering 18 = .ok (.iload_n 3, 1) := by decide +kernel
theorem dX9_covering_19 : decode cX9_covering 19 = .ok (.aload_n 0, 1) := by decide +kernel
theorem dX9_covering_20 : decode cX9_covering 20 = .ok (.getfield 7, 3) := by decide +kernel
theorem dX9_covering_23 : decode cX9_covering 23 = .ok (.bipush 122, 2) := by decide +kernel
theorem dX9_covering_25 : decode cX9_covering 25 = .ok (.iaload, 1) := by decide +kernel
theorem dX9_covering_26 : decode cX9_covering 26 = .ok (.if_icmp .ge 89, 3) := by decide +kernel
theorem dX9_covering_29 : decode cX9_covering 29 = .ok (.iconst 0, 1) := by decide +kernel
theorem dX9_covering_30 : decode cX9_covering 30 = .ok (.istore 4, 2) := by decide +kernel
theorem dX9_covering_32 : decode cX9_covering 32 = .ok (.iconst 0, 1) := by decide +kernel
theorem dX9_covering_33 : decode cX9_covering 33 = .ok (.istore 5, 2) := by decide +kernel
theorem dX9_covering_35 : decode cX9_covering 35 = .ok (.iload 5, 2) := by decide +kernel
theorem dX9_covering_37 : decode cX9_covering 37 = .ok (.aload_n 0, 1) := by decide +kernel
theorem dX9_covering_38 : decode cX9_covering 38 = .ok (.getfield 7, 3) := by decide +kernel
theorem dX9_covering_41 : decode cX9_covering 41 = .ok (.bipush 122, 2) := by decide +kernel
theorem dX9_covering_43 : decode cX9_covering 43 = .ok (.iaload, 1) := by decide +kernel
theorem dX9_covering_44 : decode cX9_covering 44 = .ok (.if_icmp .ge 39, 3) := by decide +kernel
theorem dX9_covering_47 : decode cX9_covering 47 = .ok (.iload 4, 2) := by decide +kernel
theorem dX9_covering_49 : decode cX9_covering 49 = .ok (.aload_n 0, 1) := by decide +kernel
theorem dX9_covering_50 : decode cX9_covering 50 = .ok (.iload 5, 2) := by decide +kernel
theorem dX9_covering_52 : decode cX9_covering 52 = .ok (.iload_n 1, 1) := by decide +kernel
theorem dX9_covering_53 : decode cX9_covering 53 = .ok (.invokevirtual 171, 3) := by decide +kernel
theorem dX9_covering_56 : decode cX9_covering 56 = .ok (.ifCond .eq 17, 3) := by decide +kernel
theorem dX9_covering_59 : decode cX9_covering 59 = .ok (.aload_n 0, 1) := by decide +kernel
theorem dX9_covering_60 : decode cX9_covering 60 = .ok (.iload 5, 2) := by decide +kernel
theorem dX9_covering_62 : decode cX9_covering 62 = .ok (.iload_n 3, 1) := by decide +kernel
theorem dX9_covering_63 : decode cX9_covering 63 = .ok (.invokevirtual 174, 3) := by decide +kernel
theorem dX9_covering_66 : decode cX9_covering 66 = .ok (.ifCond .eq 7, 3) := by decide +kernel
theorem dX9_covering_69 : decode cX9_covering 69 = .ok (.iconst 1, 1) := by decide +kernel
theorem dX9_covering_70 : decode cX9_covering 70 = .ok (.goto 4, 3) := by decide +kernel
theorem dX9_covering_73 : decode cX9_covering 73 = .ok (.iconst 0, 1) := by decide +kernel
theorem dX9_covering_74 : decode cX9_covering 74 = .ok (.iadd, 1) := by decide +kernel
theorem dX9_covering_75 : decode cX9_covering 75 = .ok (.istore 4, 2) := by decide +kernel
theorem dX9_covering_77 : decode cX9_covering 77 = .ok (.iinc 5 1, 3) := by decide +kernel
theorem dX9_covering_80 : decode cX9_covering 80 = .ok (.goto (-45), 3) := by decide +kernel
theorem dX9_covering_83 : decode cX9_covering 83 = .ok (.aload_n 0, 1) := by decide +kernel
theorem dX9_covering_84 : decode cX9_covering 84 = .ok (.iload_n 3, 1) := by decide +kernel
theorem dX9_covering_85 : decode cX9_covering 85 = .ok (.iload_n 1, 1) := by decide +kernel
theorem dX9_covering_86 : decode cX9_covering 86 = .ok (.invokevirtual 171, 3) := by decide +kernel
theorem dX9_covering_89 : decode cX9_covering 89 = .ok (.ifCond .eq 20, 3) := by decide +kernel
theorem dX9_covering_92 : decode cX9_covering 92 = .ok (.iload 4, 2) := by decide +kernel
theorem dX9_covering_94 : decode cX9_covering 94 = .ok (.iload_n 2, 1) := by decide +kernel
theorem dX9_covering_95 : decode cX9_covering 95 = .ok (.if_icmp .ne 14, 3) := by decide +kernel
theorem dX9_covering_98 : decode cX9_covering 98 = .ok (.aload_n 0, 1) := by decide +kernel
theorem dX9_covering_99 : decode cX9_covering 99 = .ok (.getfield 7, 3) := by decide +kernel
theorem dX9_covering_102 : decode cX9_covering 102 = .ok (.iload_n 3, 1) := by decide +kernel
theorem dX9_covering_103 : decode cX9_covering 103 = .ok (.iconst 0, 1) := by decide +kernel
theorem dX9_covering_104 : decode cX9_covering 104 = .ok (.invokestatic 48, 3) := by decide +kernel
theorem dX9_covering_107 : decode cX9_covering 107 = .ok (.iaload, 1) := by decide +kernel
theorem dX9_covering_108 : decode cX9_covering 108 = .ok (.ireturn, 1) := by decide +kernel
theorem dX9_covering_109 : decode cX9_covering 109 = .ok (.iinc 3 1, 3) := by decide +kernel
theorem dX9_covering_112 : decode cX9_covering 112 = .ok (.goto (-94), 3) := by decide +kernel
theorem dX9_covering_115 : decode cX9_covering 115 = .ok (.sipush (-1005), 3) := by decide +kernel
theorem dX9_covering_118 : decode cX9_covering 118 = .ok (.ireturn, 1) := by decide +kernel
theorem dX9_setThreshold_0 : decode cX9_setThreshold 0 = .ok (.iload_n 1, 1) := by decide +kernel
theorem dX9_setThreshold_1 : decode cX9_setThreshold 1 = .ok (.iconst 0, 1) := by decide +kernel
theorem dX9_setThreshold_2 : decode cX9_setThreshold 2 = .ok (.bipush 108, 2) := by decide +kernel
theorem dX9_setThreshold_4 : decode cX9_setThreshold 4 = .ok (.invokestatic 52, 3) := by decide +kernel
theorem dX9_setThreshold_7 : decode cX9_setThreshold 7 = .ok (.ifCond .ne 7, 3) := by decide +kernel
theorem dX9_setThreshold_10 : decode cX9_setThreshold 10 = .ok (.sipush (-1002), 3) := by decide +kernel
theorem dX9_setThreshold_13 : decode cX9_setThreshold 13 = .ok (.ireturn, 1) := by decide +kernel
theorem dX9_setThreshold_14 : decode cX9_setThreshold 14 = .ok (.aload_n 0, 1) := by decide +kernel
theorem dX9_setThreshold_15 : decode cX9_setThreshold 15 = .ok (.getfield 26, 3) := by decide +kernel
theorem dX9_setThreshold_18 : decode cX9_setThreshold 18 = .ok (.istore_n 2, 1) := by decide +kernel
theorem dX9_setThreshold_19 : decode cX9_setThreshold 19 = .ok (.aload_n 0, 1) := by decide +kernel
theorem dX9_setThreshold_20 : decode cX9_setThreshold 20 = .ok (.iload_n 1, 1) := by decide +kernel
theorem dX9_setThreshold_21 : decode cX9_setThreshold 21 = .ok (.putfield 26, 3) := by decide +kernel
theorem dX9_setThreshold_24 : decode cX9_setThreshold 24 = .ok (.iload_n 2, 1) := by decide +kernel
theorem dX9_setThreshold_25 : decode cX9_setThreshold 25 = .ok (.ireturn, 1) := by decide +kernel
theorem dX9_save_0 : decode cX9_save 0 = .ok (.iload_n 1, 1) := by decide +kernel
theorem dX9_save_1 : decode cX9_save 1 = .ok (.iconst 0, 1) := by decide +kernel
theorem dX9_save_2 : decode cX9_save 2 = .ok (.iconst 1, 1) := by decide +kernel
theorem dX9_save_3 : decode cX9_save 3 = .ok (.invokestatic 52, 3) := by decide +kernel
theorem dX9_save_6 : decode cX9_save 6 = .ok (.ifCond .ne 7, 3) := by decide +kernel
theorem dX9_save_9 : decode cX9_save 9 = .ok (.sipush (-1001), 3) := by decide +kernel
theorem dX9_save_12 : decode cX9_save 12 = .ok (.ireturn, 1) := by decide +kernel
theorem dX9_save_13 : decode cX9_save 13 = .ok (.aload_n 0, 1) := by decide +kernel
theorem dX9_save_14 : decode cX9_save 14 = .ok (.getfield 7, 3) := by decide +kernel
theorem dX9_save_17 : decode cX9_save 17 = .ok (.iconst 0, 1) := by decide +kernel
theorem dX9_save_18 : decode cX9_save 18 = .ok (.aload_n 0, 1) := by decide +kernel
theorem dX9_save_19 : decode cX9_save 19 = .ok (.getfield 19, 3) := by decide +kernel
theorem dX9_save_22 : decode cX9_save 22 = .ok (.sipush 484, 3) := by decide +kernel
theorem dX9_save_25 : decode cX9_save 25 = .ok (.iload_n 1, 1) := by decide +kernel
theorem dX9_save_26 : decode cX9_save 26 = .ok (.imul, 1) := by decide +kernel
theorem dX9_save_27 : decode cX9_save 27 = .ok (.invokestatic 56, 3) := by decide +kernel
theorem dX9_save_30 : decode cX9_save 30 = .ok (.aload_n 0, 1) := by decide +kernel
theorem dX9_save_31 : decode cX9_save 31 = .ok (.getfield 19, 3) := by decide +kernel
theorem dX9_save_34 : decode cX9_save 34 = .ok (.sipush 484, 3) := by decide +kernel
theorem dX9_save_37 : decode cX9_save 37 = .ok (.iload_n 1, 1) := by decide +kernel
theorem dX9_save_38 : decode cX9_save 38 = .ok (.imul, 1) := by decide +kernel
theorem dX9_save_39 : decode cX9_save 39 = .ok (.sipush 483, 3) := by decide +kernel
theorem dX9_save_42 : decode cX9_save 42 = .ok (.iadd, 1) := by decide +kernel
theorem dX9_save_43 : decode cX9_save 43 = .ok (.aload_n 0, 1) := by decide +kernel
theorem dX9_save_44 : decode cX9_save 44 = .ok (.getfield 26, 3) := by decide +kernel
theorem dX9_save_47 : decode cX9_save 47 = .ok (.iastore, 1) := by decide +kernel
theorem dX9_save_48 : decode cX9_save 48 = .ok (.aload_n 0, 1) := by decide +kernel
theorem dX9_save_49 : decode cX9_save 49 = .ok (.getfield 22, 3) := by decide +kernel
theorem dX9_save_52 : decode cX9_save 52 = .ok (.iload_n 1, 1) := by decide +kernel
theorem dX9_save_53 : decode cX9_save 53 = .ok (.iconst 1, 1) := by decide +kernel
theorem dX9_save_54 : decode cX9_save 54 = .ok (.bastore, 1) := by decide +kernel
theorem dX9_save_55 : decode cX9_save 55 = .ok (.aload_n 0, 1) := by decide +kernel
theorem dX9_save_56 : decode cX9_save 56 = .ok (.getfield 7, 3) := by decide +kernel
theorem dX9_save_59 : decode cX9_save 59 = .ok (.bipush 122, 2) := by decide +kernel
theorem dX9_save_61 : decode cX9_save 61 = .ok (.iaload, 1) := by decide +kernel
theorem dX9_save_62 : decode cX9_save 62 = .ok (.ireturn, 1) := by decide +kernel
theorem dX9_restore_0 : decode cX9_restore 0 = .ok (.iload_n 1, 1) := by decide +kernel
theorem dX9_restore_1 : decode cX9_restore 1 = .ok (.iconst 0, 1) := by decide +kernel
theorem dX9_restore_2 : decode cX9_restore 2 = .ok (.iconst 1, 1) := by decide +kernel
theorem dX9_restore_3 : decode cX9_restore 3 = .ok (.invokestatic 52, 3) := by decide +kernel
theorem dX9_restore_6 : decode cX9_restore 6 = .ok (.ifCond .ne 7, 3) := by decide +kernel
theorem dX9_restore_9 : decode cX9_restore 9 = .ok (.sipush (-1001), 3) := by decide +kernel
theorem dX9_restore_12 : decode cX9_restore 12 = .ok (.ireturn, 1) := by decide +kernel
theorem dX9_restore_13 : decode cX9_restore 13 = .ok (.aload_n 0, 1) := by decide +kernel
theorem dX9_restore_14 : decode cX9_restore 14 = .ok (.getfield 22, 3) := by decide +kernel
theorem dX9_restore_17 : decode cX9_restore 17 = .ok (.iload_n 1, 1) := by decide +kernel
theorem dX9_restore_18 : decode cX9_restore 18 = .ok (.baload, 1) := by decide +kernel
theorem dX9_restore_19 : decode cX9_restore 19 = .ok (.ifCond .ne 7, 3) := by decide +kernel
theorem dX9_restore_22 : decode cX9_restore 22 = .ok (.sipush (-1003), 3) := by decide +kernel
theorem dX9_restore_25 : decode cX9_restore 25 = .ok (.ireturn, 1) := by decide +kernel
theorem dX9_restore_26 : decode cX9_restore 26 = .ok (.aload_n 0, 1) := by decide +kernel
theorem dX9_restore_27 : decode cX9_restore 27 = .ok (.getfield 19, 3) := by decide +kernel
theorem dX9_restore_30 : decode cX9_restore 30 = .ok (.sipush 484, 3) := by decide +kernel
theorem dX9_restore_33 : decode cX9_restore 33 = .ok (.iload_n 1, 1) := by decide +kernel
theorem dX9_restore_34 : decode cX9_restore 34 = .ok (.imul, 1) := by decide +kernel
theorem dX9_restore_35 : decode cX9_restore 35 = .ok (.aload_n 0, 1) := by decide +kernel
theorem dX9_restore_36 : decode cX9_restore 36 = .ok (.getfield 7, 3) := by decide +kernel
theorem dX9_restore_39 : decode cX9_restore 39 = .ok (.iconst 0, 1) := by decide +kernel
theorem dX9_restore_40 : decode cX9_restore 40 = .ok (.invokestatic 56, 3) := by decide +kernel
theorem dX9_restore_43 : decode cX9_restore 43 = .ok (.aload_n 0, 1) := by decide +kernel
theorem dX9_restore_44 : decode cX9_restore 44 = .ok (.aload_n 0, 1) := by decide +kernel
theorem dX9_restore_45 : decode cX9_restore 45 = .ok (.getfield 19, 3) := by decide +kernel
theorem dX9_restore_48 : decode cX9_restore 48 = .ok (.sipush 484, 3) := by decide +kernel
theorem dX9_restore_51 : decode cX9_restore 51 = .ok (.iload_n 1, 1) := by decide +kernel
theorem dX9_restore_52 : decode cX9_restore 52 = .ok (.imul, 1) := by decide +kernel
theorem dX9_restore_53 : decode cX9_restore 53 = .ok (.sipush 483, 3) := by decide +kernel
theorem dX9_restore_56 : decode cX9_restore 56 = .ok (.iadd, 1) := by decide +kernel
theorem dX9_restore_57 : decode cX9_restore 57 = .ok (.iaload, 1) := by decide +kernel
theorem dX9_restore_58 : decode cX9_restore 58 = .ok (.putfield 26, 3) := by decide +kernel
theorem dX9_restore_61 : decode cX9_restore 61 = .ok (.aload_n 0, 1) := by decide +kernel
theorem dX9_restore_62 : decode cX9_restore 62 = .ok (.iconst 0, 1) := by decide +kernel
theorem dX9_restore_63 : decode cX9_restore 63 = .ok (.putfield 60, 3) := by decide +kernel
theorem dX9_restore_66 : decode cX9_restore 66 = .ok (.aload_n 0, 1) := by decide +kernel
theorem dX9_restore_67 : decode cX9_restore 67 = .ok (.getfield 7, 3) := by decide +kernel
theorem dX9_restore_70 : decode cX9_restore 70 = .ok (.bipush 122, 2) := by decide +kernel
theorem dX9_restore_72 : decode cX9_restore 72 = .ok (.iaload, 1) := by decide +kernel
theorem dX9_restore_73 : decode cX9_restore 73 = .ok (.ireturn, 1) := by decide +kernel
theorem dX9_more_0 : decode cX9_more 0 = .ok (.ldc2_w 177, 3) := by decide +kernel
theorem dX9_more_3 : decode cX9_more 3 = .ok (.lload_n 0, 1) := by decide +kernel
theorem dX9_more_4 : decode cX9_more 4 = .ok (.lmul, 1) := by decide +kernel
theorem dX9_more_5 : decode cX9_more 5 = .ok (.iload_n 2, 1) := by decide +kernel
theorem dX9_more_6 : decode cX9_more 6 = .ok (.i2l, 1) := by decide +kernel
theorem dX9_more_7 : decode cX9_more 7 = .ok (.ladd, 1) := by decide +kernel
theorem dX9_more_8 : decode cX9_more 8 = .ok (.lreturn, 1) := by decide +kernel
theorem dX9_moreOfPart_0 : decode cX9_moreOfPart 0 = .ok (.lload_n 1, 1) := by decide +kernel
theorem dX9_moreOfPart_1 : decode cX9_moreOfPart 1 = .ok (.lstore 5, 2) := by decide +kernel
theorem dX9_moreOfPart_3 : decode cX9_moreOfPart 3 = .ok (.iconst 1, 1) := by decide +kernel
theorem dX9_moreOfPart_4 : decode cX9_moreOfPart 4 = .ok (.istore 7, 2) := by decide +kernel
theorem dX9_moreOfPart_6 : decode cX9_moreOfPart 6 = .ok (.iload 7, 2) := by decide +kernel
theorem dX9_moreOfPart_8 : decode cX9_moreOfPart 8 = .ok (.aload_n 0, 1) := by decide +kernel
theorem dX9_moreOfPart_9 : decode cX9_moreOfPart 9 = .ok (.getfield 7, 3) := by decide +kernel
theorem dX9_moreOfPart_12 : decode cX9_moreOfPart 12 = .ok (.iload_n 3, 1) := by decide +kernel
theorem dX9_moreOfPart_13 : decode cX9_moreOfPart 13 = .ok (.iload 4, 2) := by decide +kernel
theorem dX9_moreOfPart_15 : decode cX9_moreOfPart 15 = .ok (.invokestatic 48, 3) := by decide +kernel
theorem dX9_moreOfPart_18 : decode cX9_moreOfPart 18 = .ok (.iaload, 1) := by decide +kernel
theorem dX9_moreOfPart_19 : decode cX9_moreOfPart 19 = .ok (.if_icmp .gt 30, 3) := by decide +kernel
theorem dX9_moreOfPart_22 : decode cX9_moreOfPart 22 = .ok (.lload 5, 2) := by decide +kernel
theorem dX9_moreOfPart_24 : decode cX9_moreOfPart 24 = .ok (.aload_n 0, 1) := by decide +kernel
theorem dX9_moreOfPart_25 : decode cX9_moreOfPart 25 = .ok (.getfield 7, 3) := by decide +kernel
theorem dX9_moreOfPart_28 : decode cX9_moreOfPart 28 = .ok (.iload_n 3, 1) := by decide +kernel
theorem dX9_moreOfPart_29 : decode cX9_moreOfPart 29 = .ok (.iload 4, 2) := by decide +kernel
theorem dX9_moreOfPart_31 : decode cX9_moreOfPart 31 = .ok (.iload 7, 2) := by decide +kernel
theorem dX9_moreOfPart_33 : decode cX9_moreOfPart 33 = .ok (.iadd, 1) := by decide +kernel
theorem dX9_moreOfPart_34 : decode cX9_moreOfPart 34 = .ok (.invokestatic 48, 3) := by decide +kernel
theorem dX9_moreOfPart_37 : decode cX9_moreOfPart 37 = .ok (.iaload, 1) := by decide +kernel
theorem dX9_moreOfPart_38 : decode cX9_moreOfPart 38 = .ok (.invokestatic 179, 3) := by decide +kernel
theorem dX9_moreOfPart_41 : decode cX9_moreOfPart 41 = .ok (.lstore 5, 2) := by decide +kernel
theorem dX9_moreOfPart_43 : decode cX9_moreOfPart 43 = .ok (.iinc 7 1, 3) := by decide +kernel
theorem dX9_moreOfPart_46 : decode cX9_moreOfPart 46 = .ok (.goto (-40), 3) := by decide +kernel
theorem dX9_moreOfPart_49 : decode cX9_moreOfPart 49 = .ok (.lload 5, 2) := by decide +kernel
theorem dX9_moreOfPart_51 : decode cX9_moreOfPart 51 = .ok (.lreturn, 1) := by decide +kernel
theorem dX9_checksum_0 : decode cX9_checksum 0 = .ok (.ldc2_w 183, 3) := by decide +kernel
theorem dX9_checksum_3 : decode cX9_checksum 3 = .ok (.aload_n 0, 1) := by decide +kernel
theorem dX9_checksum_4 : decode cX9_checksum 4 = .ok (.getfield 7, 3) := by decide +kernel
theorem dX9_checksum_7 : decode cX9_checksum 7 = .ok (.iconst 0, 1) := by decide +kernel
theorem dX9_checksum_8 : decode cX9_checksum 8 = .ok (.iaload, 1) := by decide +kernel
theorem dX9_checksum_9 : decode cX9_checksum 9 = .ok (.invokestatic 179, 3) := by decide +kernel
theorem dX9_checksum_12 : decode cX9_checksum 12 = .ok (.lstore_n 1, 1) := by decide +kernel
theorem dX9_checksum_13 : decode cX9_checksum 13 = .ok (.iconst 0, 1) := by decide +kernel
theorem dX9_checksum_14 : decode cX9_checksum 14 = .ok (.istore_n 3, 1) := by decide +kernel
theorem dX9_checksum_15 : decode cX9_checksum 15 = .ok (.iload_n 3, 1) := by decide +kernel
theorem dX9_checksum_16 : decode cX9_checksum 16 = .ok (.aload_n 0, 1) := by decide +kernel
theorem dX9_checksum_17 : decode cX9_checksum 17 = .ok (.getfield 7, 3) := by decide +kernel
theorem dX9_checksum_20 : decode cX9_checksum 20 = .ok (.iconst 0, 1) := by decide +kernel
theorem dX9_checksum_21 : decode cX9_checksum 21 = .ok (.iaload, 1) := by decide +kernel
theorem dX9_checksum_22 : decode cX9_checksum 22 = .ok (.if_icmp .ge 22, 3) := by decide +kernel
theorem dX9_checksum_25 : decode cX9_checksum 25 = .ok (.lload_n 1, 1) := by decide +kernel
theorem dX9_checksum_26 : decode cX9_checksum 26 = .ok (.aload_n 0, 1) := by decide +kernel
theorem dX9_checksum_27 : decode cX9_checksum 27 = .ok (.getfield 7, 3) := by decide +kernel
theorem dX9_checksum_30 : decode cX9_checksum 30 = .ok (.iconst 1, 1) := by decide +kernel
theorem dX9_checksum_31 : decode cX9_checksum 31 = .ok (.iload_n 3, 1) := by decide +kernel
theorem dX9_checksum_32 : decode cX9_checksum 32 = .ok (.iadd, 1) := by decide +kernel
theorem dX9_checksum_33 : decode cX9_checksum 33 = .ok (.iaload, 1) := by decide +kernel
theorem dX9_checksum_34 : decode cX9_checksum 34 = .ok (.invokestatic 179, 3) := by decide +kernel
theorem dX9_checksum_37 : decode cX9_checksum 37 = .ok (.lstore_n 1, 1) := by decide +kernel
theorem dX9_checksum_38 : decode cX9_checksum 38 = .ok (.iinc 3 1, 3) := by decide +kernel
theorem dX9_checksum_41 : decode cX9_checksum 41 = .ok (.goto (-26), 3) := by decide +kernel
theorem dX9_checksum_44 : decode cX9_checksum 44 = .ok (.lload_n 1, 1) := by decide +kernel
theorem dX9_checksum_45 : decode cX9_checksum 45 = .ok (.aload_n 0, 1) := by decide +kernel
theorem dX9_checksum_46 : decode cX9_checksum 46 = .ok (.getfield 7, 3) := by decide +kernel
theorem dX9_checksum_49 : decode cX9_checksum 49 = .ok (.bipush 122, 2) := by decide +kernel
theorem dX9_checksum_51 : decode cX9_checksum 51 = .ok (.iaload, 1) := by decide +kernel
theorem dX9_checksum_52 : decode cX9_checksum 52 = .ok (.invokestatic 179, 3) := by decide +kernel
theorem dX9_checksum_55 : decode cX9_checksum 55 = .ok (.lstore_n 1, 1) := by decide +kernel
theorem dX9_checksum_56 : decode cX9_checksum 56 = .ok (.iconst 0, 1) := by decide +kernel
theorem dX9_checksum_57 : decode cX9_checksum 57 = .ok (.istore_n 3, 1) := by decide +kernel
theorem dX9_checksum_58 : decode cX9_checksum 58 = .ok (.iload_n 3, 1) := by decide +kernel
theorem dX9_checksum_59 : decode cX9_checksum 59 = .ok (.aload_n 0, 1) := by decide +kernel
theorem dX9_checksum_60 : decode cX9_checksum 60 = .ok (.getfield 7, 3) := by decide +kernel
theorem dX9_checksum_63 : decode cX9_checksum 63 = .ok (.bipush 122, 2) := by decide +kernel
theorem dX9_checksum_65 : decode cX9_checksum 65 = .ok (.iaload, 1) := by decide +kernel
theorem dX9_checksum_66 : decode cX9_checksum 66 = .ok (.if_icmp .ge 130, 3) := by decide +kernel
theorem dX9_checksum_69 : decode cX9_checksum 69 = .ok (.iconst 0, 1) := by decide +kernel
theorem dX9_checksum_70 : decode cX9_checksum 70 = .ok (.istore 4, 2) := by decide +kernel
theorem dX9_checksum_72 : decode cX9_checksum 72 = .ok (.iload 4, 2) := by decide +kernel
theorem dX9_checksum_74 : decode cX9_checksum 74 = .ok (.iconst 4, 1) := by decide +kernel
theorem dX9_checksum_75 : decode cX9_checksum 75 = .ok (.if_icmp .gt 25, 3) := by decide +kernel
theorem dX9_checksum_78 : decode cX9_checksum 78 = .ok (.lload_n 1, 1) := by decide +kernel
theorem dX9_checksum_79 : decode cX9_checksum 79 = .ok (.aload_n 0, 1) := by decide +kernel
theorem dX9_checksum_80 : decode cX9_checksum 80 = .ok (.getfield 7, 3) := by decide +kernel
theorem dX9_checksum_83 : decode cX9_checksum 83 = .ok (.iload_n 3, 1) := by decide +kernel
theorem dX9_checksum_84 : decode cX9_checksum 84 = .ok (.iload 4, 2) := by decide +kernel
theorem dX9_checksum_86 : decode cX9_checksum 86 = .ok (.invokestatic 48, 3) := by decide +kernel
theorem dX9_checksum_89 : decode cX9_checksum 89 = .ok (.iaload, 1) := by decide +kernel
theorem dX9_checksum_90 : decode cX9_checksum 90 = .ok (.invokestatic 179, 3) := by decide +kernel
theorem dX9_checksum_93 : decode cX9_checksum 93 = .ok (.lstore_n 1, 1) := by decide +kernel
theorem dX9_checksum_94 : decode cX9_checksum 94 = .ok (.iinc 4 1, 3) := by decide +kernel
theorem dX9_checksum_97 : decode cX9_checksum 97 = .ok (.goto (-25), 3) := by decide +kernel
theorem dX9_checksum_100 : decode cX9_checksum 100 = .ok (.aload_n 0, 1) := by decide +kernel
theorem dX9_checksum_101 : decode cX9_checksum 101 = .ok (.aload_n 0, 1) := by decide +kernel
theorem dX9_checksum_102 : decode cX9_checksum 102 = .ok (.aload_n 0, 1) := by decide +kernel
theorem dX9_checksum_103 : decode cX9_checksum 103 = .ok (.lload_n 1, 1) := by decide +kernel
theorem dX9_checksum_104 : decode cX9_checksum 104 = .ok (.iload_n 3, 1) := by decide +kernel
theorem dX9_checksum_105 : decode cX9_checksum 105 = .ok (.iconst 5, 1) := by decide +kernel
theorem dX9_checksum_106 : decode cX9_checksum 106 = .ok (.invokevirtual 185, 3) := by decide +kernel
theorem dX9_checksum_109 : decode cX9_checksum 109 = .ok (.iload_n 3, 1) := by decide +kernel
theorem dX9_checksum_110 : decode cX9_checksum 110 = .ok (.bipush 12, 2) := by decide +kernel
theorem dX9_checksum_112 : decode cX9_checksum 112 = .ok (.invokevirtual 185, 3) := by decide +kernel
theorem dX9_checksum_115 : decode cX9_checksum 115 = .ok (.iload_n 3, 1) := by decide +kernel
theorem dX9_checksum_116 : decode cX9_checksum 116 = .ok (.bipush 29, 2) := by decide +kernel
theorem dX9_checksum_118 : decode cX9_checksum 118 = .ok (.invokevirtual 185, 3) := by decide +kernel
theorem dX9_checksum_121 : decode cX9_checksum 121 = .ok (.lstore_n 1, 1) := by decide +kernel
theorem dX9_checksum_122 : decode cX9_checksum 122 = .ok (.aload_n 0, 1) := by decide +kernel
theorem dX9_checksum_123 : decode cX9_checksum 123 = .ok (.iload_n 3, 1) := by decide +kernel
theorem dX9_checksum_124 : decode cX9_checksum 124 = .ok (.invokevirtual 134, 3) := by decide +kernel
theorem dX9_checksum_127 : decode cX9_checksum 127 = .ok (.istore 4, 2) := by decide +kernel
theorem dX9_checksum_129 : decode cX9_checksum 129 = .ok (.lload_n 1, 1) := by decide +kernel
theorem dX9_checksum_130 : decode cX9_checksum 130 = .ok (.iload 4, 2) := by decide +kernel
theorem dX9_checksum_132 : decode cX9_checksum 132 = .ok (.ifCond .eq 10, 3) := by decide +kernel
theorem dX9_checksum_135 : decode cX9_checksum 135 = .ok (.aload_n 0, 1) := by decide +kernel
theorem dX9_checksum_136 : decode cX9_checksum 136 = .ok (.getfield 125, 3) := by decide +kernel
theorem dX9_checksum_139 : decode cX9_checksum 139 = .ok (.goto 6, 3) := by decide +kernel
theorem dX9_checksum_142 : decode cX9_checksum 142 = .ok (.sipush (-1005), 3) := by decide +kernel
theorem dX9_checksum_145 : decode cX9_checksum 145 = .ok (.invokestatic 179, 3) := by decide +kernel
theorem dX9_checksum_148 : decode cX9_checksum 148 = .ok (.iload 4, 2) := by decide +kernel
theorem dX9_checksum_150 : decode cX9_checksum 150 = .ok (.ifCond .eq 10, 3) := by decide +kernel
theorem dX9_checksum_153 : decode cX9_checksum 153 = .ok (.aload_n 0, 1) := by decide +kernel
theorem dX9_checksum_154 : decode cX9_checksum 154 = .ok (.getfield 128, 3) := by decide +kernel
theorem dX9_checksum_157 : decode cX9_checksum 157 = .ok (.goto 6, 3) := by decide +kernel
theorem dX9_checksum_160 : decode cX9_checksum 160 = .ok (.sipush (-1005), 3) := by decide +kernel
theorem dX9_checksum_163 : decode cX9_checksum 163 = .ok (.invokestatic 179, 3) := by decide +kernel
theorem dX9_checksum_166 : decode cX9_checksum 166 = .ok (.iload 4, 2) := by decide +kernel
theorem dX9_checksum_168 : decode cX9_checksum 168 = .ok (.ifCond .eq 15, 3) := by decide +kernel
theorem dX9_checksum_171 : decode cX9_checksum 171 = .ok (.aload_n 0, 1) := by decide +kernel
theorem dX9_checksum_172 : decode cX9_checksum 172 = .ok (.getfield 128, 3) := by decide +kernel
theorem dX9_checksum_175 : decode cX9_checksum 175 = .ok (.aload_n 0, 1) := by decide +kernel
theorem dX9_checksum_176 : decode cX9_checksum 176 = .ok (.getfield 131, 3) := by decide +kernel
theorem dX9_checksum_179 : decode cX9_checksum 179 = .ok (.iadd, 1) := by decide +kernel
theorem dX9_checksum_180 : decode cX9_checksum 180 = .ok (.goto 6, 3) := by decide +kernel
theorem dX9_checksum_183 : decode cX9_checksum 183 = .ok (.sipush (-1005), 3) := by decide +kernel
theorem dX9_checksum_186 : decode cX9_checksum 186 = .ok (.invokestatic 179, 3) := by decide +kernel
theorem dX9_checksum_189 : decode cX9_checksum 189 = .ok (.lstore_n 1, 1) := by decide +kernel
theorem dX9_checksum_190 : decode cX9_checksum 190 = .ok (.iinc 3 1, 3) := by decide +kernel
theorem dX9_checksum_193 : decode cX9_checksum 193 = .ok (.goto (-135), 3) := by decide +kernel
theorem dX9_checksum_196 : decode cX9_checksum 196 = .ok (.lload_n 1, 1) := by decide +kernel
theorem dX9_checksum_197 : decode cX9_checksum 197 = .ok (.lreturn, 1) := by decide +kernel
theorem dJ9_abs_0f7a4_0 : decode cJ9_abs_0f7a4 0 = .ok (.iload_n 0, 1) := by decide +kernel
theorem dJ9_abs_0f7a4_1 : decode cJ9_abs_0f7a4 1 = .ok (.ifCond .ge 8, 3) := by decide +kernel
theorem dJ9_abs_0f7a4_4 : decode cJ9_abs_0f7a4 4 = .ok (.iload_n 0, 1) := by decide +kernel
theorem dJ9_abs_0f7a4_5 : decode cJ9_abs_0f7a4 5 = .ok (.ineg, 1) := by decide +kernel
theorem dJ9_abs_0f7a4_6 : decode cJ9_abs_0f7a4 6 = .ok (.goto 4, 3) := by decide +kernel
theorem dJ9_abs_0f7a4_9 : decode cJ9_abs_0f7a4 9 = .ok (.iload_n 0, 1) := by decide +kernel
theorem dJ9_abs_0f7a4_10 : decode cJ9_abs_0f7a4 10 = .ok (.ireturn, 1) := by decide +kernel
theorem dJ9_max_7cf53_0 : decode cJ9_max_7cf53 0 = .ok (.iload_n 0, 1) := by decide +kernel
theorem dJ9_max_7cf53_1 : decode cJ9_max_7cf53 1 = .ok (.iload_n 1, 1) := by decide +kernel
theorem dJ9_max_7cf53_2 : decode cJ9_max_7cf53 2 = .ok (.if_icmp .lt 7, 3) := by decide +kernel
theorem dJ9_max_7cf53_5 : decode cJ9_max_7cf53 5 = .ok (.iload_n 0, 1) := by decide +kernel
theorem dJ9_max_7cf53_6 : decode cJ9_max_7cf53 6 = .ok (.goto 4, 3) := by decide +kernel
theorem dJ9_max_7cf53_9 : decode cJ9_max_7cf53 9 = .ok (.iload_n 1, 1) := by decide +kernel
theorem dJ9_max_7cf53_10 : decode cJ9_max_7cf53 10 = .ok (.ireturn, 1) := by decide +kernel
theorem dJ9_min_7cf53_0 : decode cJ9_min_7cf53 0 = .ok (.iload_n 0, 1) := by decide +kernel
theorem dJ9_min_7cf53_1 : decode cJ9_min_7cf53 1 = .ok (.iload_n 1, 1) := by decide +kernel
theorem dJ9_min_7cf53_2 : decode cJ9_min_7cf53 2 = .ok (.if_icmp .gt 7, 3) := by decide +kernel
theorem dJ9_min_7cf53_5 : decode cJ9_min_7cf53 5 = .ok (.iload_n 0, 1) := by decide +kernel
theorem dJ9_min_7cf53_6 : decode cJ9_min_7cf53 6 = .ok (.goto 4, 3) := by decide +kernel
theorem dJ9_min_7cf53_9 : decode cJ9_min_7cf53 9 = .ok (.iload_n 1, 1) := by decide +kernel
theorem dJ9_min_7cf53_10 : decode cJ9_min_7cf53 10 = .ok (.ireturn, 1) := by decide +kernel
theorem dL_law_0 : decode cL_law 0 = .ok (.new 7, 3) := by decide +kernel
theorem dL_law_3 : decode cL_law 3 = .ok (.dup, 1) := by decide +kernel
theorem dL_law_4 : decode cL_law 4 = .ok (.invokespecial 9, 3) := by decide +kernel
theorem dL_law_7 : decode cL_law 7 = .ok (.astore_n 1, 1) := by decide +kernel
theorem dL_law_8 : decode cL_law 8 = .ok (.new 10, 3) := by decide +kernel
theorem dL_law_11 : decode cL_law 11 = .ok (.dup, 1) := by decide +kernel
theorem dL_law_12 : decode cL_law 12 = .ok (.invokespecial 12, 3) := by decide +kernel
theorem dL_law_15 : decode cL_law 15 = .ok (.astore_n 2, 1) := by decide +kernel
theorem dL_law_16 : decode cL_law 16 = .ok (.iconst 0, 1) := by decide +kernel
theorem dL_law_17 : decode cL_law 17 = .ok (.istore_n 3, 1) := by decide +kernel
theorem dL_law_18 : decode cL_law 18 = .ok (.iload_n 3, 1) := by decide +kernel
theorem dL_law_19 : decode cL_law 19 = .ok (.aload_n 0, 1) := by decide +kernel
theorem dL_law_20 : decode cL_law 20 = .ok (.arraylength, 1) := by decide +kernel
theorem dL_law_21 : decode cL_law 21 = .ok (.iconst 4, 1) := by decide +kernel
theorem dL_law_22 : decode cL_law 22 = .ok (.isub, 1) := by decide +kernel
theorem dL_law_23 : decode cL_law 23 = .ok (.if_icmp .gt 851, 3) := by decide +kernel
theorem dL_law_26 : decode cL_law 26 = .ok (.aload_n 0, 1) := by decide +kernel
theorem dL_law_27 : decode cL_law 27 = .ok (.iload_n 3, 1) := by decide +kernel
theorem dL_law_28 : decode cL_law 28 = .ok (.iaload, 1) := by decide +kernel
theorem dL_law_29 : decode cL_law 29 = .ok (.bipush 31, 2) := by decide +kernel
theorem dL_law_31 : decode cL_law 31 = .ok (.iand, 1) := by decide +kernel
theorem dL_law_32 : decode cL_law 32 = .ok (.tableswitch 836 0 28 #[132, 155, 168, 181, 204, 237, 270, 293, 316, 339, 352, 365, 378, 391, 414, 427, 450, 473, 522, 545, 588, 611, 654, 687, 720, 753, 776, 799, 822], 132) := by decide +kernel
theorem dL_law_164 : decode cL_law 164 = .ok (.aload_n 1, 1) := by decide +kernel
theorem dL_law_165 : decode cL_law 165 = .ok (.aload_n 0, 1) := by decide +kernel
theorem dL_law_166 : decode cL_law 166 = .ok (.iload_n 3, 1) := by decide +kernel
theorem dL_law_167 : decode cL_law 167 = .ok (.iconst 1, 1) := by decide +kernel
theorem dL_law_168 : decode cL_law 168 = .ok (.iadd, 1) := by decide +kernel
theorem dL_law_169 : decode cL_law 169 = .ok (.iaload, 1) := by decide +kernel
theorem dL_law_170 : decode cL_law 170 = .ok (.invokevirtual 13, 3) := by decide +kernel
theorem dL_law_173 : decode cL_law 173 = .ok (.aload_n 2, 1) := by decide +kernel
theorem dL_law_174 : decode cL_law 174 = .ok (.aload_n 0, 1) := by decide +kernel
theorem dL_law_175 : decode cL_law 175 = .ok (.iload_n 3, 1) := by decide +kernel
theorem dL_law_176 : decode cL_law 176 = .ok (.iconst 1, 1) := by decide +kernel
theorem dL_law_177 : decode cL_law 177 = .ok (.iadd, 1) := by decide +kernel
theorem dL_law_178 : decode cL_law 178 = .ok (.iaload, 1) := by decide +kernel
theorem dL_law_179 : decode cL_law 179 = .ok (.invokevirtual 17, 3) := by decide +kernel
theorem dL_law_182 : decode cL_law 182 = .ok (.if_icmp .eq 686, 3) := by decide +kernel
theorem dL_law_185 : decode cL_law 185 = .ok (.iconst 0, 1) := by decide +kernel
theorem dL_law_186 : decode cL_law 186 = .ok (.ireturn, 1) := by decide +kernel
theorem dL_law_187 : decode cL_law 187 = .ok (.aload_n 1, 1) := by decide +kernel
theorem dL_law_188 : decode cL_law 188 = .ok (.invokevirtual 18, 3) := by decide +kernel
theorem dL_law_191 : decode cL_law 191 = .ok (.aload_n 2, 1) := by decide +kernel
theorem dL_law_192 : decode cL_law 192 = .ok (.invokevirtual 22, 3) := by decide +kernel
theorem dL_law_195 : decode cL_law 195 = .ok (.if_icmp .eq 673, 3) := by decide +kernel
theorem dL_law_198 : decode cL_law 198 = .ok (.iconst 0, 1) := by decide +kernel
theorem dL_law_199 : decode cL_law 199 = .ok (.ireturn, 1) := by decide +kernel
theorem dL_law_200 : decode cL_law 200 = .ok (.aload_n 1, 1) := by decide +kernel
theorem dL_law_201 : decode cL_law 201 = .ok (.invokevirtual 23, 3) := by decide +kernel
theorem dL_law_204 : decode cL_law 204 = .ok (.aload_n 2, 1) := by decide +kernel
theorem dL_law_205 : decode cL_law 205 = .ok (.invokevirtual 26, 3) := by decide +kernel
theorem dL_law_208 : decode cL_law 208 = .ok (.if_icmp .eq 660, 3) := by decide +kernel
theorem dL_law_211 : decode cL_law 211 = .ok (.iconst 0, 1) := by decide +kernel
theorem dL_law_212 : decode cL_law 212 = .ok (.ireturn, 1) := by decide +kernel
theorem dL_law_213 : decode cL_law 213 = .ok (.aload_n 1, 1) := by decide +kernel
theorem dL_law_214 : decode cL_law 214 = .ok (.aload_n 0, 1) := by decide +kernel
theorem dL_law_215 : decode cL_law 215 = .ok (.iload_n 3, 1) := by decide +kernel
theorem dL_law_216 : decode cL_law 216 = .ok (.iconst 1, 1) := by decide +kernel
theorem dL_law_217 : decode cL_law 217 = .ok (.iadd, 1) := by decide +kernel
theorem dL_law_218 : decode cL_law 218 = .ok (.iaload, 1) := by decide +kernel
theorem dL_law_219 : decode cL_law 219 = .ok (.invokevirtual 27, 3) := by decide +kernel
theorem dL_law_222 : decode cL_law 222 = .ok (.aload_n 2, 1) := by decide +kernel
theorem dL_law_223 : decode cL_law 223 = .ok (.aload_n 0, 1) := by decide +kernel
theorem dL_law_224 : decode cL_law 224 = .ok (.iload_n 3, 1) := by decide +kernel
theorem dL_law_225 : decode cL_law 225 = .ok (.iconst 1, 1) := by decide +kernel
theorem dL_law_226 : decode cL_law 226 = .ok (.iadd, 1) := by decide +kernel
theorem dL_law_227 : decode cL_law 227 = .ok (.iaload, 1) := by decide +kernel
theorem dL_law_228 : decode cL_law 228 = .ok (.invokevirtual 30, 3) := by decide +kernel
theorem dL_law_231 : decode cL_law 231 = .ok (.if_icmp .eq 637, 3) := by decide +kernel
theorem dL_law_234 : decode cL_law 234 = .ok (.iconst 0, 1) := by decide +kernel
theorem dL_law_235 : decode cL_law 235 = .ok (.ireturn, 1) := by decide +kernel
theorem dL_law_236 : decode cL_law 236 = .ok (.aload_n 1, 1) := by decide +kernel
theorem dL_law_237 : decode cL_law 237 = .ok (.aload_n 0, 1) := by decide +kernel
theorem dL_law_238 : decode cL_law 238 = .ok (.iload_n 3, 1) := by decide +kernel
theorem dL_law_239 : decode cL_law 239 = .ok (.iconst 1, 1) := by decide +kernel
theorem dL_law_240 : decode cL_law 240 = .ok (.iadd, 1) := by decide +kernel
theorem dL_law_241 : decode cL_law 241 = .ok (.iaload, 1) := by decide +kernel
theorem dL_law_242 : decode cL_law 242 = .ok (.aload_n 0, 1) := by decide +kernel
theorem dL_law_243 : decode cL_law 243 = .ok (.iload_n 3, 1) := by decide +kernel
theorem dL_law_244 : decode cL_law 244 = .ok (.iconst 2, 1) := by decide +kernel
theorem dL_law_245 : decode cL_law 245 = .ok (.iadd, 1) := by decide +kernel
theorem dL_law_246 : decode cL_law 246 = .ok (.iaload, 1) := by decide +kernel
theorem dL_law_247 : decode cL_law 247 = .ok (.invokevirtual 31, 3) := by decide +kernel
theorem dL_law_250 : decode cL_law 250 = .ok (.aload_n 2, 1) := by decide +kernel
theorem dL_law_251 : decode cL_law 251 = .ok (.aload_n 0, 1) := by decide +kernel
theorem dL_law_252 : decode cL_law 252 = .ok (.iload_n 3, 1) := by decide +kernel
theorem dL_law_253 : decode cL_law 253 = .ok (.iconst 1, 1) := by decide +kernel
theorem dL_law_254 : decode cL_law 254 = .ok (.iadd, 1) := by decide +kernel
theorem dL_law_255 : decode cL_law 255 = .ok (.iaload, 1) := by decide +kernel
theorem dL_law_256 : decode cL_law 256 = .ok (.aload_n 0, 1) := by decide +kernel
theorem dL_law_257 : decode cL_law 257 = .ok (.iload_n 3, 1) := by decide +kernel
theorem dL_law_258 : decode cL_law 258 = .ok (.iconst 2, 1) := by decide +kernel
theorem dL_law_259 : decode cL_law 259 = .ok (.iadd, 1) := by decide +kernel
theorem dL_law_260 : decode cL_law 260 = .ok (.iaload, 1) := by decide +kernel
theorem dL_law_261 : decode cL_law 261 = .ok (.invokevirtual 35, 3) := by decide +kernel
theorem dL_law_264 : decode cL_law 264 = .ok (.if_icmp .eq 604, 3) := by decide +kernel
theorem dL_law_267 : decode cL_law 267 = .ok (.iconst 0, 1) := by decide +kernel
theorem dL_law_268 : decode cL_law 268 = .ok (.ireturn, 1) := by decide +kernel
theorem dL_law_269 : decode cL_law 269 = .ok (.aload_n 1, 1) := by decide +kernel
theorem dL_law_270 : decode cL_law 270 = .ok (.aload_n 0, 1) := by decide +kernel
theorem dL_law_271 : decode cL_law 271 = .ok (.iload_n 3, 1) := by decide +kernel
theorem dL_law_272 : decode cL_law 272 = .ok (.iconst 1, 1) := by decide +kernel
theorem dL_law_273 : decode cL_law 273 = .ok (.iadd, 1) := by decide +kernel
theorem dL_law_274 : decode cL_law 274 = .ok (.iaload, 1) := by decide +kernel
theorem dL_law_275 : decode cL_law 275 = .ok (.aload_n 0, 1) := by decide +kernel
theorem dL_law_276 : decode cL_law 276 = .ok (.iload_n 3, 1) := by decide +kernel
theorem dL_law_277 : decode cL_law 277 = .ok (.iconst 2, 1) := by decide +kernel
theorem dL_law_278 : decode cL_law 278 = .ok (.iadd, 1) := by decide +kernel
theorem dL_law_279 : decode cL_law 279 = .ok (.iaload, 1) := by decide +kernel
theorem dL_law_280 : decode cL_law 280 = .ok (.invokevirtual 36, 3) := by decide +kernel
theorem dL_law_283 : decode cL_law 283 = .ok (.aload_n 2, 1) := by decide +kernel
theorem dL_law_284 : decode cL_law 284 = .ok (.aload_n 0, 1) := by decide +kernel
theorem dL_law_285 : decode cL_law 285 = .ok (.iload_n 3, 1) := by decide +kernel
theorem dL_law_286 : decode cL_law 286 = .ok (.iconst 1, 1) := by decide +kernel
theorem dL_law_287 : decode cL_law 287 = .ok (.iadd, 1) := by decide +kernel
theorem dL_law_288 : decode cL_law 288 = .ok (.iaload, 1) := by decide +kernel
theorem dL_law_289 : decode cL_law 289 = .ok (.aload_n 0, 1) := by decide +kernel
theorem dL_law_290 : decode cL_law 290 = .ok (.iload_n 3, 1) := by decide +kernel
theorem dL_law_291 : decode cL_law 291 = .ok (.iconst 2, 1) := by decide +kernel
theorem dL_law_292 : decode cL_law 292 = .ok (.iadd, 1) := by decide +kernel
theorem dL_law_293 : decode cL_law 293 = .ok (.iaload, 1) := by decide +kernel
theorem dL_law_294 : decode cL_law 294 = .ok (.invokevirtual 39, 3) := by decide +kernel
theorem dL_law_297 : decode cL_law 297 = .ok (.if_icmp .eq 571, 3) := by decide +kernel
theorem dL_law_300 : decode cL_law 300 = .ok (.iconst 0, 1) := by decide +kernel
theorem dL_law_301 : decode cL_law 301 = .ok (.ireturn, 1) := by decide +kernel
theorem dL_law_302 : decode cL_law 302 = .ok (.aload_n 1, 1) := by decide +kernel
theorem dL_law_303 : decode cL_law 303 = .ok (.aload_n 0, 1) := by decide +kernel
theorem dL_law_304 : decode cL_law 304 = .ok (.iload_n 3, 1) := by decide +kernel
theorem dL_law_305 : decode cL_law 305 = .ok (.iconst 1, 1) := by decide +kernel
theorem dL_law_306 : decode cL_law 306 = .ok (.iadd, 1) := by decide +kernel
theorem dL_law_307 : decode cL_law 307 = .ok (.iaload, 1) := by decide +kernel
theorem dL_law_308 : decode cL_law 308 = .ok (.invokevirtual 40, 3) := by decide +kernel
theorem dL_law_311 : decode cL_law 311 = .ok (.aload_n 2, 1) := by decide +kernel
theorem dL_law_312 : decode cL_law 312 = .ok (.aload_n 0, 1) := by decide +kernel
theorem dL_law_313 : decode cL_law 313 = .ok (.iload_n 3, 1) := by decide +kernel
theorem dL_law_314 : decode cL_law 314 = .ok (.iconst 1, 1) := by decide +kernel
theorem dL_law_315 : decode cL_law 315 = .ok (.iadd, 1) := by decide +kernel
theorem dL_law_316 : decode cL_law 316 = .ok (.iaload, 1) := by decide +kernel
theorem dL_law_317 : decode cL_law 317 = .ok (.invokevirtual 43, 3) := by decide +kernel
theorem dL_law_320 : decode cL_law 320 = .ok (.if_icmp .eq 548, 3) := by decide +kernel
theorem dL_law_323 : decode cL_law 323 = .ok (.iconst 0, 1) := by decide +kernel
theorem dL_law_324 : decode cL_law 324 = .ok (.ireturn, 1) := by decide +kernel
theorem dL_law_325 : decode cL_law 325 = .ok (.aload_n 1, 1) := by decide +kernel
theorem dL_law_326 : decode cL_law 326 = .ok (.aload_n 0, 1) := by decide +kernel
theorem dL_law_327 : decode cL_law 327 = .ok (.iload_n 3, 1) := by decide +kernel
theorem dL_law_328 : decode cL_law 328 = .ok (.iconst 1, 1) := by decide +kernel
theorem dL_law_329 : decode cL_law 329 = .ok (.iadd, 1) := by decide +kernel
theorem dL_law_330 : decode cL_law 330 = .ok (.iaload, 1) := by decide +kernel
theorem dL_law_331 : decode cL_law 331 = .ok (.invokevirtual 44, 3) := by decide +kernel
theorem dL_law_334 : decode cL_law 334 = .ok (.aload_n 2, 1) := by decide +kernel
theorem dL_law_335 : decode cL_law 335 = .ok (.aload_n 0, 1) := by decide +kernel
theorem dL_law_336 : decode cL_law 336 = .ok (.iload_n 3, 1) := by decide +kernel
theorem dL_law_337 : decode cL_law 337 = .ok (.iconst 1, 1) := by decide +kernel
theorem dL_law_338 : decode cL_law 338 = .ok (.iadd, 1) := by decide +kernel
theorem dL_law_339 : decode cL_law 339 = .ok (.iaload, 1) := by decide +kernel
theorem dL_law_340 : decode cL_law 340 = .ok (.invokevirtual 47, 3) := by decide +kernel
theorem dL_law_343 : decode cL_law 343 = .ok (.if_icmp .eq 525, 3) := by decide +kernel
theorem dL_law_346 : decode cL_law 346 = .ok (.iconst 0, 1) := by decide +kernel
theorem dL_law_347 : decode cL_law 347 = .ok (.ireturn, 1) := by decide +kernel
theorem dL_law_348 : decode cL_law 348 = .ok (.aload_n 1, 1) := by decide +kernel
theorem dL_law_349 : decode cL_law 349 = .ok (.aload_n 0, 1) := by decide +kernel
theorem dL_law_350 : decode cL_law 350 = .ok (.iload_n 3, 1) := by decide +kernel
theorem dL_law_351 : decode cL_law 351 = .ok (.iconst 1, 1) := by decide +kernel
theorem dL_law_352 : decode cL_law 352 = .ok (.iadd, 1) := by decide +kernel
theorem dL_law_353 : decode cL_law 353 = .ok (.iaload, 1) := by decide +kernel
theorem dL_law_354 : decode cL_law 354 = .ok (.invokevirtual 48, 3) := by decide +kernel
theorem dL_law_357 : decode cL_law 357 = .ok (.aload_n 2, 1) := by decide +kernel
theorem dL_law_358 : decode cL_law 358 = .ok (.aload_n 0, 1) := by decide +kernel
theorem dL_law_359 : decode cL_law 359 = .ok (.iload_n 3, 1) := by decide +kernel
theorem dL_law_360 : decode cL_law 360 = .ok (.iconst 1, 1) := by decide +kernel
theorem dL_law_361 : decode cL_law 361 = .ok (.iadd, 1) := by decide +kernel
theorem dL_law_362 : decode cL_law 362 = .ok (.iaload, 1) := by decide +kernel
theorem dL_law_363 : decode cL_law 363 = .ok (.invokevirtual 51, 3) := by decide +kernel
theorem dL_law_366 : decode cL_law 366 = .ok (.if_icmp .eq 502, 3) := by decide +kernel
theorem dL_law_369 : decode cL_law 369 = .ok (.iconst 0, 1) := by decide +kernel
theorem dL_law_370 : decode cL_law 370 = .ok (.ireturn, 1) := by decide +kernel
theorem dL_law_371 : decode cL_law 371 = .ok (.aload_n 1, 1) := by decide +kernel
theorem dL_law_372 : decode cL_law 372 = .ok (.invokevirtual 52, 3) := by decide +kernel
theorem dL_law_375 : decode cL_law 375 = .ok (.aload_n 2, 1) := by decide +kernel
theorem dL_law_376 : decode cL_law 376 = .ok (.invokevirtual 55, 3) := by decide +kernel
theorem dL_law_379 : decode cL_law 379 = .ok (.if_icmp .eq 489, 3) := by decide +kernel
theorem dL_law_382 : decode cL_law 382 = .ok (.iconst 0, 1) := by decide +kernel
theorem dL_law_383 : decode cL_law 383 = .ok (.ireturn, 1) := by decide +kernel
theorem dL_law_384 : decode cL_law 384 = .ok (.aload_n 1, 1) := by decide +kernel
theorem dL_law_385 : decode cL_law 385 = .ok (.invokevirtual 56, 3) := by decide +kernel
theorem dL_law_388 : decode cL_law 388 = .ok (.aload_n 2, 1) := by decide +kernel
theorem dL_law_389 : decode cL_law 389 = .ok (.invokevirtual 59, 3) := by decide +kernel
theorem dL_law_392 : decode cL_law 392 = .ok (.if_icmp .eq 476, 3) := by decide +kernel
theorem dL_law_395 : decode cL_law 395 = .ok (.iconst 0, 1) := by decide +kernel
theorem dL_law_396 : decode cL_law 396 = .ok (.ireturn, 1) := by decide +kernel
theorem dL_law_397 : decode cL_law 397 = .ok (.aload_n 1, 1) := by decide +kernel
theorem dL_law_398 : decode cL_law 398 = .ok (.invokevirtual 60, 3) := by decide +kernel
theorem dL_law_401 : decode cL_law 401 = .ok (.aload_n 2, 1) := by decide +kernel
theorem dL_law_402 : decode cL_law 402 = .ok (.invokevirtual 63, 3) := by decide +kernel
theorem dL_law_405 : decode cL_law 405 = .ok (.if_icmp .eq 463, 3) := by decide +kernel
theorem dL_law_408 : decode cL_law 408 = .ok (.iconst 0, 1) := by decide +kernel
theorem dL_law_409 : decode cL_law 409 = .ok (.ireturn, 1) := by decide +kernel
theorem dL_law_410 : decode cL_law 410 = .ok (.aload_n 1, 1) := by decide +kernel
theorem dL_law_411 : decode cL_law 411 = .ok (.invokevirtual 64, 3) := by decide +kernel
theorem dL_law_414 : decode cL_law 414 = .ok (.aload_n 2, 1) := by decide +kernel
theorem dL_law_415 : decode cL_law 415 = .ok (.invokevirtual 67, 3) := by decide +kernel
theorem dL_law_418 : decode cL_law 418 = .ok (.if_icmp .eq 450, 3) := by decide +kernel
theorem dL_law_421 : decode cL_law 421 = .ok (.iconst 0, 1) := by decide +kernel
theorem dL_law_422 : decode cL_law 422 = .ok (.ireturn, 1) := by decide +kernel
theorem dL_law_423 : decode cL_law 423 = .ok (.aload_n 1, 1) := by decide +kernel
theorem dL_law_424 : decode cL_law 424 = .ok (.aload_n 0, 1) := by decide +kernel
theorem dL_law_425 : decode cL_law 425 = .ok (.iload_n 3, 1) := by decide +kernel
theorem dL_law_426 : decode cL_law 426 = .ok (.iconst 1, 1) := by decide +kernel
theorem dL_law_427 : decode cL_law 427 = .ok (.iadd, 1) := by decide +kernel
theorem dL_law_428 : decode cL_law 428 = .ok (.iaload, 1) := by decide +kernel
theorem dL_law_429 : decode cL_law 429 = .ok (.invokevirtual 68, 3) := by decide +kernel
theorem dL_law_432 : decode cL_law 432 = .ok (.aload_n 2, 1) := by decide +kernel
theorem dL_law_433 : decode cL_law 433 = .ok (.aload_n 0, 1) := by decide +kernel
theorem dL_law_434 : decode cL_law 434 = .ok (.iload_n 3, 1) := by decide +kernel
theorem dL_law_435 : decode cL_law 435 = .ok (.iconst 1, 1) := by decide +kernel
theorem dL_law_436 : decode cL_law 436 = .ok (.iadd, 1) := by decide +kernel
theorem dL_law_437 : decode cL_law 437 = .ok (.iaload, 1) := by decide +kernel
theorem dL_law_438 : decode cL_law 438 = .ok (.invokevirtual 71, 3) := by decide +kernel
theorem dL_law_441 : decode cL_law 441 = .ok (.if_icmp .eq 427, 3) := by decide +kernel
theorem dL_law_444 : decode cL_law 444 = .ok (.iconst 0, 1) := by decide +kernel
theorem dL_law_445 : decode cL_law 445 = .ok (.ireturn, 1) := by decide +kernel
theorem dL_law_446 : decode cL_law 446 = .ok (.aload_n 1, 1) := by decide +kernel
theorem dL_law_447 : decode cL_law 447 = .ok (.invokevirtual 72, 3) := by decide +kernel
theorem dL_law_450 : decode cL_law 450 = .ok (.aload_n 2, 1) := by decide +kernel
theorem dL_law_451 : decode cL_law 451 = .ok (.invokevirtual 75, 3) := by decide +kernel
theorem dL_law_454 : decode cL_law 454 = .ok (.if_icmp .eq 414, 3) := by decide +kernel
theorem dL_law_457 : decode cL_law 457 = .ok (.iconst 0, 1) := by decide +kernel
theorem dL_law_458 : decode cL_law 458 = .ok (.ireturn, 1) := by decide +kernel
theorem dL_law_459 : decode cL_law 459 = .ok (.aload_n 1, 1) := by decide +kernel
theorem dL_law_460 : decode cL_law 460 = .ok (.aload_n 0, 1) := by decide +kernel
theorem dL_law_461 : decode cL_law 461 = .ok (.iload_n 3, 1) := by decide +kernel
theorem dL_law_462 : decode cL_law 462 = .ok (.iconst 1, 1) := by decide +kernel
theorem dL_law_463 : decode cL_law 463 = .ok (.iadd, 1) := by decide +kernel
theorem dL_law_464 : decode cL_law 464 = .ok (.iaload, 1) := by decide +kernel
theorem dL_law_465 : decode cL_law 465 = .ok (.invokevirtual 76, 3) := by decide +kernel
theorem dL_law_468 : decode cL_law 468 = .ok (.aload_n 2, 1) := by decide +kernel
theorem dL_law_469 : decode cL_law 469 = .ok (.aload_n 0, 1) := by decide +kernel
theorem dL_law_470 : decode cL_law 470 = .ok (.iload_n 3, 1) := by decide +kernel
theorem dL_law_471 : decode cL_law 471 = .ok (.iconst 1, 1) := by decide +kernel
theorem dL_law_472 : decode cL_law 472 = .ok (.iadd, 1) := by decide +kernel
theorem dL_law_473 : decode cL_law 473 = .ok (.iaload, 1) := by decide +kernel
theorem dL_law_474 : decode cL_law 474 = .ok (.invokevirtual 79, 3) := by decide +kernel
theorem dL_law_477 : decode cL_law 477 = .ok (.if_icmp .eq 391, 3) := by decide +kernel
theorem dL_law_480 : decode cL_law 480 = .ok (.iconst 0, 1) := by decide +kernel
theorem dL_law_481 : decode cL_law 481 = .ok (.ireturn, 1) := by decide +kernel
theorem dL_law_482 : decode cL_law 482 = .ok (.aload_n 1, 1) := by decide +kernel
theorem dL_law_483 : decode cL_law 483 = .ok (.aload_n 0, 1) := by decide +kernel
theorem dL_law_484 : decode cL_law 484 = .ok (.iload_n 3, 1) := by decide +kernel
theorem dL_law_485 : decode cL_law 485 = .ok (.iconst 1, 1) := by decide +kernel
theorem dL_law_486 : decode cL_law 486 = .ok (.iadd, 1) := by decide +kernel
theorem dL_law_487 : decode cL_law 487 = .ok (.iaload, 1) := by decide +kernel
theorem dL_law_488 : decode cL_law 488 = .ok (.invokevirtual 80, 3) := by decide +kernel
theorem dL_law_491 : decode cL_law 491 = .ok (.aload_n 2, 1) := by decide +kernel
theorem dL_law_492 : decode cL_law 492 = .ok (.aload_n 0, 1) := by decide +kernel
theorem dL_law_493 : decode cL_law 493 = .ok (.iload_n 3, 1) := by decide +kernel
theorem dL_law_494 : decode cL_law 494 = .ok (.iconst 1, 1) := by decide +kernel
theorem dL_law_495 : decode cL_law 495 = .ok (.iadd, 1) := by decide +kernel
theorem dL_law_496 : decode cL_law 496 = .ok (.iaload, 1) := by decide +kernel
theorem dL_law_497 : decode cL_law 497 = .ok (.invokevirtual 83, 3) := by decide +kernel
theorem dL_law_500 : decode cL_law 500 = .ok (.if_icmp .eq 368, 3) := by decide +kernel
theorem dL_law_503 : decode cL_law 503 = .ok (.iconst 0, 1) := by decide +kernel
theorem dL_law_504 : decode cL_law 504 = .ok (.ireturn, 1) := by decide +kernel
theorem dL_law_505 : decode cL_law 505 = .ok (.aload_n 1, 1) := by decide +kernel
theorem dL_law_506 : decode cL_law 506 = .ok (.aload_n 0, 1) := by decide +kernel
theorem dL_law_507 : decode cL_law 507 = .ok (.iload_n 3, 1) := by decide +kernel
theorem dL_law_508 : decode cL_law 508 = .ok (.iconst 1, 1) := by decide +kernel
theorem dL_law_509 : decode cL_law 509 = .ok (.iadd, 1) := by decide +kernel
theorem dL_law_510 : decode cL_law 510 = .ok (.iaload, 1) := by decide +kernel
theorem dL_law_511 : decode cL_law 511 = .ok (.aload_n 0, 1) := by decide +kernel
theorem dL_law_512 : decode cL_law 512 = .ok (.iload_n 3, 1) := by decide +kernel
theorem dL_law_513 : decode cL_law 513 = .ok (.iconst 2, 1) := by decide +kernel
theorem dL_law_514 : decode cL_law 514 = .ok (.iadd, 1) := by decide +kernel
theorem dL_law_515 : decode cL_law 515 = .ok (.iaload, 1) := by decide +kernel
theorem dL_law_516 : decode cL_law 516 = .ok (.ifCond .eq 7, 3) := by decide +kernel
theorem dL_law_519 : decode cL_law 519 = .ok (.iconst 1, 1) := by decide +kernel
theorem dL_law_520 : decode cL_law 520 = .ok (.goto 4, 3) := by decide +kernel
theorem dL_law_523 : decode cL_law 523 = .ok (.iconst 0, 1) := by decide +kernel
theorem dL_law_524 : decode cL_law 524 = .ok (.invokevirtual 84, 3) := by decide +kernel
theorem dL_law_527 : decode cL_law 527 = .ok (.aload_n 2, 1) := by decide +kernel
theorem dL_law_528 : decode cL_law 528 = .ok (.aload_n 0, 1) := by decide +kernel
theorem dL_law_529 : decode cL_law 529 = .ok (.iload_n 3, 1) := by decide +kernel
theorem dL_law_530 : decode cL_law 530 = .ok (.iconst 1, 1) := by decide +kernel
theorem dL_law_531 : decode cL_law 531 = .ok (.iadd, 1) := by decide +kernel
theorem dL_law_532 : decode cL_law 532 = .ok (.iaload, 1) := by decide +kernel
theorem dL_law_533 : decode cL_law 533 = .ok (.aload_n 0, 1) := by decide +kernel
theorem dL_law_534 : decode cL_law 534 = .ok (.iload_n 3, 1) := by decide +kernel
theorem dL_law_535 : decode cL_law 535 = .ok (.iconst 2, 1) := by decide +kernel
theorem dL_law_536 : decode cL_law 536 = .ok (.iadd, 1) := by decide +kernel
theorem dL_law_537 : decode cL_law 537 = .ok (.iaload, 1) := by decide +kernel
theorem dL_law_538 : decode cL_law 538 = .ok (.ifCond .eq 7, 3) := by decide +kernel
theorem dL_law_541 : decode cL_law 541 = .ok (.iconst 1, 1) := by decide +kernel
theorem dL_law_542 : decode cL_law 542 = .ok (.goto 4, 3) := by decide +kernel
theorem dL_law_545 : decode cL_law 545 = .ok (.iconst 0, 1) := by decide +kernel
theorem dL_law_546 : decode cL_law 546 = .ok (.invokevirtual 88, 3) := by decide +kernel
theorem dL_law_549 : decode cL_law 549 = .ok (.if_icmp .eq 319, 3) := by decide +kernel
theorem dL_law_552 : decode cL_law 552 = .ok (.iconst 0, 1) := by decide +kernel
theorem dL_law_553 : decode cL_law 553 = .ok (.ireturn, 1) := by decide +kernel
theorem dL_law_554 : decode cL_law 554 = .ok (.aload_n 1, 1) := by decide +kernel
theorem dL_law_555 : decode cL_law 555 = .ok (.aload_n 0, 1) := by decide +kernel
theorem dL_law_556 : decode cL_law 556 = .ok (.iload_n 3, 1) := by decide +kernel
theorem dL_law_557 : decode cL_law 557 = .ok (.iconst 1, 1) := by decide +kernel
theorem dL_law_558 : decode cL_law 558 = .ok (.iadd, 1) := by decide +kernel
theorem dL_law_559 : decode cL_law 559 = .ok (.iaload, 1) := by decide +kernel
theorem dL_law_560 : decode cL_law 560 = .ok (.invokevirtual 89, 3) := by decide +kernel
theorem dL_law_563 : decode cL_law 563 = .ok (.aload_n 2, 1) := by decide +kernel
theorem dL_law_564 : decode cL_law 564 = .ok (.aload_n 0, 1) := by decide +kernel
theorem dL_law_565 : decode cL_law 565 = .ok (.iload_n 3, 1) := by decide +kernel
theorem dL_law_566 : decode cL_law 566 = .ok (.iconst 1, 1) := by decide +kernel
theorem dL_law_567 : decode cL_law 567 = .ok (.iadd, 1) := by decide +kernel
theorem dL_law_568 : decode cL_law 568 = .ok (.iaload, 1) := by decide +kernel
theorem dL_law_569 : decode cL_law 569 = .ok (.invokevirtual 92, 3) := by decide +kernel
theorem dL_law_572 : decode cL_law 572 = .ok (.if_icmp .eq 296, 3) := by decide +kernel
theorem dL_law_575 : decode cL_law 575 = .ok (.iconst 0, 1) := by decide +kernel
theorem dL_law_576 : decode cL_law 576 = .ok (.ireturn, 1) := by decide +kernel
theorem dL_law_577 : decode cL_law 577 = .ok (.aload_n 1, 1) := by decide +kernel
theorem dL_law_578 : decode cL_law 578 = .ok (.aload_n 0, 1) := by decide +kernel
theorem dL_law_579 : decode cL_law 579 = .ok (.iload_n 3, 1) := by decide +kernel
theorem dL_law_580 : decode cL_law 580 = .ok (.iconst 1, 1) := by decide +kernel
theorem dL_law_581 : decode cL_law 581 = .ok (.iadd, 1) := by decide +kernel
theorem dL_law_582 : decode cL_law 582 = .ok (.iaload, 1) := by decide +kernel
theorem dL_law_583 : decode cL_law 583 = .ok (.aload_n 0, 1) := by decide +kernel
theorem dL_law_584 : decode cL_law 584 = .ok (.iload_n 3, 1) := by decide +kernel
theorem dL_law_585 : decode cL_law 585 = .ok (.iconst 2, 1) := by decide +kernel
theorem dL_law_586 : decode cL_law 586 = .ok (.iadd, 1) := by decide +kernel
theorem dL_law_587 : decode cL_law 587 = .ok (.iaload, 1) := by decide +kernel
theorem dL_law_588 : decode cL_law 588 = .ok (.aload_n 0, 1) := by decide +kernel
theorem dL_law_589 : decode cL_law 589 = .ok (.iload_n 3, 1) := by decide +kernel
theorem dL_law_590 : decode cL_law 590 = .ok (.iconst 3, 1) := by decide +kernel
theorem dL_law_591 : decode cL_law 591 = .ok (.iadd, 1) := by decide +kernel
theorem dL_law_592 : decode cL_law 592 = .ok (.iaload, 1) := by decide +kernel
theorem dL_law_593 : decode cL_law 593 = .ok (.invokevirtual 93, 3) := by decide +kernel
theorem dL_law_596 : decode cL_law 596 = .ok (.aload_n 2, 1) := by decide +kernel
theorem dL_law_597 : decode cL_law 597 = .ok (.aload_n 0, 1) := by decide +kernel
theorem dL_law_598 : decode cL_law 598 = .ok (.iload_n 3, 1) := by decide +kernel
theorem dL_law_599 : decode cL_law 599 = .ok (.iconst 1, 1) := by decide +kernel
theorem dL_law_600 : decode cL_law 600 = .ok (.iadd, 1) := by decide +kernel
theorem dL_law_601 : decode cL_law 601 = .ok (.iaload, 1) := by decide +kernel
theorem dL_law_602 : decode cL_law 602 = .ok (.aload_n 0, 1) := by decide +kernel
theorem dL_law_603 : decode cL_law 603 = .ok (.iload_n 3, 1) := by decide +kernel
theorem dL_law_604 : decode cL_law 604 = .ok (.iconst 2, 1) := by decide +kernel
theorem dL_law_605 : decode cL_law 605 = .ok (.iadd, 1) := by decide +kernel
theorem dL_law_606 : decode cL_law 606 = .ok (.iaload, 1) := by decide +kernel
theorem dL_law_607 : decode cL_law 607 = .ok (.aload_n 0, 1) := by decide +kernel
theorem dL_law_608 : decode cL_law 608 = .ok (.iload_n 3, 1) := by decide +kernel
theorem dL_law_609 : decode cL_law 609 = .ok (.iconst 3, 1) := by decide +kernel
theorem dL_law_610 : decode cL_law 610 = .ok (.iadd, 1) := by decide +kernel
theorem dL_law_611 : decode cL_law 611 = .ok (.iaload, 1) := by decide +kernel
theorem dL_law_612 : decode cL_law 612 = .ok (.invokevirtual 97, 3) := by decide +kernel
theorem dL_law_615 : decode cL_law 615 = .ok (.if_icmp .eq 253, 3) := by decide +kernel
theorem dL_law_618 : decode cL_law 618 = .ok (.iconst 0, 1) := by decide +kernel
theorem dL_law_619 : decode cL_law 619 = .ok (.ireturn, 1) := by decide +kernel
theorem dL_law_620 : decode cL_law 620 = .ok (.aload_n 1, 1) := by decide +kernel
theorem dL_law_621 : decode cL_law 621 = .ok (.aload_n 0, 1) := by decide +kernel
theorem dL_law_622 : decode cL_law 622 = .ok (.iload_n 3, 1) := by decide +kernel
theorem dL_law_623 : decode cL_law 623 = .ok (.iconst 1, 1) := by decide +kernel
theorem dL_law_624 : decode cL_law 624 = .ok (.iadd, 1) := by decide +kernel
theorem dL_law_625 : decode cL_law 625 = .ok (.iaload, 1) := by decide +kernel
theorem dL_law_626 : decode cL_law 626 = .ok (.invokevirtual 98, 3) := by decide +kernel
theorem dL_law_629 : decode cL_law 629 = .ok (.aload_n 2, 1) := by decide +kernel
theorem dL_law_630 : decode cL_law 630 = .ok (.aload_n 0, 1) := by decide +kernel
theorem dL_law_631 : decode cL_law 631 = .ok (.iload_n 3, 1) := by decide +kernel
theorem dL_law_632 : decode cL_law 632 = .ok (.iconst 1, 1) := by decide +kernel
theorem dL_law_633 : decode cL_law 633 = .ok (.iadd, 1) := by decide +kernel
theorem dL_law_634 : decode cL_law 634 = .ok (.iaload, 1) := by decide +kernel
theorem dL_law_635 : decode cL_law 635 = .ok (.invokevirtual 101, 3) := by decide +kernel
theorem dL_law_638 : decode cL_law 638 = .ok (.if_icmp .eq 230, 3) := by decide +kernel
theorem dL_law_641 : decode cL_law 641 = .ok (.iconst 0, 1) := by decide +kernel
theorem dL_law_642 : decode cL_law 642 = .ok (.ireturn, 1) := by decide +kernel
theorem dL_law_643 : decode cL_law 643 = .ok (.aload_n 1, 1) := by decide +kernel
theorem dL_law_644 : decode cL_law 644 = .ok (.aload_n 0, 1) := by decide +kernel
theorem dL_law_645 : decode cL_law 645 = .ok (.iload_n 3, 1) := by decide +kernel
theorem dL_law_646 : decode cL_law 646 = .ok (.iconst 1, 1) := by decide +kernel
theorem dL_law_647 : decode cL_law 647 = .ok (.iadd, 1) := by decide +kernel
theorem dL_law_648 : decode cL_law 648 = .ok (.iaload, 1) := by decide +kernel
theorem dL_law_649 : decode cL_law 649 = .ok (.aload_n 0, 1) := by decide +kernel
theorem dL_law_650 : decode cL_law 650 = .ok (.iload_n 3, 1) := by decide +kernel
theorem dL_law_651 : decode cL_law 651 = .ok (.iconst 2, 1) := by decide +kernel
theorem dL_law_652 : decode cL_law 652 = .ok (.iadd, 1) := by decide +kernel
theorem dL_law_653 : decode cL_law 653 = .ok (.iaload, 1) := by decide +kernel
theorem dL_law_654 : decode cL_law 654 = .ok (.aload_n 0, 1) := by decide +kernel
theorem dL_law_655 : decode cL_law 655 = .ok (.iload_n 3, 1) := by decide +kernel
theorem dL_law_656 : decode cL_law 656 = .ok (.iconst 3, 1) := by decide +kernel
theorem dL_law_657 : decode cL_law 657 = .ok (.iadd, 1) := by decide +kernel
theorem dL_law_658 : decode cL_law 658 = .ok (.iaload, 1) := by decide +kernel
theorem dL_law_659 : decode cL_law 659 = .ok (.invokevirtual 102, 3) := by decide +kernel
theorem dL_law_662 : decode cL_law 662 = .ok (.aload_n 2, 1) := by decide +kernel
theorem dL_law_663 : decode cL_law 663 = .ok (.aload_n 0, 1) := by decide +kernel
theorem dL_law_664 : decode cL_law 664 = .ok (.iload_n 3, 1) := by decide +kernel
theorem dL_law_665 : decode cL_law 665 = .ok (.iconst 1, 1) := by decide +kernel
theorem dL_law_666 : decode cL_law 666 = .ok (.iadd, 1) := by decide +kernel
theorem dL_law_667 : decode cL_law 667 = .ok (.iaload, 1) := by decide +kernel
theorem dL_law_668 : decode cL_law 668 = .ok (.aload_n 0, 1) := by decide +kernel
theorem dL_law_669 : decode cL_law 669 = .ok (.iload_n 3, 1) := by decide +kernel
theorem dL_law_670 : decode cL_law 670 = .ok (.iconst 2, 1) := by decide +kernel
theorem dL_law_671 : decode cL_law 671 = .ok (.iadd, 1) := by decide +kernel
theorem dL_law_672 : decode cL_law 672 = .ok (.iaload, 1) := by decide +kernel
theorem dL_law_673 : decode cL_law 673 = .ok (.aload_n 0, 1) := by decide +kernel
theorem dL_law_674 : decode cL_law 674 = .ok (.iload_n 3, 1) := by decide +kernel
theorem dL_law_675 : decode cL_law 675 = .ok (.iconst 3, 1) := by decide +kernel
theorem dL_law_676 : decode cL_law 676 = .ok (.iadd, 1) := by decide +kernel
theorem dL_law_677 : decode cL_law 677 = .ok (.iaload, 1) := by decide +kernel
theorem dL_law_678 : decode cL_law 678 = .ok (.invokevirtual 105, 3) := by decide +kernel
theorem dL_law_681 : decode cL_law 681 = .ok (.if_icmp .eq 187, 3) := by decide +kernel
theorem dL_law_684 : decode cL_law 684 = .ok (.iconst 0, 1) := by decide +kernel
theorem dL_law_685 : decode cL_law 685 = .ok (.ireturn, 1) := by decide +kernel
theorem dL_law_686 : decode cL_law 686 = .ok (.aload_n 1, 1) := by decide +kernel
theorem dL_law_687 : decode cL_law 687 = .ok (.aload_n 0, 1) := by decide +kernel
theorem dL_law_688 : decode cL_law 688 = .ok (.iload_n 3, 1) := by decide +kernel
theorem dL_law_689 : decode cL_law 689 = .ok (.iconst 1, 1) := by decide +kernel
theorem dL_law_690 : decode cL_law 690 = .ok (.iadd, 1) := by decide +kernel
theorem dL_law_691 : decode cL_law 691 = .ok (.iaload, 1) := by decide +kernel
theorem dL_law_692 : decode cL_law 692 = .ok (.aload_n 0, 1) := by decide +kernel
theorem dL_law_693 : decode cL_law 693 = .ok (.iload_n 3, 1) := by decide +kernel
theorem dL_law_694 : decode cL_law 694 = .ok (.iconst 2, 1) := by decide +kernel
theorem dL_law_695 : decode cL_law 695 = .ok (.iadd, 1) := by decide +kernel
theorem dL_law_696 : decode cL_law 696 = .ok (.iaload, 1) := by decide +kernel
theorem dL_law_697 : decode cL_law 697 = .ok (.invokevirtual 106, 3) := by decide +kernel
theorem dL_law_700 : decode cL_law 700 = .ok (.aload_n 2, 1) := by decide +kernel
theorem dL_law_701 : decode cL_law 701 = .ok (.aload_n 0, 1) := by decide +kernel
theorem dL_law_702 : decode cL_law 702 = .ok (.iload_n 3, 1) := by decide +kernel
theorem dL_law_703 : decode cL_law 703 = .ok (.iconst 1, 1) := by decide +kernel
theorem dL_law_704 : decode cL_law 704 = .ok (.iadd, 1) := by decide +kernel
theorem dL_law_705 : decode cL_law 705 = .ok (.iaload, 1) := by decide +kernel
theorem dL_law_706 : decode cL_law 706 = .ok (.aload_n 0, 1) := by decide +kernel
theorem dL_law_707 : decode cL_law 707 = .ok (.iload_n 3, 1) := by decide +kernel
theorem dL_law_708 : decode cL_law 708 = .ok (.iconst 2, 1) := by decide +kernel
theorem dL_law_709 : decode cL_law 709 = .ok (.iadd, 1) := by decide +kernel
theorem dL_law_710 : decode cL_law 710 = .ok (.iaload, 1) := by decide +kernel
theorem dL_law_711 : decode cL_law 711 = .ok (.invokevirtual 109, 3) := by decide +kernel
theorem dL_law_714 : decode cL_law 714 = .ok (.if_icmp .eq 154, 3) := by decide +kernel
theorem dL_law_717 : decode cL_law 717 = .ok (.iconst 0, 1) := by decide +kernel
theorem dL_law_718 : decode cL_law 718 = .ok (.ireturn, 1) := by decide +kernel
theorem dL_law_719 : decode cL_law 719 = .ok (.aload_n 1, 1) := by decide +kernel
theorem dL_law_720 : decode cL_law 720 = .ok (.aload_n 0, 1) := by decide +kernel
theorem dL_law_721 : decode cL_law 721 = .ok (.iload_n 3, 1) := by decide +kernel
theorem dL_law_722 : decode cL_law 722 = .ok (.iconst 1, 1) := by decide +kernel
theorem dL_law_723 : decode cL_law 723 = .ok (.iadd, 1) := by decide +kernel
theorem dL_law_724 : decode cL_law 724 = .ok (.iaload, 1) := by decide +kernel
theorem dL_law_725 : decode cL_law 725 = .ok (.aload_n 0, 1) := by decide +kernel
theorem dL_law_726 : decode cL_law 726 = .ok (.iload_n 3, 1) := by decide +kernel
theorem dL_law_727 : decode cL_law 727 = .ok (.iconst 2, 1) := by decide +kernel
theorem dL_law_728 : decode cL_law 728 = .ok (.iadd, 1) := by decide +kernel
theorem dL_law_729 : decode cL_law 729 = .ok (.iaload, 1) := by decide +kernel
theorem dL_law_730 : decode cL_law 730 = .ok (.invokevirtual 110, 3) := by decide +kernel
theorem dL_law_733 : decode cL_law 733 = .ok (.aload_n 2, 1) := by decide +kernel
theorem dL_law_734 : decode cL_law 734 = .ok (.aload_n 0, 1) := by decide +kernel
theorem dL_law_735 : decode cL_law 735 = .ok (.iload_n 3, 1) := by decide +kernel
theorem dL_law_736 : decode cL_law 736 = .ok (.iconst 1, 1) := by decide +kernel
theorem dL_law_737 : decode cL_law 737 = .ok (.iadd, 1) := by decide +kernel
theorem dL_law_738 : decode cL_law 738 = .ok (.iaload, 1) := by decide +kernel
theorem dL_law_739 : decode cL_law 739 = .ok (.aload_n 0, 1) := by decide +kernel
theorem dL_law_740 : decode cL_law 740 = .ok (.iload_n 3, 1) := by decide +kernel
theorem dL_law_741 : decode cL_law 741 = .ok (.iconst 2, 1) := by decide +kernel
theorem dL_law_742 : decode cL_law 742 = .ok (.iadd, 1) := by decide +kernel
theorem dL_law_743 : decode cL_law 743 = .ok (.iaload, 1) := by decide +kernel
theorem dL_law_744 : decode cL_law 744 = .ok (.invokevirtual 113, 3) := by decide +kernel
theorem dL_law_747 : decode cL_law 747 = .ok (.if_icmp .eq 121, 3) := by decide +kernel
theorem dL_law_750 : decode cL_law 750 = .ok (.iconst 0, 1) := by decide +kernel
theorem dL_law_751 : decode cL_law 751 = .ok (.ireturn, 1) := by decide +kernel
theorem dL_law_752 : decode cL_law 752 = .ok (.aload_n 1, 1) := by decide +kernel
theorem dL_law_753 : decode cL_law 753 = .ok (.aload_n 0, 1) := by decide +kernel
theorem dL_law_754 : decode cL_law 754 = .ok (.iload_n 3, 1) := by decide +kernel
theorem dL_law_755 : decode cL_law 755 = .ok (.iconst 1, 1) := by decide +kernel
theorem dL_law_756 : decode cL_law 756 = .ok (.iadd, 1) := by decide +kernel
theorem dL_law_757 : decode cL_law 757 = .ok (.iaload, 1) := by decide +kernel
theorem dL_law_758 : decode cL_law 758 = .ok (.aload_n 0, 1) := by decide +kernel
theorem dL_law_759 : decode cL_law 759 = .ok (.iload_n 3, 1) := by decide +kernel
theorem dL_law_760 : decode cL_law 760 = .ok (.iconst 2, 1) := by decide +kernel
theorem dL_law_761 : decode cL_law 761 = .ok (.iadd, 1) := by decide +kernel
theorem dL_law_762 : decode cL_law 762 = .ok (.iaload, 1) := by decide +kernel
theorem dL_law_763 : decode cL_law 763 = .ok (.invokevirtual 114, 3) := by decide +kernel
theorem dL_law_766 : decode cL_law 766 = .ok (.aload_n 2, 1) := by decide +kernel
theorem dL_law_767 : decode cL_law 767 = .ok (.aload_n 0, 1) := by decide +kernel
theorem dL_law_768 : decode cL_law 768 = .ok (.iload_n 3, 1) := by decide +kernel
theorem dL_law_769 : decode cL_law 769 = .ok (.iconst 1, 1) := by decide +kernel
theorem dL_law_770 : decode cL_law 770 = .ok (.iadd, 1) := by decide +kernel
theorem dL_law_771 : decode cL_law 771 = .ok (.iaload, 1) := by decide +kernel
theorem dL_law_772 : decode cL_law 772 = .ok (.aload_n 0, 1) := by decide +kernel
theorem dL_law_773 : decode cL_law 773 = .ok (.iload_n 3, 1) := by decide +kernel
theorem dL_law_774 : decode cL_law 774 = .ok (.iconst 2, 1) := by decide +kernel
theorem dL_law_775 : decode cL_law 775 = .ok (.iadd, 1) := by decide +kernel
theorem dL_law_776 : decode cL_law 776 = .ok (.iaload, 1) := by decide +kernel
theorem dL_law_777 : decode cL_law 777 = .ok (.invokevirtual 117, 3) := by decide +kernel
theorem dL_law_780 : decode cL_law 780 = .ok (.if_icmp .eq 88, 3) := by decide +kernel
theorem dL_law_783 : decode cL_law 783 = .ok (.iconst 0, 1) := by decide +kernel
theorem dL_law_784 : decode cL_law 784 = .ok (.ireturn, 1) := by decide +kernel
theorem dL_law_785 : decode cL_law 785 = .ok (.aload_n 1, 1) := by decide +kernel
theorem dL_law_786 : decode cL_law 786 = .ok (.aload_n 0, 1) := by decide +kernel
theorem dL_law_787 : decode cL_law 787 = .ok (.iload_n 3, 1) := by decide +kernel
theorem dL_law_788 : decode cL_law 788 = .ok (.iconst 1, 1) := by decide +kernel
theorem dL_law_789 : decode cL_law 789 = .ok (.iadd, 1) := by decide +kernel
theorem dL_law_790 : decode cL_law 790 = .ok (.iaload, 1) := by decide +kernel
theorem dL_law_791 : decode cL_law 791 = .ok (.invokevirtual 118, 3) := by decide +kernel
theorem dL_law_794 : decode cL_law 794 = .ok (.aload_n 2, 1) := by decide +kernel
theorem dL_law_795 : decode cL_law 795 = .ok (.aload_n 0, 1) := by decide +kernel
theorem dL_law_796 : decode cL_law 796 = .ok (.iload_n 3, 1) := by decide +kernel
theorem dL_law_797 : decode cL_law 797 = .ok (.iconst 1, 1) := by decide +kernel
theorem dL_law_798 : decode cL_law 798 = .ok (.iadd, 1) := by decide +kernel
theorem dL_law_799 : decode cL_law 799 = .ok (.iaload, 1) := by decide +kernel
theorem dL_law_800 : decode cL_law 800 = .ok (.invokevirtual 121, 3) := by decide +kernel
theorem dL_law_803 : decode cL_law 803 = .ok (.if_icmp .eq 65, 3) := by decide +kernel
theorem dL_law_806 : decode cL_law 806 = .ok (.iconst 0, 1) := by decide +kernel
theorem dL_law_807 : decode cL_law 807 = .ok (.ireturn, 1) := by decide +kernel
theorem dL_law_808 : decode cL_law 808 = .ok (.aload_n 1, 1) := by decide +kernel
theorem dL_law_809 : decode cL_law 809 = .ok (.aload_n 0, 1) := by decide +kernel
theorem dL_law_810 : decode cL_law 810 = .ok (.iload_n 3, 1) := by decide +kernel
theorem dL_law_811 : decode cL_law 811 = .ok (.iconst 1, 1) := by decide +kernel
theorem dL_law_812 : decode cL_law 812 = .ok (.iadd, 1) := by decide +kernel
theorem dL_law_813 : decode cL_law 813 = .ok (.iaload, 1) := by decide +kernel
theorem dL_law_814 : decode cL_law 814 = .ok (.invokevirtual 122, 3) := by decide +kernel
theorem dL_law_817 : decode cL_law 817 = .ok (.aload_n 2, 1) := by decide +kernel
theorem dL_law_818 : decode cL_law 818 = .ok (.aload_n 0, 1) := by decide +kernel
theorem dL_law_819 : decode cL_law 819 = .ok (.iload_n 3, 1) := by decide +kernel
theorem dL_law_820 : decode cL_law 820 = .ok (.iconst 1, 1) := by decide +kernel
theorem dL_law_821 : decode cL_law 821 = .ok (.iadd, 1) := by decide +kernel
theorem dL_law_822 : decode cL_law 822 = .ok (.iaload, 1) := by decide +kernel
theorem dL_law_823 : decode cL_law 823 = .ok (.invokevirtual 125, 3) := by decide +kernel
theorem dL_law_826 : decode cL_law 826 = .ok (.if_icmp .eq 42, 3) := by decide +kernel
theorem dL_law_829 : decode cL_law 829 = .ok (.iconst 0, 1) := by decide +kernel
theorem dL_law_830 : decode cL_law 830 = .ok (.ireturn, 1) := by decide +kernel
theorem dL_law_831 : decode cL_law 831 = .ok (.aload_n 1, 1) := by decide +kernel
theorem dL_law_832 : decode cL_law 832 = .ok (.aload_n 0, 1) := by decide +kernel
theorem dL_law_833 : decode cL_law 833 = .ok (.iload_n 3, 1) := by decide +kernel
theorem dL_law_834 : decode cL_law 834 = .ok (.iconst 1, 1) := by decide +kernel
theorem dL_law_835 : decode cL_law 835 = .ok (.iadd, 1) := by decide +kernel
theorem dL_law_836 : decode cL_law 836 = .ok (.iaload, 1) := by decide +kernel
theorem dL_law_837 : decode cL_law 837 = .ok (.invokevirtual 126, 3) := by decide +kernel
theorem dL_law_840 : decode cL_law 840 = .ok (.aload_n 2, 1) := by decide +kernel
theorem dL_law_841 : decode cL_law 841 = .ok (.aload_n 0, 1) := by decide +kernel
theorem dL_law_842 : decode cL_law 842 = .ok (.iload_n 3, 1) := by decide +kernel
theorem dL_law_843 : decode cL_law 843 = .ok (.iconst 1, 1) := by decide +kernel
theorem dL_law_844 : decode cL_law 844 = .ok (.iadd, 1) := by decide +kernel
theorem dL_law_845 : decode cL_law 845 = .ok (.iaload, 1) := by decide +kernel
theorem dL_law_846 : decode cL_law 846 = .ok (.invokevirtual 129, 3) := by decide +kernel
theorem dL_law_849 : decode cL_law 849 = .ok (.if_icmp .eq 19, 3) := by decide +kernel
theorem dL_law_852 : decode cL_law 852 = .ok (.iconst 0, 1) := by decide +kernel
theorem dL_law_853 : decode cL_law 853 = .ok (.ireturn, 1) := by decide +kernel
theorem dL_law_854 : decode cL_law 854 = .ok (.aload_n 1, 1) := by decide +kernel
theorem dL_law_855 : decode cL_law 855 = .ok (.invokevirtual 130, 3) := by decide +kernel
theorem dL_law_858 : decode cL_law 858 = .ok (.aload_n 2, 1) := by decide +kernel
theorem dL_law_859 : decode cL_law 859 = .ok (.invokevirtual 134, 3) := by decide +kernel
theorem dL_law_862 : decode cL_law 862 = .ok (.lcmp, 1) := by decide +kernel
theorem dL_law_863 : decode cL_law 863 = .ok (.ifCond .eq 5, 3) := by decide +kernel
theorem dL_law_866 : decode cL_law 866 = .ok (.iconst 0, 1) := by decide +kernel
theorem dL_law_867 : decode cL_law 867 = .ok (.ireturn, 1) := by decide +kernel
theorem dL_law_868 : decode cL_law 868 = .ok (.iinc 3 4, 3) := by decide +kernel
theorem dL_law_871 : decode cL_law 871 = .ok (.goto (-853), 3) := by decide +kernel
theorem dL_law_874 : decode cL_law 874 = .ok (.iconst 1, 1) := by decide +kernel
theorem dL_law_875 : decode cL_law 875 = .ok (.ireturn, 1) := by decide +kernel

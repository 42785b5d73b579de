theorem dX8_mixNote_68 : decode cX8_mixNote 68 = .ok (.getfield 127, 3) := by decide +kernel
theorem dX8_mixNote_71 : decode cX8_mixNote 71 = .ok (.invokestatic 226, 3) := by decide +kernel
theorem dX8_mixNote_74 : decode cX8_mixNote 74 = .ok (.lstore 4, 2) := by decide +kernel
theorem dX8_mixNote_76 : decode cX8_mixNote 76 = .ok (.lload 4, 2) := by decide +kernel
theorem dX8_mixNote_78 : decode cX8_mixNote 78 = .ok (.aload_n 3, 1) := by decide +kernel
theorem dX8_mixNote_79 : decode cX8_mixNote 79 = .ok (.getfield 189, 3) := by decide +kernel
theorem dX8_mixNote_82 : decode cX8_mixNote 82 = .ok (.invokestatic 226, 3) := by decide +kernel
theorem dX8_mixNote_85 : decode cX8_mixNote 85 = .ok (.lstore 4, 2) := by decide +kernel
theorem dX8_mixNote_87 : decode cX8_mixNote 87 = .ok (.aload_n 0, 1) := by decide +kernel
theorem dX8_mixNote_88 : decode cX8_mixNote 88 = .ok (.getfield 45, 3) := by decide +kernel
theorem dX8_mixNote_91 : decode cX8_mixNote 91 = .ok (.aload_n 3, 1) := by decide +kernel
theorem dX8_mixNote_92 : decode cX8_mixNote 92 = .ok (.aload_n 0, 1) := by decide +kernel
theorem dX8_mixNote_93 : decode cX8_mixNote 93 = .ok (.getfield 21, 3) := by decide +kernel
theorem dX8_mixNote_96 : decode cX8_mixNote 96 = .ok (.getfield 73, 3) := by decide +kernel
theorem dX8_mixNote_99 : decode cX8_mixNote 99 = .ok (.invokevirtual 130, 3) := by decide +kernel
theorem dX8_mixNote_102 : decode cX8_mixNote 102 = .ok (.lload 4, 2) := by decide +kernel
theorem dX8_mixNote_104 : decode cX8_mixNote 104 = .ok (.aload_n 0, 1) := by decide +kernel
theorem dX8_mixNote_105 : decode cX8_mixNote 105 = .ok (.getfield 45, 3) := by decide +kernel
theorem dX8_mixNote_108 : decode cX8_mixNote 108 = .ok (.getfield 134, 3) := by decide +kernel
theorem dX8_mixNote_111 : decode cX8_mixNote 111 = .ok (.invokestatic 222, 3) := by decide +kernel
theorem dX8_mixNote_114 : decode cX8_mixNote 114 = .ok (.lstore 4, 2) := by decide +kernel
theorem dX8_mixNote_116 : decode cX8_mixNote 116 = .ok (.lload 4, 2) := by decide +kernel
theorem dX8_mixNote_118 : decode cX8_mixNote 118 = .ok (.aload_n 0, 1) := by decide +kernel
theorem dX8_mixNote_119 : decode cX8_mixNote 119 = .ok (.getfield 45, 3) := by decide +kernel
theorem dX8_mixNote_122 : decode cX8_mixNote 122 = .ok (.getfield 137, 3) := by decide +kernel
theorem dX8_mixNote_125 : decode cX8_mixNote 125 = .ok (.invokestatic 222, 3) := by decide +kernel
theorem dX8_mixNote_128 : decode cX8_mixNote 128 = .ok (.lstore 4, 2) := by decide +kernel
theorem dX8_mixNote_130 : decode cX8_mixNote 130 = .ok (.lload 4, 2) := by decide +kernel
theorem dX8_mixNote_132 : decode cX8_mixNote 132 = .ok (.aload_n 0, 1) := by decide +kernel
theorem dX8_mixNote_133 : decode cX8_mixNote 133 = .ok (.getfield 45, 3) := by decide +kernel
theorem dX8_mixNote_136 : decode cX8_mixNote 136 = .ok (.getfield 140, 3) := by decide +kernel
theorem dX8_mixNote_139 : decode cX8_mixNote 139 = .ok (.invokestatic 222, 3) := by decide +kernel
theorem dX8_mixNote_142 : decode cX8_mixNote 142 = .ok (.lreturn, 1) := by decide +kernel
theorem dX8_mixText_0 : decode cX8_mixText 0 = .ok (.lload_n 0, 1) := by decide +kernel
theorem dX8_mixText_1 : decode cX8_mixText 1 = .ok (.lstore_n 3, 1) := by decide +kernel
theorem dX8_mixText_2 : decode cX8_mixText 2 = .ok (.iconst 0, 1) := by decide +kernel
theorem dX8_mixText_3 : decode cX8_mixText 3 = .ok (.istore 5, 2) := by decide +kernel
theorem dX8_mixText_5 : decode cX8_mixText 5 = .ok (.iload 5, 2) := by decide +kernel
theorem dX8_mixText_7 : decode cX8_mixText 7 = .ok (.aload_n 2, 1) := by decide +kernel
theorem dX8_mixText_8 : decode cX8_mixText 8 = .ok (.getfield 60, 3) := by decide +kernel
theorem dX8_mixText_11 : decode cX8_mixText 11 = .ok (.if_icmp .ge 20, 3) := by decide +kernel
theorem dX8_mixText_14 : decode cX8_mixText 14 = .ok (.lload_n 3, 1) := by decide +kernel
theorem dX8_mixText_15 : decode cX8_mixText 15 = .ok (.aload_n 2, 1) := by decide +kernel
theorem dX8_mixText_16 : decode cX8_mixText 16 = .ok (.iload 5, 2) := by decide +kernel
theorem dX8_mixText_18 : decode cX8_mixText 18 = .ok (.invokevirtual 173, 3) := by decide +kernel
theorem dX8_mixText_21 : decode cX8_mixText 21 = .ok (.invokestatic 222, 3) := by decide +kernel
theorem dX8_mixText_24 : decode cX8_mixText 24 = .ok (.lstore_n 3, 1) := by decide +kernel
theorem dX8_mixText_25 : decode cX8_mixText 25 = .ok (.iinc 5 1, 3) := by decide +kernel
theorem dX8_mixText_28 : decode cX8_mixText 28 = .ok (.goto (-23), 3) := by decide +kernel
theorem dX8_mixText_31 : decode cX8_mixText 31 = .ok (.lload_n 3, 1) := by decide +kernel
theorem dX8_mixText_32 : decode cX8_mixText 32 = .ok (.lreturn, 1) := by decide +kernel
theorem dX8_mix_0 : decode cX8_mix 0 = .ok (.ldc2_w 234, 3) := by decide +kernel
theorem dX8_mix_3 : decode cX8_mix 3 = .ok (.lload_n 0, 1) := by decide +kernel
theorem dX8_mix_4 : decode cX8_mix 4 = .ok (.lmul, 1) := by decide +kernel
theorem dX8_mix_5 : decode cX8_mix 5 = .ok (.iload_n 2, 1) := by decide +kernel
theorem dX8_mix_6 : decode cX8_mix 6 = .ok (.i2l, 1) := by decide +kernel
theorem dX8_mix_7 : decode cX8_mix 7 = .ok (.ladd, 1) := by decide +kernel
theorem dX8_mix_8 : decode cX8_mix 8 = .ok (.lreturn, 1) := by decide +kernel
theorem dX8_isPosition_0 : decode cX8_isPosition 0 = .ok (.iload_n 1, 1) := by decide +kernel
theorem dX8_isPosition_1 : decode cX8_isPosition 1 = .ok (.ifCond .lt 21, 3) := by decide +kernel
theorem dX8_isPosition_4 : decode cX8_isPosition 4 = .ok (.iload_n 1, 1) := by decide +kernel
theorem dX8_isPosition_5 : decode cX8_isPosition 5 = .ok (.aload_n 0, 1) := by decide +kernel
theorem dX8_isPosition_6 : decode cX8_isPosition 6 = .ok (.getfield 21, 3) := by decide +kernel
theorem dX8_isPosition_9 : decode cX8_isPosition 9 = .ok (.getfield 73, 3) := by decide +kernel
theorem dX8_isPosition_12 : decode cX8_isPosition 12 = .ok (.getfield 60, 3) := by decide +kernel
theorem dX8_isPosition_15 : decode cX8_isPosition 15 = .ok (.if_icmp .gt 7, 3) := by decide +kernel
theorem dX8_isPosition_18 : decode cX8_isPosition 18 = .ok (.iconst 1, 1) := by decide +kernel
theorem dX8_isPosition_19 : decode cX8_isPosition 19 = .ok (.goto 4, 3) := by decide +kernel
theorem dX8_isPosition_22 : decode cX8_isPosition 22 = .ok (.iconst 0, 1) := by decide +kernel
theorem dX8_isPosition_23 : decode cX8_isPosition 23 = .ok (.ireturn, 1) := by decide +kernel
theorem dX8_isLetterIndex_0 : decode cX8_isLetterIndex 0 = .ok (.iload_n 1, 1) := by decide +kernel
theorem dX8_isLetterIndex_1 : decode cX8_isLetterIndex 1 = .ok (.ifCond .lt 21, 3) := by decide +kernel
theorem dX8_isLetterIndex_4 : decode cX8_isLetterIndex 4 = .ok (.iload_n 1, 1) := by decide +kernel
theorem dX8_isLetterIndex_5 : decode cX8_isLetterIndex 5 = .ok (.aload_n 0, 1) := by decide +kernel
theorem dX8_isLetterIndex_6 : decode cX8_isLetterIndex 6 = .ok (.getfield 21, 3) := by decide +kernel
theorem dX8_isLetterIndex_9 : decode cX8_isLetterIndex 9 = .ok (.getfield 73, 3) := by decide +kernel
theorem dX8_isLetterIndex_12 : decode cX8_isLetterIndex 12 = .ok (.getfield 60, 3) := by decide +kernel
theorem dX8_isLetterIndex_15 : decode cX8_isLetterIndex 15 = .ok (.if_icmp .ge 7, 3) := by decide +kernel
theorem dX8_isLetterIndex_18 : decode cX8_isLetterIndex 18 = .ok (.iconst 1, 1) := by decide +kernel
theorem dX8_isLetterIndex_19 : decode cX8_isLetterIndex 19 = .ok (.goto 4, 3) := by decide +kernel
theorem dX8_isLetterIndex_22 : decode cX8_isLetterIndex 22 = .ok (.iconst 0, 1) := by decide +kernel
theorem dX8_isLetterIndex_23 : decode cX8_isLetterIndex 23 = .ok (.ireturn, 1) := by decide +kernel
theorem dX8_isRange_0 : decode cX8_isRange 0 = .ok (.iload_n 2, 1) := by decide +kernel
theorem dX8_isRange_1 : decode cX8_isRange 1 = .ok (.iload_n 1, 1) := by decide +kernel
theorem dX8_isRange_2 : decode cX8_isRange 2 = .ok (.if_icmp .le 28, 3) := by decide +kernel
theorem dX8_isRange_5 : decode cX8_isRange 5 = .ok (.iload_n 2, 1) := by decide +kernel
theorem dX8_isRange_6 : decode cX8_isRange 6 = .ok (.aload_n 0, 1) := by decide +kernel
theorem dX8_isRange_7 : decode cX8_isRange 7 = .ok (.getfield 21, 3) := by decide +kernel
theorem dX8_isRange_10 : decode cX8_isRange 10 = .ok (.getfield 73, 3) := by decide +kernel
theorem dX8_isRange_13 : decode cX8_isRange 13 = .ok (.getfield 60, 3) := by decide +kernel
theorem dX8_isRange_16 : decode cX8_isRange 16 = .ok (.if_icmp .gt 14, 3) := by decide +kernel
theorem dX8_isRange_19 : decode cX8_isRange 19 = .ok (.iload_n 2, 1) := by decide +kernel
theorem dX8_isRange_20 : decode cX8_isRange 20 = .ok (.iload_n 1, 1) := by decide +kernel
theorem dX8_isRange_21 : decode cX8_isRange 21 = .ok (.isub, 1) := by decide +kernel
theorem dX8_isRange_22 : decode cX8_isRange 22 = .ok (.iload_n 3, 1) := by decide +kernel
theorem dX8_isRange_23 : decode cX8_isRange 23 = .ok (.if_icmp .gt 7, 3) := by decide +kernel
theorem dX8_isRange_26 : decode cX8_isRange 26 = .ok (.iconst 1, 1) := by decide +kernel
theorem dX8_isRange_27 : decode cX8_isRange 27 = .ok (.goto 4, 3) := by decide +kernel
theorem dX8_isRange_30 : decode cX8_isRange 30 = .ok (.iconst 0, 1) := by decide +kernel
theorem dX8_isRange_31 : decode cX8_isRange 31 = .ok (.ireturn, 1) := by decide +kernel
theorem dJ9_abs_0f7a4_0 : decode cJ9_abs_0f7a4 0 = .ok (.iload_n 0, 1) := by decide +kernel
theorem dJ9_abs_0f7a4_1 : decode cJ9_abs_0f7a4 1 = .ok (.ifCond .ge 8, 3) := by decide +kernel
theorem dJ9_abs_0f7a4_4 : decode cJ9_abs_0f7a4 4 = .ok (.iload_n 0, 1) := by decide +kernel
theorem dJ9_abs_0f7a4_5 : decode cJ9_abs_0f7a4 5 = .ok (.ineg, 1) := by decide +kernel
theorem dJ9_abs_0f7a4_6 : decode cJ9_abs_0f7a4 6 = .ok (.goto 4, 3) := by decide +kernel
theorem dJ9_abs_0f7a4_9 : decode cJ9_abs_0f7a4 9 = .ok (.iload_n 0, 1) := by decide +kernel
theorem dJ9_abs_0f7a4_10 : decode cJ9_abs_0f7a4 10 = .ok (.ireturn, 1) := by decide +kernel
theorem dJ9_max_7cf53_0 : decode cJ9_max_7cf53 0 = .ok (.iload_n 0, 1) := by decide +kernel
theorem dJ9_max_7cf53_1 : decode cJ9_max_7cf53 1 = .ok (.iload_n 1, 1) := by decide +kernel
theorem dJ9_max_7cf53_2 : decode cJ9_max_7cf53 2 = .ok (.if_icmp .lt 7, 3) := by decide +kernel
theorem dJ9_max_7cf53_5 : decode cJ9_max_7cf53 5 = .ok (.iload_n 0, 1) := by decide +kernel
theorem dJ9_max_7cf53_6 : decode cJ9_max_7cf53 6 = .ok (.goto 4, 3) := by decide +kernel
theorem dJ9_max_7cf53_9 : decode cJ9_max_7cf53 9 = .ok (.iload_n 1, 1) := by decide +kernel
theorem dJ9_max_7cf53_10 : decode cJ9_max_7cf53 10 = .ok (.ireturn, 1) := by decide +kernel
theorem dJ9_min_7cf53_0 : decode cJ9_min_7cf53 0 = .ok (.iload_n 0, 1) := by decide +kernel
theorem dJ9_min_7cf53_1 : decode cJ9_min_7cf53 1 = .ok (.iload_n 1, 1) := by decide +kernel
theorem dJ9_min_7cf53_2 : decode cJ9_min_7cf53 2 = .ok (.if_icmp .gt 7, 3) := by decide +kernel
theorem dJ9_min_7cf53_5 : decode cJ9_min_7cf53 5 = .ok (.iload_n 0, 1) := by decide +kernel
theorem dJ9_min_7cf53_6 : decode cJ9_min_7cf53 6 = .ok (.goto 4, 3) := by decide +kernel
theorem dJ9_min_7cf53_9 : decode cJ9_min_7cf53 9 = .ok (.iload_n 1, 1) := by decide +kernel
theorem dJ9_min_7cf53_10 : decode cJ9_min_7cf53 10 = .ok (.ireturn, 1) := by decide +kernel
theorem dL_cell_0 : decode cL_cell 0 = .ok (.iload_n 1, 1) := by decide +kernel
theorem dL_cell_1 : decode cL_cell 1 = .ok (.aload_n 0, 1) := by decide +kernel
theorem dL_cell_2 : decode cL_cell 2 = .ok (.arraylength, 1) := by decide +kernel
theorem dL_cell_3 : decode cL_cell 3 = .ok (.if_icmp .ge 9, 3) := by decide +kernel
theorem dL_cell_6 : decode cL_cell 6 = .ok (.aload_n 0, 1) := by decide +kernel
theorem dL_cell_7 : decode cL_cell 7 = .ok (.iload_n 1, 1) := by decide +kernel
theorem dL_cell_8 : decode cL_cell 8 = .ok (.iaload, 1) := by decide +kernel
theorem dL_cell_9 : decode cL_cell 9 = .ok (.goto 11, 3) := by decide +kernel
theorem dL_cell_12 : decode cL_cell 12 = .ok (.ldc 7, 2) := by decide +kernel
theorem dL_cell_14 : decode cL_cell 14 = .ok (.iload_n 1, 1) := by decide +kernel
theorem dL_cell_15 : decode cL_cell 15 = .ok (.imul, 1) := by decide +kernel
theorem dL_cell_16 : decode cL_cell 16 = .ok (.sipush 283, 3) := by decide +kernel
theorem dL_cell_19 : decode cL_cell 19 = .ok (.iadd, 1) := by decide +kernel
theorem dL_cell_20 : decode cL_cell 20 = .ok (.ldc 8, 2) := by decide +kernel
theorem dL_cell_22 : decode cL_cell 22 = .ok (.iand, 1) := by decide +kernel
theorem dL_cell_23 : decode cL_cell 23 = .ok (.ireturn, 1) := by decide +kernel
theorem dL_sign_0 : decode cL_sign 0 = .ok (.bipush 97, 2) := by decide +kernel
theorem dL_sign_2 : decode cL_sign 2 = .ok (.iload_n 0, 1) := by decide +kernel
theorem dL_sign_3 : decode cL_sign 3 = .ok (.ldc 8, 2) := by decide +kernel
theorem dL_sign_5 : decode cL_sign 5 = .ok (.iand, 1) := by decide +kernel
theorem dL_sign_6 : decode cL_sign 6 = .ok (.iconst 3, 1) := by decide +kernel
theorem dL_sign_7 : decode cL_sign 7 = .ok (.irem, 1) := by decide +kernel
theorem dL_sign_8 : decode cL_sign 8 = .ok (.iadd, 1) := by decide +kernel
theorem dL_sign_9 : decode cL_sign 9 = .ok (.ireturn, 1) := by decide +kernel
theorem dL_buffers_0 : decode cL_buffers 0 = .ok (.aload_n 0, 1) := by decide +kernel
theorem dL_buffers_1 : decode cL_buffers 1 = .ok (.invokevirtual 9, 3) := by decide +kernel
theorem dL_buffers_4 : decode cL_buffers 4 = .ok (.pop, 1) := by decide +kernel
theorem dL_buffers_5 : decode cL_buffers 5 = .ok (.iconst 0, 1) := by decide +kernel
theorem dL_buffers_6 : decode cL_buffers 6 = .ok (.istore_n 3, 1) := by decide +kernel
theorem dL_buffers_7 : decode cL_buffers 7 = .ok (.iload_n 3, 1) := by decide +kernel
theorem dL_buffers_8 : decode cL_buffers 8 = .ok (.iload_n 2, 1) := by decide +kernel
theorem dL_buffers_9 : decode cL_buffers 9 = .ok (.if_icmp .ge 27, 3) := by decide +kernel
theorem dL_buffers_12 : decode cL_buffers 12 = .ok (.aload_n 0, 1) := by decide +kernel
theorem dL_buffers_13 : decode cL_buffers 13 = .ok (.iload_n 1, 1) := by decide +kernel
theorem dL_buffers_14 : decode cL_buffers 14 = .ok (.iload_n 3, 1) := by decide +kernel
theorem dL_buffers_15 : decode cL_buffers 15 = .ok (.ishr, 1) := by decide +kernel
theorem dL_buffers_16 : decode cL_buffers 16 = .ok (.iload_n 1, 1) := by decide +kernel
theorem dL_buffers_17 : decode cL_buffers 17 = .ok (.iload_n 3, 1) := by decide +kernel
theorem dL_buffers_18 : decode cL_buffers 18 = .ok (.bipush 7, 2) := by decide +kernel
theorem dL_buffers_20 : decode cL_buffers 20 = .ok (.iadd, 1) := by decide +kernel
theorem dL_buffers_21 : decode cL_buffers 21 = .ok (.ishr, 1) := by decide +kernel
theorem dL_buffers_22 : decode cL_buffers 22 = .ok (.ixor, 1) := by decide +kernel
theorem dL_buffers_23 : decode cL_buffers 23 = .ok (.invokestatic 15, 3) := by decide +kernel
theorem dL_buffers_26 : decode cL_buffers 26 = .ok (.invokevirtual 21, 3) := by decide +kernel
theorem dL_buffers_29 : decode cL_buffers 29 = .ok (.pop, 1) := by decide +kernel
theorem dL_buffers_30 : decode cL_buffers 30 = .ok (.iinc 3 1, 3) := by decide +kernel
theorem dL_buffers_33 : decode cL_buffers 33 = .ok (.goto (-26), 3) := by decide +kernel
theorem dL_buffers_36 : decode cL_buffers 36 = .ok (.return_, 1) := by decide +kernel
theorem dL_sound_0 : decode cL_sound 0 = .ok (.aload_n 0, 1) := by decide +kernel
theorem dL_sound_1 : decode cL_sound 1 = .ok (.invokevirtual 24, 3) := by decide +kernel
theorem dL_sound_4 : decode cL_sound 4 = .ok (.ifCond .lt 50, 3) := by decide +kernel
theorem dL_sound_7 : decode cL_sound 7 = .ok (.aload_n 0, 1) := by decide +kernel
theorem dL_sound_8 : decode cL_sound 8 = .ok (.invokevirtual 24, 3) := by decide +kernel
theorem dL_sound_11 : decode cL_sound 11 = .ok (.bipush 120, 2) := by decide +kernel
theorem dL_sound_13 : decode cL_sound 13 = .ok (.if_icmp .gt 41, 3) := by decide +kernel
theorem dL_sound_16 : decode cL_sound 16 = .ok (.aload_n 0, 1) := by decide +kernel
theorem dL_sound_17 : decode cL_sound 17 = .ok (.invokevirtual 27, 3) := by decide +kernel
theorem dL_sound_20 : decode cL_sound 20 = .ok (.bipush 10, 2) := by decide +kernel
theorem dL_sound_22 : decode cL_sound 22 = .ok (.if_icmp .gt 32, 3) := by decide +kernel
theorem dL_sound_25 : decode cL_sound 25 = .ok (.aload_n 0, 1) := by decide +kernel
theorem dL_sound_26 : decode cL_sound 26 = .ok (.aload_n 0, 1) := by decide +kernel
theorem dL_sound_27 : decode cL_sound 27 = .ok (.invokevirtual 27, 3) := by decide +kernel
theorem dL_sound_30 : decode cL_sound 30 = .ok (.invokevirtual 30, 3) := by decide +kernel
theorem dL_sound_33 : decode cL_sound 33 = .ok (.sipush (-1001), 3) := by decide +kernel
theorem dL_sound_36 : decode cL_sound 36 = .ok (.if_icmp .ne 18, 3) := by decide +kernel
theorem dL_sound_39 : decode cL_sound 39 = .ok (.aload_n 0, 1) := by decide +kernel
theorem dL_sound_40 : decode cL_sound 40 = .ok (.iconst (-1), 1) := by decide +kernel
theorem dL_sound_41 : decode cL_sound 41 = .ok (.invokevirtual 30, 3) := by decide +kernel
theorem dL_sound_44 : decode cL_sound 44 = .ok (.sipush (-1001), 3) := by decide +kernel
theorem dL_sound_47 : decode cL_sound 47 = .ok (.if_icmp .ne 7, 3) := by decide +kernel
theorem dL_sound_50 : decode cL_sound 50 = .ok (.iconst 1, 1) := by decide +kernel
theorem dL_sound_51 : decode cL_sound 51 = .ok (.goto 4, 3) := by decide +kernel
theorem dL_sound_54 : decode cL_sound 54 = .ok (.iconst 0, 1) := by decide +kernel
theorem dL_sound_55 : decode cL_sound 55 = .ok (.istore_n 2, 1) := by decide +kernel
theorem dL_sound_56 : decode cL_sound 56 = .ok (.iconst 0, 1) := by decide +kernel
theorem dL_sound_57 : decode cL_sound 57 = .ok (.istore_n 3, 1) := by decide +kernel
theorem dL_sound_58 : decode cL_sound 58 = .ok (.iload_n 3, 1) := by decide +kernel
theorem dL_sound_59 : decode cL_sound 59 = .ok (.aload_n 0, 1) := by decide +kernel
theorem dL_sound_60 : decode cL_sound 60 = .ok (.invokevirtual 27, 3) := by decide +kernel
theorem dL_sound_63 : decode cL_sound 63 = .ok (.if_icmp .ge 364, 3) := by decide +kernel
theorem dL_sound_66 : decode cL_sound 66 = .ok (.iload_n 2, 1) := by decide +kernel
theorem dL_sound_67 : decode cL_sound 67 = .ok (.ifCond .eq 360, 3) := by decide +kernel
theorem dL_sound_70 : decode cL_sound 70 = .ok (.aload_n 0, 1) := by decide +kernel
theorem dL_sound_71 : decode cL_sound 71 = .ok (.iload_n 3, 1) := by decide +kernel
theorem dL_sound_72 : decode cL_sound 72 = .ok (.invokevirtual 30, 3) := by decide +kernel
theorem dL_sound_75 : decode cL_sound 75 = .ok (.istore 4, 2) := by decide +kernel
theorem dL_sound_77 : decode cL_sound 77 = .ok (.aload_n 0, 1) := by decide +kernel
theorem dL_sound_78 : decode cL_sound 78 = .ok (.iload 4, 2) := by decide +kernel
theorem dL_sound_80 : decode cL_sound 80 = .ok (.iconst 0, 1) := by decide +kernel
theorem dL_sound_81 : decode cL_sound 81 = .ok (.invokevirtual 33, 3) := by decide +kernel
theorem dL_sound_84 : decode cL_sound 84 = .ok (.istore 5, 2) := by decide +kernel
theorem dL_sound_86 : decode cL_sound 86 = .ok (.aload_n 0, 1) := by decide +kernel
theorem dL_sound_87 : decode cL_sound 87 = .ok (.iload 4, 2) := by decide +kernel
theorem dL_sound_89 : decode cL_sound 89 = .ok (.iconst 1, 1) := by decide +kernel
theorem dL_sound_90 : decode cL_sound 90 = .ok (.invokevirtual 33, 3) := by decide +kernel
theorem dL_sound_93 : decode cL_sound 93 = .ok (.istore 6, 2) := by decide +kernel
theorem dL_sound_95 : decode cL_sound 95 = .ok (.iload_n 3, 1) := by decide +kernel
theorem dL_sound_96 : decode cL_sound 96 = .ok (.ifCond .eq 15, 3) := by decide +kernel
theorem dL_sound_99 : decode cL_sound 99 = .ok (.aload_n 0, 1) := by decide +kernel
theorem dL_sound_100 : decode cL_sound 100 = .ok (.iload_n 3, 1) := by decide +kernel
theorem dL_sound_101 : decode cL_sound 101 = .ok (.iconst 1, 1) := by decide +kernel
theorem dL_sound_102 : decode cL_sound 102 = .ok (.isub, 1) := by decide +kernel
theorem dL_sound_103 : decode cL_sound 103 = .ok (.invokevirtual 30, 3) := by decide +kernel
theorem dL_sound_106 : decode cL_sound 106 = .ok (.iload 4, 2) := by decide +kernel
theorem dL_sound_108 : decode cL_sound 108 = .ok (.if_icmp .ge 83, 3) := by decide +kernel
theorem dL_sound_111 : decode cL_sound 111 = .ok (.iload 5, 2) := by decide +kernel
theorem dL_sound_113 : decode cL_sound 113 = .ok (.ifCond .lt 78, 3) := by decide +kernel
theorem dL_sound_116 : decode cL_sound 116 = .ok (.iload 5, 2) := by decide +kernel
theorem dL_sound_118 : decode cL_sound 118 = .ok (.iload 6, 2) := by decide +kernel
theorem dL_sound_120 : decode cL_sound 120 = .ok (.if_icmp .gt 71, 3) := by decide +kernel
theorem dL_sound_123 : decode cL_sound 123 = .ok (.iload 6, 2) := by decide +kernel
theorem dL_sound_125 : decode cL_sound 125 = .ok (.aload_n 0, 1) := by decide +kernel
theorem dL_sound_126 : decode cL_sound 126 = .ok (.invokevirtual 24, 3) := by decide +kernel
theorem dL_sound_129 : decode cL_sound 129 = .ok (.if_icmp .gt 62, 3) := by decide +kernel
theorem dL_sound_132 : decode cL_sound 132 = .ok (.aload_n 0, 1) := by decide +kernel
theorem dL_sound_133 : decode cL_sound 133 = .ok (.iload 4, 2) := by decide +kernel
theorem dL_sound_135 : decode cL_sound 135 = .ok (.invokevirtual 37, 3) := by decide +kernel
theorem dL_sound_138 : decode cL_sound 138 = .ok (.ifCond .eq 10, 3) := by decide +kernel
theorem dL_sound_141 : decode cL_sound 141 = .ok (.iload 5, 2) := by decide +kernel
theorem dL_sound_143 : decode cL_sound 143 = .ok (.iload 6, 2) := by decide +kernel
theorem dL_sound_145 : decode cL_sound 145 = .ok (.if_icmp .ge 46, 3) := by decide +kernel
theorem dL_sound_148 : decode cL_sound 148 = .ok (.aload_n 0, 1) := by decide +kernel
theorem dL_sound_149 : decode cL_sound 149 = .ok (.iload 4, 2) := by decide +kernel
theorem dL_sound_151 : decode cL_sound 151 = .ok (.invokevirtual 40, 3) := by decide +kernel
theorem dL_sound_154 : decode cL_sound 154 = .ok (.ifCond .le 37, 3) := by decide +kernel
theorem dL_sound_157 : decode cL_sound 157 = .ok (.aload_n 0, 1) := by decide +kernel
theorem dL_sound_158 : decode cL_sound 158 = .ok (.iload 4, 2) := by decide +kernel
theorem dL_sound_160 : decode cL_sound 160 = .ok (.iconst 3, 1) := by decide +kernel
theorem dL_sound_161 : decode cL_sound 161 = .ok (.iconst 0, 1) := by decide +kernel
theorem dL_sound_162 : decode cL_sound 162 = .ok (.invokevirtual 43, 3) := by decide +kernel
theorem dL_sound_165 : decode cL_sound 165 = .ok (.sipush (-1002), 3) := by decide +kernel
theorem dL_sound_168 : decode cL_sound 168 = .ok (.if_icmp .ne 23, 3) := by decide +kernel
theorem dL_sound_171 : decode cL_sound 171 = .ok (.aload_n 0, 1) := by decide +kernel
theorem dL_sound_172 : decode cL_sound 172 = .ok (.iload 4, 2) := by decide +kernel
theorem dL_sound_174 : decode cL_sound 174 = .ok (.iload 4, 2) := by decide +kernel
theorem dL_sound_176 : decode cL_sound 176 = .ok (.invokevirtual 47, 3) := by decide +kernel
theorem dL_sound_179 : decode cL_sound 179 = .ok (.iload 6, 2) := by decide +kernel
theorem dL_sound_181 : decode cL_sound 181 = .ok (.iload 5, 2) := by decide +kernel
theorem dL_sound_183 : decode cL_sound 183 = .ok (.isub, 1) := by decide +kernel
theorem dL_sound_184 : decode cL_sound 184 = .ok (.if_icmp .ne 7, 3) := by decide +kernel
theorem dL_sound_187 : decode cL_sound 187 = .ok (.iconst 1, 1) := by decide +kernel
theorem dL_sound_188 : decode cL_sound 188 = .ok (.goto 4, 3) := by decide +kernel
theorem dL_sound_191 : decode cL_sound 191 = .ok (.iconst 0, 1) := by decide +kernel
theorem dL_sound_192 : decode cL_sound 192 = .ok (.istore_n 2, 1) := by decide +kernel
theorem dL_sound_193 : decode cL_sound 193 = .ok (.aload_n 0, 1) := by decide +kernel
theorem dL_sound_194 : decode cL_sound 194 = .ok (.iload 4, 2) := by decide +kernel
theorem dL_sound_196 : decode cL_sound 196 = .ok (.iconst 0, 1) := by decide +kernel
theorem dL_sound_197 : decode cL_sound 197 = .ok (.invokevirtual 51, 3) := by decide +kernel
theorem dL_sound_200 : decode cL_sound 200 = .ok (.istore 7, 2) := by decide +kernel
theorem dL_sound_202 : decode cL_sound 202 = .ok (.aload_n 0, 1) := by decide +kernel
theorem dL_sound_203 : decode cL_sound 203 = .ok (.invokevirtual 24, 3) := by decide +kernel
theorem dL_sound_206 : decode cL_sound 206 = .ok (.ifCond .le 15, 3) := by decide +kernel
theorem dL_sound_209 : decode cL_sound 209 = .ok (.iload 7, 2) := by decide +kernel
theorem dL_sound_211 : decode cL_sound 211 = .ok (.sipush (-1005), 3) := by decide +kernel
theorem dL_sound_214 : decode cL_sound 214 = .ok (.if_icmp .eq 7, 3) := by decide +kernel
theorem dL_sound_217 : decode cL_sound 217 = .ok (.iconst 1, 1) := by decide +kernel
theorem dL_sound_218 : decode cL_sound 218 = .ok (.goto 4, 3) := by decide +kernel
theorem dL_sound_221 : decode cL_sound 221 = .ok (.iconst 0, 1) := by decide +kernel
theorem dL_sound_222 : decode cL_sound 222 = .ok (.istore 8, 2) := by decide +kernel
theorem dL_sound_224 : decode cL_sound 224 = .ok (.iload_n 2, 1) := by decide +kernel
theorem dL_sound_225 : decode cL_sound 225 = .ok (.ifCond .eq 97, 3) := by decide +kernel
theorem dL_sound_228 : decode cL_sound 228 = .ok (.iload 8, 2) := by decide +kernel
theorem dL_sound_230 : decode cL_sound 230 = .ok (.ifCond .eq 92, 3) := by decide +kernel
theorem dL_sound_233 : decode cL_sound 233 = .ok (.aload_n 0, 1) := by decide +kernel
theorem dL_sound_234 : decode cL_sound 234 = .ok (.iload 4, 2) := by decide +kernel
theorem dL_sound_236 : decode cL_sound 236 = .ok (.iconst 1, 1) := by decide +kernel
theorem dL_sound_237 : decode cL_sound 237 = .ok (.invokevirtual 51, 3) := by decide +kernel
theorem dL_sound_240 : decode cL_sound 240 = .ok (.istore 9, 2) := by decide +kernel
theorem dL_sound_242 : decode cL_sound 242 = .ok (.aload_n 0, 1) := by decide +kernel
theorem dL_sound_243 : decode cL_sound 243 = .ok (.iload 4, 2) := by decide +kernel
theorem dL_sound_245 : decode cL_sound 245 = .ok (.iconst 2, 1) := by decide +kernel
theorem dL_sound_246 : decode cL_sound 246 = .ok (.invokevirtual 51, 3) := by decide +kernel
theorem dL_sound_249 : decode cL_sound 249 = .ok (.istore 10, 2) := by decide +kernel
theorem dL_sound_251 : decode cL_sound 251 = .ok (.iload 7, 2) := by decide +kernel
theorem dL_sound_253 : decode cL_sound 253 = .ok (.bipush 108, 2) := by decide +kernel
theorem dL_sound_255 : decode cL_sound 255 = .ok (.if_icmp .gt 65, 3) := by decide +kernel
theorem dL_sound_258 : decode cL_sound 258 = .ok (.aload_n 0, 1) := by decide +kernel
theorem dL_sound_259 : decode cL_sound 259 = .ok (.iload 4, 2) := by decide +kernel
theorem dL_sound_261 : decode cL_sound 261 = .ok (.iload 9, 2) := by decide +kernel
theorem dL_sound_263 : decode cL_sound 263 = .ok (.iload 10, 2) := by decide +kernel
theorem dL_sound_265 : decode cL_sound 265 = .ok (.invokevirtual 54, 3) := by decide +kernel
theorem dL_sound_268 : decode cL_sound 268 = .ok (.iload 7, 2) := by decide +kernel
theorem dL_sound_270 : decode cL_sound 270 = .ok (.if_icmp .ne 50, 3) := by decide +kernel
theorem dL_sound_273 : decode cL_sound 273 = .ok (.aload_n 0, 1) := by decide +kernel
theorem dL_sound_274 : decode cL_sound 274 = .ok (.iload 4, 2) := by decide +kernel
theorem dL_sound_276 : decode cL_sound 276 = .ok (.invokevirtual 37, 3) := by decide +kernel
theorem dL_sound_279 : decode cL_sound 279 = .ok (.ifCond .eq 37, 3) := by decide +kernel
theorem dL_sound_282 : decode cL_sound 282 = .ok (.iload 6, 2) := by decide +kernel
theorem dL_sound_284 : decode cL_sound 284 = .ok (.iload 5, 2) := by decide +kernel
theorem dL_sound_286 : decode cL_sound 286 = .ok (.isub, 1) := by decide +kernel
theorem dL_sound_287 : decode cL_sound 287 = .ok (.iconst 4, 1) := by decide +kernel
theorem dL_sound_288 : decode cL_sound 288 = .ok (.if_icmp .gt 28, 3) := by decide +kernel
theorem dL_sound_291 : decode cL_sound 291 = .ok (.aload_n 0, 1) := by decide +kernel
theorem dL_sound_292 : decode cL_sound 292 = .ok (.iload 4, 2) := by decide +kernel
theorem dL_sound_294 : decode cL_sound 294 = .ok (.iload 5, 2) := by decide +kernel
theorem dL_sound_296 : decode cL_sound 296 = .ok (.iload 6, 2) := by decide +kernel
theorem dL_sound_298 : decode cL_sound 298 = .ok (.invokevirtual 54, 3) := by decide +kernel
theorem dL_sound_301 : decode cL_sound 301 = .ok (.iload 7, 2) := by decide +kernel
theorem dL_sound_303 : decode cL_sound 303 = .ok (.if_icmp .le 13, 3) := by decide +kernel
theorem dL_sound_306 : decode cL_sound 306 = .ok (.aload_n 0, 1) := by decide +kernel
theorem dL_sound_307 : decode cL_sound 307 = .ok (.iload 4, 2) := by decide +kernel
theorem dL_sound_309 : decode cL_sound 309 = .ok (.invokevirtual 57, 3) := by decide +kernel
theorem dL_sound_312 : decode cL_sound 312 = .ok (.iconst 3, 1) := by decide +kernel
theorem dL_sound_313 : decode cL_sound 313 = .ok (.if_icmp .le 7, 3) := by decide +kernel
theorem dL_sound_316 : decode cL_sound 316 = .ok (.iconst 1, 1) := by decide +kernel
theorem dL_sound_317 : decode cL_sound 317 = .ok (.goto 4, 3) := by decide +kernel
theorem dL_sound_320 : decode cL_sound 320 = .ok (.iconst 0, 1) := by decide +kernel
theorem dL_sound_321 : decode cL_sound 321 = .ok (.istore_n 2, 1) := by decide +kernel
theorem dL_sound_322 : decode cL_sound 322 = .ok (.iload_n 2, 1) := by decide +kernel
theorem dL_sound_323 : decode cL_sound 323 = .ok (.ifCond .eq 98, 3) := by decide +kernel
theorem dL_sound_326 : decode cL_sound 326 = .ok (.aload_n 0, 1) := by decide +kernel
theorem dL_sound_327 : decode cL_sound 327 = .ok (.iload 4, 2) := by decide +kernel
theorem dL_sound_329 : decode cL_sound 329 = .ok (.invokevirtual 37, 3) := by decide +kernel
theorem dL_sound_332 : decode cL_sound 332 = .ok (.iconst 1, 1) := by decide +kernel
theorem dL_sound_333 : decode cL_sound 333 = .ok (.if_icmp .ne 88, 3) := by decide +kernel
theorem dL_sound_336 : decode cL_sound 336 = .ok (.aload_n 0, 1) := by decide +kernel
theorem dL_sound_337 : decode cL_sound 337 = .ok (.iload 4, 2) := by decide +kernel
theorem dL_sound_339 : decode cL_sound 339 = .ok (.invokevirtual 57, 3) := by decide +kernel
theorem dL_sound_342 : decode cL_sound 342 = .ok (.ifCond .ne 79, 3) := by decide +kernel
theorem dL_sound_345 : decode cL_sound 345 = .ok (.aload_n 0, 1) := by decide +kernel
theorem dL_sound_346 : decode cL_sound 346 = .ok (.iload 4, 2) := by decide +kernel
theorem dL_sound_348 : decode cL_sound 348 = .ok (.iload 5, 2) := by decide +kernel
theorem dL_sound_350 : decode cL_sound 350 = .ok (.iload 6, 2) := by decide +kernel
theorem dL_sound_352 : decode cL_sound 352 = .ok (.invokevirtual 54, 3) := by decide +kernel
theorem dL_sound_355 : decode cL_sound 355 = .ok (.bipush 60, 2) := by decide +kernel
theorem dL_sound_357 : decode cL_sound 357 = .ok (.if_icmp .lt 14, 3) := by decide +kernel
theorem dL_sound_360 : decode cL_sound 360 = .ok (.iload 7, 2) := by decide +kernel
theorem dL_sound_362 : decode cL_sound 362 = .ok (.bipush 60, 2) := by decide +kernel
theorem dL_sound_364 : decode cL_sound 364 = .ok (.if_icmp .lt 7, 3) := by decide +kernel
theorem dL_sound_367 : decode cL_sound 367 = .ok (.iconst 1, 1) := by decide +kernel
theorem dL_sound_368 : decode cL_sound 368 = .ok (.goto 4, 3) := by decide +kernel
theorem dL_sound_371 : decode cL_sound 371 = .ok (.iconst 0, 1) := by decide +kernel
theorem dL_sound_372 : decode cL_sound 372 = .ok (.istore_n 2, 1) := by decide +kernel
theorem dL_sound_373 : decode cL_sound 373 = .ok (.iload 5, 2) := by decide +kernel
theorem dL_sound_375 : decode cL_sound 375 = .ok (.istore 9, 2) := by decide +kernel
theorem dL_sound_377 : decode cL_sound 377 = .ok (.iload 9, 2) := by decide +kernel
theorem dL_sound_379 : decode cL_sound 379 = .ok (.iload 6, 2) := by decide +kernel
theorem dL_sound_381 : decode cL_sound 381 = .ok (.if_icmp .ge 40, 3) := by decide +kernel
theorem dL_sound_384 : decode cL_sound 384 = .ok (.iload_n 2, 1) := by decide +kernel
theorem dL_sound_385 : decode cL_sound 385 = .ok (.ifCond .eq 28, 3) := by decide +kernel
theorem dL_sound_388 : decode cL_sound 388 = .ok (.aload_n 0, 1) := by decide +kernel
theorem dL_sound_389 : decode cL_sound 389 = .ok (.iload 4, 2) := by decide +kernel
theorem dL_sound_391 : decode cL_sound 391 = .ok (.iconst 1, 1) := by decide +kernel
theorem dL_sound_392 : decode cL_sound 392 = .ok (.iload 9, 2) := by decide +kernel
theorem dL_sound_394 : decode cL_sound 394 = .ok (.iload 5, 2) := by decide +kernel
theorem dL_sound_396 : decode cL_sound 396 = .ok (.isub, 1) := by decide +kernel
theorem dL_sound_397 : decode cL_sound 397 = .ok (.invokevirtual 43, 3) := by decide +kernel
theorem dL_sound_400 : decode cL_sound 400 = .ok (.aload_n 0, 1) := by decide +kernel
theorem dL_sound_401 : decode cL_sound 401 = .ok (.iload 9, 2) := by decide +kernel
theorem dL_sound_403 : decode cL_sound 403 = .ok (.invokevirtual 60, 3) := by decide +kernel
theorem dL_sound_406 : decode cL_sound 406 = .ok (.if_icmp .ne 7, 3) := by decide +kernel
theorem dL_sound_409 : decode cL_sound 409 = .ok (.iconst 1, 1) := by decide +kernel
theorem dL_sound_410 : decode cL_sound 410 = .ok (.goto 4, 3) := by decide +kernel
theorem dL_sound_413 : decode cL_sound 413 = .ok (.iconst 0, 1) := by decide +kernel
theorem dL_sound_414 : decode cL_sound 414 = .ok (.istore_n 2, 1) := by decide +kernel
theorem dL_sound_415 : decode cL_sound 415 = .ok (.iinc 9 1, 3) := by decide +kernel
theorem dL_sound_418 : decode cL_sound 418 = .ok (.goto (-41), 3) := by decide +kernel
theorem dL_sound_421 : decode cL_sound 421 = .ok (.iinc 3 1, 3) := by decide +kernel
theorem dL_sound_424 : decode cL_sound 424 = .ok (.goto (-366), 3) := by decide +kernel
theorem dL_sound_427 : decode cL_sound 427 = .ok (.iload_n 2, 1) := by decide +kernel
theorem dL_sound_428 : decode cL_sound 428 = .ok (.ifCond .eq 16, 3) := by decide +kernel
theorem dL_sound_431 : decode cL_sound 431 = .ok (.aload_n 0, 1) := by decide +kernel
theorem dL_sound_432 : decode cL_sound 432 = .ok (.iload_n 1, 1) := by decide +kernel
theorem dL_sound_433 : decode cL_sound 433 = .ok (.invokevirtual 63, 3) := by decide +kernel
theorem dL_sound_436 : decode cL_sound 436 = .ok (.iload_n 1, 1) := by decide +kernel
theorem dL_sound_437 : decode cL_sound 437 = .ok (.if_icmp .ne 7, 3) := by decide +kernel
theorem dL_sound_440 : decode cL_sound 440 = .ok (.iconst 1, 1) := by decide +kernel
theorem dL_sound_441 : decode cL_sound 441 = .ok (.goto 4, 3) := by decide +kernel
theorem dL_sound_444 : decode cL_sound 444 = .ok (.iconst 0, 1) := by decide +kernel
theorem dL_sound_445 : decode cL_sound 445 = .ok (.ireturn, 1) := by decide +kernel
theorem dL_turns_0 : decode cL_turns 0 = .ok (.aload_n 0, 1) := by decide +kernel
theorem dL_turns_1 : decode cL_turns 1 = .ok (.invokevirtual 66, 3) := by decide +kernel
theorem dL_turns_4 : decode cL_turns 4 = .ok (.lstore_n 3, 1) := by decide +kernel
theorem dL_turns_5 : decode cL_turns 5 = .ok (.iload_n 1, 1) := by decide +kernel
theorem dL_turns_6 : decode cL_turns 6 = .ok (.iconst 4, 1) := by decide +kernel
theorem dL_turns_7 : decode cL_turns 7 = .ok (.ishr, 1) := by decide +kernel
theorem dL_turns_8 : decode cL_turns 8 = .ok (.istore 5, 2) := by decide +kernel
theorem dL_turns_10 : decode cL_turns 10 = .ok (.aload_n 0, 1) := by decide +kernel
theorem dL_turns_11 : decode cL_turns 11 = .ok (.invokevirtual 27, 3) := by decide +kernel
theorem dL_turns_14 : decode cL_turns 14 = .ok (.istore 6, 2) := by decide +kernel
theorem dL_turns_16 : decode cL_turns 16 = .ok (.iload 6, 2) := by decide +kernel
theorem dL_turns_18 : decode cL_turns 18 = .ok (.ifCond .ne 7, 3) := by decide +kernel
theorem dL_turns_21 : decode cL_turns 21 = .ok (.iconst 0, 1) := by decide +kernel
theorem dL_turns_22 : decode cL_turns 22 = .ok (.goto 12, 3) := by decide +kernel
theorem dL_turns_25 : decode cL_turns 25 = .ok (.aload_n 0, 1) := by decide +kernel
theorem dL_turns_26 : decode cL_turns 26 = .ok (.iload 5, 2) := by decide +kernel
theorem dL_turns_28 : decode cL_turns 28 = .ok (.iload 6, 2) := by decide +kernel
theorem dL_turns_30 : decode cL_turns 30 = .ok (.irem, 1) := by decide +kernel
theorem dL_turns_31 : decode cL_turns 31 = .ok (.invokevirtual 30, 3) := by decide +kernel
theorem dL_turns_34 : decode cL_turns 34 = .ok (.istore 7, 2) := by decide +kernel
theorem dL_turns_36 : decode cL_turns 36 = .ok (.iload 5, 2) := by decide +kernel
theorem dL_turns_38 : decode cL_turns 38 = .ok (.aload_n 0, 1) := by decide +kernel
theorem dL_turns_39 : decode cL_turns 39 = .ok (.invokevirtual 24, 3) := by decide +kernel
theorem dL_turns_42 : decode cL_turns 42 = .ok (.iconst 1, 1) := by decide +kernel
theorem dL_turns_43 : decode cL_turns 43 = .ok (.iadd, 1) := by decide +kernel
theorem dL_turns_44 : decode cL_turns 44 = .ok (.irem, 1) := by decide +kernel
theorem dL_turns_45 : decode cL_turns 45 = .ok (.istore 8, 2) := by decide +kernel
theorem dL_turns_47 : decode cL_turns 47 = .ok (.iload_n 1, 1) := by decide +kernel
theorem dL_turns_48 : decode cL_turns 48 = .ok (.bipush 10, 2) := by decide +kernel
theorem dL_turns_50 : decode cL_turns 50 = .ok (.irem, 1) := by decide +kernel
theorem dL_turns_51 : decode cL_turns 51 = .ok (.tableswitch 213 0 8 #[49, 73, 91, 91, 114, 125, 134, 143, 171], 49) := by decide +kernel
theorem dL_turns_100 : decode cL_turns 100 = .ok (.aload_n 0, 1) := by decide +kernel
theorem dL_turns_101 : decode cL_turns 101 = .ok (.iload 5, 2) := by decide +kernel
theorem dL_turns_103 : decode cL_turns 103 = .ok (.iload 5, 2) := by decide +kernel
theorem dL_turns_105 : decode cL_turns 105 = .ok (.iconst 5, 1) := by decide +kernel
theorem dL_turns_106 : decode cL_turns 106 = .ok (.ishr, 1) := by decide +kernel
theorem dL_turns_107 : decode cL_turns 107 = .ok (.bipush 9, 2) := by decide +kernel
theorem dL_turns_109 : decode cL_turns 109 = .ok (.irem, 1) := by decide +kernel
theorem dL_turns_110 : decode cL_turns 110 = .ok (.invokestatic 70, 3) := by decide +kernel
theorem dL_turns_113 : decode cL_turns 113 = .ok (.aload_n 0, 1) := by decide +kernel
theorem dL_turns_114 : decode cL_turns 114 = .ok (.iload 8, 2) := by decide +kernel
theorem dL_turns_116 : decode cL_turns 116 = .ok (.invokevirtual 74, 3) := by decide +kernel
theorem dL_turns_119 : decode cL_turns 119 = .ok (.istore 9, 2) := by decide +kernel
theorem dL_turns_121 : decode cL_turns 121 = .ok (.goto 148, 3) := by decide +kernel
theorem dL_turns_124 : decode cL_turns 124 = .ok (.aload_n 0, 1) := by decide +kernel
theorem dL_turns_125 : decode cL_turns 125 = .ok (.iload 8, 2) := by decide +kernel
theorem dL_turns_127 : decode cL_turns 127 = .ok (.iload 5, 2) := by decide +kernel
theorem dL_turns_129 : decode cL_turns 129 = .ok (.iconst 5, 1) := by decide +kernel
theorem dL_turns_130 : decode cL_turns 130 = .ok (.ishr, 1) := by decide +kernel
theorem dL_turns_131 : decode cL_turns 131 = .ok (.bipush 6, 2) := by decide +kernel
theorem dL_turns_133 : decode cL_turns 133 = .ok (.irem, 1) := by decide +kernel
theorem dL_turns_134 : decode cL_turns 134 = .ok (.invokevirtual 77, 3) := by decide +kernel
theorem dL_turns_137 : decode cL_turns 137 = .ok (.istore 9, 2) := by decide +kernel
theorem dL_turns_139 : decode cL_turns 139 = .ok (.goto 130, 3) := by decide +kernel
theorem dL_turns_142 : decode cL_turns 142 = .ok (.aload_n 0, 1) := by decide +kernel
theorem dL_turns_143 : decode cL_turns 143 = .ok (.iload 8, 2) := by decide +kernel
theorem dL_turns_145 : decode cL_turns 145 = .ok (.iload 8, 2) := by decide +kernel
theorem dL_turns_147 : decode cL_turns 147 = .ok (.iconst 1, 1) := by decide +kernel
theorem dL_turns_148 : decode cL_turns 148 = .ok (.iadd, 1) := by decide +kernel
theorem dL_turns_149 : decode cL_turns 149 = .ok (.iload 5, 2) := by decide +kernel
theorem dL_turns_151 : decode cL_turns 151 = .ok (.iconst 5, 1) := by decide +kernel
theorem dL_turns_152 : decode cL_turns 152 = .ok (.ishr, 1) := by decide +kernel
theorem dL_turns_153 : decode cL_turns 153 = .ok (.bipush 7, 2) := by decide +kernel
theorem dL_turns_155 : decode cL_turns 155 = .ok (.irem, 1) := by decide +kernel
theorem dL_turns_156 : decode cL_turns 156 = .ok (.iadd, 1) := by decide +kernel
theorem dL_turns_157 : decode cL_turns 157 = .ok (.invokevirtual 80, 3) := by decide +kernel
theorem dL_turns_160 : decode cL_turns 160 = .ok (.istore 9, 2) := by decide +kernel
theorem dL_turns_162 : decode cL_turns 162 = .ok (.goto 107, 3) := by decide +kernel
theorem dL_turns_165 : decode cL_turns 165 = .ok (.aload_n 0, 1) := by decide +kernel
theorem dL_turns_166 : decode cL_turns 166 = .ok (.iload 7, 2) := by decide +kernel
theorem dL_turns_168 : decode cL_turns 168 = .ok (.invokevirtual 83, 3) := by decide +kernel
theorem dL_turns_171 : decode cL_turns 171 = .ok (.istore 9, 2) := by decide +kernel
theorem dL_turns_173 : decode cL_turns 173 = .ok (.goto 96, 3) := by decide +kernel
theorem dL_turns_176 : decode cL_turns 176 = .ok (.aload_n 0, 1) := by decide +kernel
theorem dL_turns_177 : decode cL_turns 177 = .ok (.invokevirtual 86, 3) := by decide +kernel
theorem dL_turns_180 : decode cL_turns 180 = .ok (.istore 9, 2) := by decide +kernel
theorem dL_turns_182 : decode cL_turns 182 = .ok (.goto 87, 3) := by decide +kernel
theorem dL_turns_185 : decode cL_turns 185 = .ok (.aload_n 0, 1) := by decide +kernel
theorem dL_turns_186 : decode cL_turns 186 = .ok (.invokevirtual 89, 3) := by decide +kernel
theorem dL_turns_189 : decode cL_turns 189 = .ok (.istore 9, 2) := by decide +kernel
theorem dL_turns_191 : decode cL_turns 191 = .ok (.goto 78, 3) := by decide +kernel
theorem dL_turns_194 : decode cL_turns 194 = .ok (.iload 5, 2) := by decide +kernel
theorem dL_turns_196 : decode cL_turns 196 = .ok (.bipush 32, 2) := by decide +kernel
theorem dL_turns_198 : decode cL_turns 198 = .ok (.iand, 1) := by decide +kernel
theorem dL_turns_199 : decode cL_turns 199 = .ok (.ifCond .ne 12, 3) := by decide +kernel
theorem dL_turns_202 : decode cL_turns 202 = .ok (.aload_n 0, 1) := by decide +kernel
theorem dL_turns_203 : decode cL_turns 203 = .ok (.iload 7, 2) := by decide +kernel
theorem dL_turns_205 : decode cL_turns 205 = .ok (.invokevirtual 92, 3) := by decide +kernel
theorem dL_turns_208 : decode cL_turns 208 = .ok (.goto 9, 3) := by decide +kernel
theorem dL_turns_211 : decode cL_turns 211 = .ok (.aload_n 0, 1) := by decide +kernel
theorem dL_turns_212 : decode cL_turns 212 = .ok (.iload 7, 2) := by decide +kernel
theorem dL_turns_214 : decode cL_turns 214 = .ok (.invokevirtual 95, 3) := by decide +kernel
theorem dL_turns_217 : decode cL_turns 217 = .ok (.istore 9, 2) := by decide +kernel
theorem dL_turns_219 : decode cL_turns 219 = .ok (.goto 50, 3) := by decide +kernel
theorem dL_turns_222 : decode cL_turns 222 = .ok (.aload_n 0, 1) := by decide +kernel
theorem dL_turns_223 : decode cL_turns 223 = .ok (.iload 5, 2) := by decide +kernel
theorem dL_turns_225 : decode cL_turns 225 = .ok (.bipush 10, 2) := by decide +kernel
theorem dL_turns_227 : decode cL_turns 227 = .ok (.iload 5, 2) := by decide +kernel
theorem dL_turns_229 : decode cL_turns 229 = .ok (.iconst 5, 1) := by decide +kernel
theorem dL_turns_230 : decode cL_turns 230 = .ok (.ishr, 1) := by decide +kernel
theorem dL_turns_231 : decode cL_turns 231 = .ok (.bipush 20, 2) := by decide +kernel
theorem dL_turns_233 : decode cL_turns 233 = .ok (.irem, 1) := by decide +kernel
theorem dL_turns_234 : decode cL_turns 234 = .ok (.iadd, 1) := by decide +kernel
theorem dL_turns_235 : decode cL_turns 235 = .ok (.invokestatic 70, 3) := by decide +kernel
theorem dL_turns_238 : decode cL_turns 238 = .ok (.iload 5, 2) := by decide +kernel
theorem dL_turns_240 : decode cL_turns 240 = .ok (.bipush 64, 2) := by decide +kernel
theorem dL_turns_242 : decode cL_turns 242 = .ok (.iand, 1) := by decide +kernel
theorem dL_turns_243 : decode cL_turns 243 = .ok (.ifCond .ne 10, 3) := by decide +kernel
theorem dL_turns_246 : decode cL_turns 246 = .ok (.aload_n 0, 1) := by decide +kernel
theorem dL_turns_247 : decode cL_turns 247 = .ok (.invokevirtual 98, 3) := by decide +kernel
theorem dL_turns_250 : decode cL_turns 250 = .ok (.goto 9, 3) := by decide +kernel
theorem dL_turns_253 : decode cL_turns 253 = .ok (.aload_n 0, 1) := by decide +kernel
theorem dL_turns_254 : decode cL_turns 254 = .ok (.iload 8, 2) := by decide +kernel
theorem dL_turns_256 : decode cL_turns 256 = .ok (.invokevirtual 74, 3) := by decide +kernel
theorem dL_turns_259 : decode cL_turns 259 = .ok (.istore 9, 2) := by decide +kernel
theorem dL_turns_261 : decode cL_turns 261 = .ok (.goto 8, 3) := by decide +kernel
theorem dL_turns_264 : decode cL_turns 264 = .ok (.sipush (-1005), 3) := by decide +kernel
theorem dL_turns_267 : decode cL_turns 267 = .ok (.istore 9, 2) := by decide +kernel
theorem dL_turns_269 : decode cL_turns 269 = .ok (.iload 9, 2) := by decide +kernel
theorem dL_turns_271 : decode cL_turns 271 = .ok (.sipush (-1001), 3) := by decide +kernel
theorem dL_turns_274 : decode cL_turns 274 = .ok (.if_icmp .gt 18, 3) := by decide +kernel
theorem dL_turns_277 : decode cL_turns 277 = .ok (.aload_n 0, 1) := by decide +kernel
theorem dL_turns_278 : decode cL_turns 278 = .ok (.invokevirtual 66, 3) := by decide +kernel
theorem dL_turns_281 : decode cL_turns 281 = .ok (.lload_n 3, 1) := by decide +kernel
theorem dL_turns_282 : decode cL_turns 282 = .ok (.lcmp, 1) := by decide +kernel
theorem dL_turns_283 : decode cL_turns 283 = .ok (.ifCond .ne 7, 3) := by decide +kernel
theorem dL_turns_286 : decode cL_turns 286 = .ok (.iconst 1, 1) := by decide +kernel
theorem dL_turns_287 : decode cL_turns 287 = .ok (.goto 4, 3) := by decide +kernel
theorem dL_turns_290 : decode cL_turns 290 = .ok (.iconst 0, 1) := by decide +kernel
theorem dL_turns_291 : decode cL_turns 291 = .ok (.ireturn, 1) := by decide +kernel
theorem dL_turns_292 : decode cL_turns 292 = .ok (.aload_n 0, 1) := by decide +kernel
theorem dL_turns_293 : decode cL_turns 293 = .ok (.invokevirtual 66, 3) := by decide +kernel
theorem dL_turns_296 : decode cL_turns 296 = .ok (.lstore 10, 2) := by decide +kernel
theorem dL_turns_298 : decode cL_turns 298 = .ok (.aload_n 0, 1) := by decide +kernel
theorem dL_turns_299 : decode cL_turns 299 = .ok (.invokevirtual 101, 3) := by decide +kernel
theorem dL_turns_302 : decode cL_turns 302 = .ok (.ifCond .lt 26, 3) := by decide +kernel
theorem dL_turns_305 : decode cL_turns 305 = .ok (.aload_n 0, 1) := by decide +kernel
theorem dL_turns_306 : decode cL_turns 306 = .ok (.invokevirtual 66, 3) := by decide +kernel
theorem dL_turns_309 : decode cL_turns 309 = .ok (.lload_n 3, 1) := by decide +kernel
theorem dL_turns_310 : decode cL_turns 310 = .ok (.lcmp, 1) := by decide +kernel
theorem dL_turns_311 : decode cL_turns 311 = .ok (.ifCond .ne 17, 3) := by decide +kernel
theorem dL_turns_314 : decode cL_turns 314 = .ok (.aload_n 0, 1) := by decide +kernel
theorem dL_turns_315 : decode cL_turns 315 = .ok (.iconst 1, 1) := by decide +kernel
theorem dL_turns_316 : decode cL_turns 316 = .ok (.invokevirtual 104, 3) := by decide +kernel
theorem dL_turns_319 : decode cL_turns 319 = .ok (.iload 6, 2) := by decide +kernel
theorem dL_turns_321 : decode cL_turns 321 = .ok (.if_icmp .ne 7, 3) := by decide +kernel
theorem dL_turns_324 : decode cL_turns 324 = .ok (.iconst 1, 1) := by decide +kernel
theorem dL_turns_325 : decode cL_turns 325 = .ok (.goto 4, 3) := by decide +kernel
theorem dL_turns_328 : decode cL_turns 328 = .ok (.iconst 0, 1) := by decide +kernel
theorem dL_turns_329 : decode cL_turns 329 = .ok (.istore 12, 2) := by decide +kernel
theorem dL_turns_331 : decode cL_turns 331 = .ok (.iload 12, 2) := by decide +kernel
theorem dL_turns_333 : decode cL_turns 333 = .ok (.ifCond .eq 28, 3) := by decide +kernel
theorem dL_turns_336 : decode cL_turns 336 = .ok (.aload_n 0, 1) := by decide +kernel
theorem dL_turns_337 : decode cL_turns 337 = .ok (.iload_n 1, 1) := by decide +kernel
theorem dL_turns_338 : decode cL_turns 338 = .ok (.iload_n 2, 1) := by decide +kernel
theorem dL_turns_339 : decode cL_turns 339 = .ok (.invokestatic 107, 3) := by decide +kernel
theorem dL_turns_342 : decode cL_turns 342 = .ok (.iload 9, 2) := by decide +kernel
theorem dL_turns_344 : decode cL_turns 344 = .ok (.if_icmp .ne 17, 3) := by decide +kernel
theorem dL_turns_347 : decode cL_turns 347 = .ok (.aload_n 0, 1) := by decide +kernel
theorem dL_turns_348 : decode cL_turns 348 = .ok (.invokevirtual 66, 3) := by decide +kernel
theorem dL_turns_351 : decode cL_turns 351 = .ok (.lload 10, 2) := by decide +kernel
theorem dL_turns_353 : decode cL_turns 353 = .ok (.lcmp, 1) := by decide +kernel
theorem dL_turns_354 : decode cL_turns 354 = .ok (.ifCond .ne 7, 3) := by decide +kernel
theorem dL_turns_357 : decode cL_turns 357 = .ok (.iconst 1, 1) := by decide +kernel
theorem dL_turns_358 : decode cL_turns 358 = .ok (.goto 4, 3) := by decide +kernel
theorem dL_turns_361 : decode cL_turns 361 = .ok (.iconst 0, 1) := by decide +kernel
theorem dL_turns_362 : decode cL_turns 362 = .ok (.ireturn, 1) := by decide +kernel
theorem dL_again_0 : decode cL_again 0 = .ok (.iload_n 1, 1) := by decide +kernel
theorem dL_again_1 : decode cL_again 1 = .ok (.iconst 4, 1) := by decide +kernel
theorem dL_again_2 : decode cL_again 2 = .ok (.ishr, 1) := by decide +kernel
theorem dL_again_3 : decode cL_again 3 = .ok (.istore_n 3, 1) := by decide +kernel
theorem dL_again_4 : decode cL_again 4 = .ok (.aload_n 0, 1) := by decide +kernel
theorem dL_again_5 : decode cL_again 5 = .ok (.invokevirtual 27, 3) := by decide +kernel
theorem dL_again_8 : decode cL_again 8 = .ok (.istore 4, 2) := by decide +kernel
theorem dL_again_10 : decode cL_again 10 = .ok (.iload 4, 2) := by decide +kernel
theorem dL_again_12 : decode cL_again 12 = .ok (.ifCond .ne 7, 3) := by decide +kernel
theorem dL_again_15 : decode cL_again 15 = .ok (.iconst 0, 1) := by decide +kernel
theorem dL_again_16 : decode cL_again 16 = .ok (.goto 11, 3) := by decide +kernel
theorem dL_again_19 : decode cL_again 19 = .ok (.aload_n 0, 1) := by decide +kernel
theorem dL_again_20 : decode cL_again 20 = .ok (.iload_n 3, 1) := by decide +kernel
theorem dL_again_21 : decode cL_again 21 = .ok (.iload 4, 2) := by decide +kernel
theorem dL_again_23 : decode cL_again 23 = .ok (.irem, 1) := by decide +kernel
theorem dL_again_24 : decode cL_again 24 = .ok (.invokevirtual 30, 3) := by decide +kernel
theorem dL_again_27 : decode cL_again 27 = .ok (.istore 5, 2) := by decide +kernel
theorem dL_again_29 : decode cL_again 29 = .ok (.iload_n 3, 1) := by decide +kernel
theorem dL_again_30 : decode cL_again 30 = .ok (.aload_n 0, 1) := by decide +kernel
theorem dL_again_31 : decode cL_again 31 = .ok (.invokevirtual 24, 3) := by decide +kernel
theorem dL_again_34 : decode cL_again 34 = .ok (.iconst 1, 1) := by decide +kernel
theorem dL_again_35 : decode cL_again 35 = .ok (.iadd, 1) := by decide +kernel
theorem dL_again_36 : decode cL_again 36 = .ok (.irem, 1) := by decide +kernel
theorem dL_again_37 : decode cL_again 37 = .ok (.istore 6, 2) := by decide +kernel
theorem dL_again_39 : decode cL_again 39 = .ok (.iload_n 1, 1) := by decide +kernel
theorem dL_again_40 : decode cL_again 40 = .ok (.bipush 10, 2) := by decide +kernel
theorem dL_again_42 : decode cL_again 42 = .ok (.irem, 1) := by decide +kernel
theorem dL_again_43 : decode cL_again 43 = .ok (.tableswitch 123 0 7 #[45, 52, 65, 65, 83, 90, 95, 100], 45) := by decide +kernel
theorem dL_again_88 : decode cL_again 88 = .ok (.aload_n 0, 1) := by decide +kernel
theorem dL_again_89 : decode cL_again 89 = .ok (.iload 6, 2) := by decide +kernel
theorem dL_again_91 : decode cL_again 91 = .ok (.invokevirtual 74, 3) := by decide +kernel
theorem dL_again_94 : decode cL_again 94 = .ok (.ireturn, 1) := by decide +kernel
theorem dL_again_95 : decode cL_again 95 = .ok (.aload_n 0, 1) := by decide +kernel
theorem dL_again_96 : decode cL_again 96 = .ok (.iload 6, 2) := by decide +kernel
theorem dL_again_98 : decode cL_again 98 = .ok (.iload_n 3, 1) := by decide +kernel
theorem dL_again_99 : decode cL_again 99 = .ok (.iconst 5, 1) := by decide +kernel
theorem dL_again_100 : decode cL_again 100 = .ok (.ishr, 1) := by decide +kernel
theorem dL_again_101 : decode cL_again 101 = .ok (.bipush 6, 2) := by decide +kernel
theorem dL_again_103 : decode cL_again 103 = .ok (.irem, 1) := by decide +kernel
theorem dL_again_104 : decode cL_again 104 = .ok (.invokevirtual 77, 3) := by decide +kernel
theorem dL_again_107 : decode cL_again 107 = .ok (.ireturn, 1) := by decide +kernel
theorem dL_again_108 : decode cL_again 108 = .ok (.aload_n 0, 1) := by decide +kernel
theorem dL_again_109 : decode cL_again 109 = .ok (.iload 6, 2) := by decide +kernel
theorem dL_again_111 : decode cL_again 111 = .ok (.iload 6, 2) := by decide +kernel
theorem dL_again_113 : decode cL_again 113 = .ok (.iconst 1, 1) := by decide +kernel
theorem dL_again_114 : decode cL_again 114 = .ok (.iadd, 1) := by decide +kernel
theorem dL_again_115 : decode cL_again 115 = .ok (.iload_n 3, 1) := by decide +kernel
theorem dL_again_116 : decode cL_again 116 = .ok (.iconst 5, 1) := by decide +kernel
theorem dL_again_117 : decode cL_again 117 = .ok (.ishr, 1) := by decide +kernel
theorem dL_again_118 : decode cL_again 118 = .ok (.bipush 7, 2) := by decide +kernel
theorem dL_again_120 : decode cL_again 120 = .ok (.irem, 1) := by decide +kernel
theorem dL_again_121 : decode cL_again 121 = .ok (.iadd, 1) := by decide +kernel
theorem dL_again_122 : decode cL_again 122 = .ok (.invokevirtual 80, 3) := by decide +kernel
theorem dL_again_125 : decode cL_again 125 = .ok (.ireturn, 1) := by decide +kernel
theorem dL_again_126 : decode cL_again 126 = .ok (.aload_n 0, 1) := by decide +kernel
theorem dL_again_127 : decode cL_again 127 = .ok (.iload 5, 2) := by decide +kernel
theorem dL_again_129 : decode cL_again 129 = .ok (.invokevirtual 83, 3) := by decide +kernel
theorem dL_again_132 : decode cL_again 132 = .ok (.ireturn, 1) := by decide +kernel
theorem dL_again_133 : decode cL_again 133 = .ok (.aload_n 0, 1) := by decide +kernel
theorem dL_again_134 : decode cL_again 134 = .ok (.invokevirtual 86, 3) := by decide +kernel
theorem dL_again_137 : decode cL_again 137 = .ok (.ireturn, 1) := by decide +kernel
theorem dL_again_138 : decode cL_again 138 = .ok (.aload_n 0, 1) := by decide +kernel
theorem dL_again_139 : decode cL_again 139 = .ok (.invokevirtual 89, 3) := by decide +kernel
theorem dL_again_142 : decode cL_again 142 = .ok (.ireturn, 1) := by decide +kernel
theorem dL_again_143 : decode cL_again 143 = .ok (.iload_n 3, 1) := by decide +kernel
theorem dL_again_144 : decode cL_again 144 = .ok (.bipush 32, 2) := by decide +kernel
theorem dL_again_146 : decode cL_again 146 = .ok (.iand, 1) := by decide +kernel
theorem dL_again_147 : decode cL_again 147 = .ok (.ifCond .ne 12, 3) := by decide +kernel
theorem dL_again_150 : decode cL_again 150 = .ok (.aload_n 0, 1) := by decide +kernel
theorem dL_again_151 : decode cL_again 151 = .ok (.iload 5, 2) := by decide +kernel
theorem dL_again_153 : decode cL_again 153 = .ok (.invokevirtual 92, 3) := by decide +kernel
theorem dL_again_156 : decode cL_again 156 = .ok (.goto 9, 3) := by decide +kernel
theorem dL_again_159 : decode cL_again 159 = .ok (.aload_n 0, 1) := by decide +kernel
theorem dL_again_160 : decode cL_again 160 = .ok (.iload 5, 2) := by decide +kernel
theorem dL_again_162 : decode cL_again 162 = .ok (.invokevirtual 95, 3) := by decide +kernel
theorem dL_again_165 : decode cL_again 165 = .ok (.ireturn, 1) := by decide +kernel
theorem dL_again_166 : decode cL_again 166 = .ok (.iload_n 3, 1) := by decide +kernel
theorem dL_again_167 : decode cL_again 167 = .ok (.bipush 64, 2) := by decide +kernel
theorem dL_again_169 : decode cL_again 169 = .ok (.iand, 1) := by decide +kernel
theorem dL_again_170 : decode cL_again 170 = .ok (.ifCond .ne 10, 3) := by decide +kernel
theorem dL_again_173 : decode cL_again 173 = .ok (.aload_n 0, 1) := by decide +kernel
theorem dL_again_174 : decode cL_again 174 = .ok (.invokevirtual 98, 3) := by decide +kernel
theorem dL_again_177 : decode cL_again 177 = .ok (.goto 9, 3) := by decide +kernel
theorem dL_again_180 : decode cL_again 180 = .ok (.aload_n 0, 1) := by decide +kernel
theorem dL_again_181 : decode cL_again 181 = .ok (.iload 6, 2) := by decide +kernel
theorem dL_again_183 : decode cL_again 183 = .ok (.invokevirtual 74, 3) := by decide +kernel
theorem dL_again_186 : decode cL_again 186 = .ok (.ireturn, 1) := by decide +kernel
theorem dL_law_0 : decode cL_law 0 = .ok (.new 10, 3) := by decide +kernel
theorem dL_law_3 : decode cL_law 3 = .ok (.dup, 1) := by decide +kernel
theorem dL_law_4 : decode cL_law 4 = .ok (.invokespecial 111, 3) := by decide +kernel
theorem dL_law_7 : decode cL_law 7 = .ok (.astore_n 1, 1) := by decide +kernel
theorem dL_law_8 : decode cL_law 8 = .ok (.aload_n 0, 1) := by decide +kernel
theorem dL_law_9 : decode cL_law 9 = .ok (.iconst 0, 1) := by decide +kernel
theorem dL_law_10 : decode cL_law 10 = .ok (.invokestatic 112, 3) := by decide +kernel
theorem dL_law_13 : decode cL_law 13 = .ok (.istore_n 2, 1) := by decide +kernel
theorem dL_law_14 : decode cL_law 14 = .ok (.bipush 40, 2) := by decide +kernel
theorem dL_law_16 : decode cL_law 16 = .ok (.iload_n 2, 1) := by decide +kernel
theorem dL_law_17 : decode cL_law 17 = .ok (.bipush 40, 2) := by decide +kernel
theorem dL_law_19 : decode cL_law 19 = .ok (.irem, 1) := by decide +kernel
theorem dL_law_20 : decode cL_law 20 = .ok (.iadd, 1) := by decide +kernel
theorem dL_law_21 : decode cL_law 21 = .ok (.istore_n 3, 1) := by decide +kernel
theorem dL_law_22 : decode cL_law 22 = .ok (.aload_n 1, 1) := by decide +kernel
theorem dL_law_23 : decode cL_law 23 = .ok (.invokevirtual 101, 3) := by decide +kernel
theorem dL_law_26 : decode cL_law 26 = .ok (.sipush (-1003), 3) := by decide +kernel
theorem dL_law_29 : decode cL_law 29 = .ok (.if_icmp .ne 39, 3) := by decide +kernel
theorem dL_law_32 : decode cL_law 32 = .ok (.aload_n 1, 1) := by decide +kernel
theorem dL_law_33 : decode cL_law 33 = .ok (.iconst 0, 1) := by decide +kernel
theorem dL_law_34 : decode cL_law 34 = .ok (.invokevirtual 116, 3) := by decide +kernel
theorem dL_law_37 : decode cL_law 37 = .ok (.sipush (-1003), 3) := by decide +kernel
theorem dL_law_40 : decode cL_law 40 = .ok (.if_icmp .ne 28, 3) := by decide +kernel
theorem dL_law_43 : decode cL_law 43 = .ok (.aload_n 1, 1) := by decide +kernel
theorem dL_law_44 : decode cL_law 44 = .ok (.iconst 1, 1) := by decide +kernel
theorem dL_law_45 : decode cL_law 45 = .ok (.invokevirtual 74, 3) := by decide +kernel
theorem dL_law_48 : decode cL_law 48 = .ok (.sipush (-1001), 3) := by decide +kernel
theorem dL_law_51 : decode cL_law 51 = .ok (.if_icmp .ne 17, 3) := by decide +kernel
theorem dL_law_54 : decode cL_law 54 = .ok (.aload_n 1, 1) := by decide +kernel
theorem dL_law_55 : decode cL_law 55 = .ok (.iload_n 3, 1) := by decide +kernel
theorem dL_law_56 : decode cL_law 56 = .ok (.invokevirtual 63, 3) := by decide +kernel
theorem dL_law_59 : decode cL_law 59 = .ok (.bipush 60, 2) := by decide +kernel
theorem dL_law_61 : decode cL_law 61 = .ok (.if_icmp .ne 7, 3) := by decide +kernel
theorem dL_law_64 : decode cL_law 64 = .ok (.iconst 1, 1) := by decide +kernel
theorem dL_law_65 : decode cL_law 65 = .ok (.goto 4, 3) := by decide +kernel
theorem dL_law_68 : decode cL_law 68 = .ok (.iconst 0, 1) := by decide +kernel
theorem dL_law_69 : decode cL_law 69 = .ok (.istore 4, 2) := by decide +kernel
theorem dL_law_71 : decode cL_law 71 = .ok (.aload_n 1, 1) := by decide +kernel
theorem dL_law_72 : decode cL_law 72 = .ok (.iload_n 2, 1) := by decide +kernel
theorem dL_law_73 : decode cL_law 73 = .ok (.bipush 6, 2) := by decide +kernel
theorem dL_law_75 : decode cL_law 75 = .ok (.ishr, 1) := by decide +kernel
theorem dL_law_76 : decode cL_law 76 = .ok (.bipush 20, 2) := by decide +kernel
theorem dL_law_78 : decode cL_law 78 = .ok (.invokestatic 70, 3) := by decide +kernel
theorem dL_law_81 : decode cL_law 81 = .ok (.iload 4, 2) := by decide +kernel
theorem dL_law_83 : decode cL_law 83 = .ok (.ifCond .eq 58, 3) := by decide +kernel
theorem dL_law_86 : decode cL_law 86 = .ok (.aload_n 1, 1) := by decide +kernel
theorem dL_law_87 : decode cL_law 87 = .ok (.invokevirtual 98, 3) := by decide +kernel
theorem dL_law_90 : decode cL_law 90 = .ok (.ifCond .ne 51, 3) := by decide +kernel
theorem dL_law_93 : decode cL_law 93 = .ok (.aload_n 1, 1) := by decide +kernel
theorem dL_law_94 : decode cL_law 94 = .ok (.invokevirtual 24, 3) := by decide +kernel
theorem dL_law_97 : decode cL_law 97 = .ok (.bipush 20, 2) := by decide +kernel
theorem dL_law_99 : decode cL_law 99 = .ok (.if_icmp .ne 42, 3) := by decide +kernel
theorem dL_law_102 : decode cL_law 102 = .ok (.aload_n 1, 1) := by decide +kernel
theorem dL_law_103 : decode cL_law 103 = .ok (.iload_n 2, 1) := by decide +kernel
theorem dL_law_104 : decode cL_law 104 = .ok (.bipush 10, 2) := by decide +kernel
theorem dL_law_106 : decode cL_law 106 = .ok (.irem, 1) := by decide +kernel
theorem dL_law_107 : decode cL_law 107 = .ok (.iload_n 2, 1) := by decide +kernel
theorem dL_law_108 : decode cL_law 108 = .ok (.bipush 10, 2) := by decide +kernel
theorem dL_law_110 : decode cL_law 110 = .ok (.irem, 1) := by decide +kernel
theorem dL_law_111 : decode cL_law 111 = .ok (.iconst 3, 1) := by decide +kernel
theorem dL_law_112 : decode cL_law 112 = .ok (.iadd, 1) := by decide +kernel
theorem dL_law_113 : decode cL_law 113 = .ok (.invokevirtual 80, 3) := by decide +kernel
theorem dL_law_116 : decode cL_law 116 = .ok (.ifCond .ne 25, 3) := by decide +kernel
theorem dL_law_119 : decode cL_law 119 = .ok (.aload_n 1, 1) := by decide +kernel
theorem dL_law_120 : decode cL_law 120 = .ok (.iload_n 2, 1) := by decide +kernel
theorem dL_law_121 : decode cL_law 121 = .ok (.bipush 10, 2) := by decide +kernel
theorem dL_law_123 : decode cL_law 123 = .ok (.irem, 1) := by decide +kernel
theorem dL_law_124 : decode cL_law 124 = .ok (.iload_n 2, 1) := by decide +kernel
theorem dL_law_125 : decode cL_law 125 = .ok (.bipush 10, 2) := by decide +kernel
theorem dL_law_127 : decode cL_law 127 = .ok (.irem, 1) := by decide +kernel
theorem dL_law_128 : decode cL_law 128 = .ok (.iconst 3, 1) := by decide +kernel
theorem dL_law_129 : decode cL_law 129 = .ok (.iadd, 1) := by decide +kernel
theorem dL_law_130 : decode cL_law 130 = .ok (.invokevirtual 80, 3) := by decide +kernel
theorem dL_law_133 : decode cL_law 133 = .ok (.iconst 1, 1) := by decide +kernel
theorem dL_law_134 : decode cL_law 134 = .ok (.if_icmp .ne 7, 3) := by decide +kernel
theorem dL_law_137 : decode cL_law 137 = .ok (.iconst 1, 1) := by decide +kernel
theorem dL_law_138 : decode cL_law 138 = .ok (.goto 4, 3) := by decide +kernel
theorem dL_law_141 : decode cL_law 141 = .ok (.iconst 0, 1) := by decide +kernel
theorem dL_law_142 : decode cL_law 142 = .ok (.istore 4, 2) := by decide +kernel
theorem dL_law_144 : decode cL_law 144 = .ok (.iconst 0, 1) := by decide +kernel
theorem dL_law_145 : decode cL_law 145 = .ok (.istore 5, 2) := by decide +kernel
theorem dL_law_147 : decode cL_law 147 = .ok (.iload 5, 2) := by decide +kernel
theorem dL_law_149 : decode cL_law 149 = .ok (.bipush 14, 2) := by decide +kernel
theorem dL_law_151 : decode cL_law 151 = .ok (.if_icmp .ge 45, 3) := by decide +kernel
theorem dL_law_154 : decode cL_law 154 = .ok (.iload 4, 2) := by decide +kernel
theorem dL_law_156 : decode cL_law 156 = .ok (.ifCond .eq 40, 3) := by decide +kernel
theorem dL_law_159 : decode cL_law 159 = .ok (.aload_n 1, 1) := by decide +kernel
theorem dL_law_160 : decode cL_law 160 = .ok (.aload_n 0, 1) := by decide +kernel
theorem dL_law_161 : decode cL_law 161 = .ok (.iconst 1, 1) := by decide +kernel
theorem dL_law_162 : decode cL_law 162 = .ok (.iload 5, 2) := by decide +kernel
theorem dL_law_164 : decode cL_law 164 = .ok (.iadd, 1) := by decide +kernel
theorem dL_law_165 : decode cL_law 165 = .ok (.invokestatic 112, 3) := by decide +kernel
theorem dL_law_168 : decode cL_law 168 = .ok (.iload_n 3, 1) := by decide +kernel
theorem dL_law_169 : decode cL_law 169 = .ok (.invokestatic 119, 3) := by decide +kernel
theorem dL_law_172 : decode cL_law 172 = .ok (.ifCond .eq 15, 3) := by decide +kernel
theorem dL_law_175 : decode cL_law 175 = .ok (.aload_n 1, 1) := by decide +kernel
theorem dL_law_176 : decode cL_law 176 = .ok (.iload_n 3, 1) := by decide +kernel
theorem dL_law_177 : decode cL_law 177 = .ok (.invokestatic 123, 3) := by decide +kernel
theorem dL_law_180 : decode cL_law 180 = .ok (.ifCond .eq 7, 3) := by decide +kernel
theorem dL_law_183 : decode cL_law 183 = .ok (.iconst 1, 1) := by decide +kernel
theorem dL_law_184 : decode cL_law 184 = .ok (.goto 4, 3) := by decide +kernel
theorem dL_law_187 : decode cL_law 187 = .ok (.iconst 0, 1) := by decide +kernel
theorem dL_law_188 : decode cL_law 188 = .ok (.istore 4, 2) := by decide +kernel
theorem dL_law_190 : decode cL_law 190 = .ok (.iinc 5 1, 3) := by decide +kernel
theorem dL_law_193 : decode cL_law 193 = .ok (.goto (-46), 3) := by decide +kernel
theorem dL_law_196 : decode cL_law 196 = .ok (.aload_n 1, 1) := by decide +kernel
theorem dL_law_197 : decode cL_law 197 = .ok (.invokevirtual 27, 3) := by decide +kernel
theorem dL_law_200 : decode cL_law 200 = .ok (.istore 5, 2) := by decide +kernel
theorem dL_law_202 : decode cL_law 202 = .ok (.aload_n 1, 1) := by decide +kernel
theorem dL_law_203 : decode cL_law 203 = .ok (.invokevirtual 66, 3) := by decide +kernel
theorem dL_law_206 : decode cL_law 206 = .ok (.lstore 6, 2) := by decide +kernel
theorem dL_law_208 : decode cL_law 208 = .ok (.iload 4, 2) := by decide +kernel
theorem dL_law_210 : decode cL_law 210 = .ok (.ifCond .eq 139, 3) := by decide +kernel
theorem dL_law_213 : decode cL_law 213 = .ok (.aload_n 1, 1) := by decide +kernel
theorem dL_law_214 : decode cL_law 214 = .ok (.bipush 31, 2) := by decide +kernel
theorem dL_law_216 : decode cL_law 216 = .ok (.invokevirtual 21, 3) := by decide +kernel
theorem dL_law_219 : decode cL_law 219 = .ok (.sipush (-1002), 3) := by decide +kernel
theorem dL_law_222 : decode cL_law 222 = .ok (.if_icmp .ne 127, 3) := by decide +kernel
theorem dL_law_225 : decode cL_law 225 = .ok (.aload_n 1, 1) := by decide +kernel
theorem dL_law_226 : decode cL_law 226 = .ok (.iconst (-1), 1) := by decide +kernel
theorem dL_law_227 : decode cL_law 227 = .ok (.invokevirtual 74, 3) := by decide +kernel
theorem dL_law_230 : decode cL_law 230 = .ok (.sipush (-1001), 3) := by decide +kernel
theorem dL_law_233 : decode cL_law 233 = .ok (.if_icmp .ne 116, 3) := by decide +kernel
theorem dL_law_236 : decode cL_law 236 = .ok (.aload_n 1, 1) := by decide +kernel
theorem dL_law_237 : decode cL_law 237 = .ok (.iconst 0, 1) := by decide +kernel
theorem dL_law_238 : decode cL_law 238 = .ok (.iconst (-1), 1) := by decide +kernel
theorem dL_law_239 : decode cL_law 239 = .ok (.invokevirtual 77, 3) := by decide +kernel
theorem dL_law_242 : decode cL_law 242 = .ok (.sipush (-1002), 3) := by decide +kernel
theorem dL_law_245 : decode cL_law 245 = .ok (.if_icmp .ne 104, 3) := by decide +kernel
theorem dL_law_248 : decode cL_law 248 = .ok (.aload_n 1, 1) := by decide +kernel
theorem dL_law_249 : decode cL_law 249 = .ok (.iconst 0, 1) := by decide +kernel
theorem dL_law_250 : decode cL_law 250 = .ok (.iconst 0, 1) := by decide +kernel
theorem dL_law_251 : decode cL_law 251 = .ok (.invokevirtual 80, 3) := by decide +kernel
theorem dL_law_254 : decode cL_law 254 = .ok (.sipush (-1002), 3) := by decide +kernel
theorem dL_law_257 : decode cL_law 257 = .ok (.if_icmp .ne 92, 3) := by decide +kernel
theorem dL_law_260 : decode cL_law 260 = .ok (.aload_n 1, 1) := by decide +kernel
theorem dL_law_261 : decode cL_law 261 = .ok (.sipush 1000, 3) := by decide +kernel
theorem dL_law_264 : decode cL_law 264 = .ok (.invokevirtual 92, 3) := by decide +kernel
theorem dL_law_267 : decode cL_law 267 = .ok (.sipush (-1001), 3) := by decide +kernel
theorem dL_law_270 : decode cL_law 270 = .ok (.if_icmp .ne 79, 3) := by decide +kernel
theorem dL_law_273 : decode cL_law 273 = .ok (.aload_n 1, 1) := by decide +kernel
theorem dL_law_274 : decode cL_law 274 = .ok (.iconst (-1), 1) := by decide +kernel
theorem dL_law_275 : decode cL_law 275 = .ok (.invokevirtual 83, 3) := by decide +kernel
theorem dL_law_278 : decode cL_law 278 = .ok (.sipush (-1001), 3) := by decide +kernel
theorem dL_law_281 : decode cL_law 281 = .ok (.if_icmp .ne 68, 3) := by decide +kernel
theorem dL_law_284 : decode cL_law 284 = .ok (.aload_n 1, 1) := by decide +kernel
theorem dL_law_285 : decode cL_law 285 = .ok (.sipush 1000, 3) := by decide +kernel
theorem dL_law_288 : decode cL_law 288 = .ok (.iconst 0, 1) := by decide +kernel
theorem dL_law_289 : decode cL_law 289 = .ok (.invokevirtual 51, 3) := by decide +kernel
theorem dL_law_292 : decode cL_law 292 = .ok (.sipush (-1001), 3) := by decide +kernel
theorem dL_law_295 : decode cL_law 295 = .ok (.if_icmp .ne 54, 3) := by decide +kernel
theorem dL_law_298 : decode cL_law 298 = .ok (.aload_n 1, 1) := by decide +kernel
theorem dL_law_299 : decode cL_law 299 = .ok (.aload_n 1, 1) := by decide +kernel
theorem dL_law_300 : decode cL_law 300 = .ok (.invokevirtual 24, 3) := by decide +kernel
theorem dL_law_303 : decode cL_law 303 = .ok (.iconst 0, 1) := by decide +kernel
theorem dL_law_304 : decode cL_law 304 = .ok (.invokevirtual 127, 3) := by decide +kernel
theorem dL_law_307 : decode cL_law 307 = .ok (.sipush (-1001), 3) := by decide +kernel
theorem dL_law_310 : decode cL_law 310 = .ok (.if_icmp .ne 39, 3) := by decide +kernel
theorem dL_law_313 : decode cL_law 313 = .ok (.aload_n 1, 1) := by decide +kernel
theorem dL_law_314 : decode cL_law 314 = .ok (.iconst (-1), 1) := by decide +kernel
theorem dL_law_315 : decode cL_law 315 = .ok (.invokevirtual 63, 3) := by decide +kernel
theorem dL_law_318 : decode cL_law 318 = .ok (.sipush (-1002), 3) := by decide +kernel
theorem dL_law_321 : decode cL_law 321 = .ok (.if_icmp .ne 28, 3) := by decide +kernel
theorem dL_law_324 : decode cL_law 324 = .ok (.aload_n 1, 1) := by decide +kernel
theorem dL_law_325 : decode cL_law 325 = .ok (.iconst 2, 1) := by decide +kernel
theorem dL_law_326 : decode cL_law 326 = .ok (.invokevirtual 104, 3) := by decide +kernel
theorem dL_law_329 : decode cL_law 329 = .ok (.sipush (-1001), 3) := by decide +kernel
theorem dL_law_332 : decode cL_law 332 = .ok (.if_icmp .ne 17, 3) := by decide +kernel
theorem dL_law_335 : decode cL_law 335 = .ok (.aload_n 1, 1) := by decide +kernel
theorem dL_law_336 : decode cL_law 336 = .ok (.invokevirtual 66, 3) := by decide +kernel
theorem dL_law_339 : decode cL_law 339 = .ok (.lload 6, 2) := by decide +kernel
theorem dL_law_341 : decode cL_law 341 = .ok (.lcmp, 1) := by decide +kernel
theorem dL_law_342 : decode cL_law 342 = .ok (.ifCond .ne 7, 3) := by decide +kernel
theorem dL_law_345 : decode cL_law 345 = .ok (.iconst 1, 1) := by decide +kernel
theorem dL_law_346 : decode cL_law 346 = .ok (.goto 4, 3) := by decide +kernel
theorem dL_law_349 : decode cL_law 349 = .ok (.iconst 0, 1) := by decide +kernel
theorem dL_law_350 : decode cL_law 350 = .ok (.istore 4, 2) := by decide +kernel
theorem dL_law_352 : decode cL_law 352 = .ok (.iload 4, 2) := by decide +kernel
theorem dL_law_354 : decode cL_law 354 = .ok (.ifCond .eq 24, 3) := by decide +kernel
theorem dL_law_357 : decode cL_law 357 = .ok (.aload_n 1, 1) := by decide +kernel
theorem dL_law_358 : decode cL_law 358 = .ok (.iconst 0, 1) := by decide +kernel
theorem dL_law_359 : decode cL_law 359 = .ok (.invokevirtual 104, 3) := by decide +kernel
theorem dL_law_362 : decode cL_law 362 = .ok (.iload 5, 2) := by decide +kernel
theorem dL_law_364 : decode cL_law 364 = .ok (.if_icmp .ne 14, 3) := by decide +kernel
theorem dL_law_367 : decode cL_law 367 = .ok (.aload_n 1, 1) := by decide +kernel
theorem dL_law_368 : decode cL_law 368 = .ok (.invokevirtual 98, 3) := by decide +kernel
theorem dL_law_371 : decode cL_law 371 = .ok (.ifCond .lt 7, 3) := by decide +kernel
theorem dL_law_374 : decode cL_law 374 = .ok (.iconst 1, 1) := by decide +kernel
theorem dL_law_375 : decode cL_law 375 = .ok (.goto 4, 3) := by decide +kernel
theorem dL_law_378 : decode cL_law 378 = .ok (.iconst 0, 1) := by decide +kernel
theorem dL_law_379 : decode cL_law 379 = .ok (.istore 4, 2) := by decide +kernel
theorem dL_law_381 : decode cL_law 381 = .ok (.iload 4, 2) := by decide +kernel
theorem dL_law_383 : decode cL_law 383 = .ok (.ifCond .eq 37, 3) := by decide +kernel
theorem dL_law_386 : decode cL_law 386 = .ok (.aload_n 1, 1) := by decide +kernel
theorem dL_law_387 : decode cL_law 387 = .ok (.iconst 0, 1) := by decide +kernel
theorem dL_law_388 : decode cL_law 388 = .ok (.invokevirtual 116, 3) := by decide +kernel
theorem dL_law_391 : decode cL_law 391 = .ok (.iload 5, 2) := by decide +kernel
theorem dL_law_393 : decode cL_law 393 = .ok (.if_icmp .ne 27, 3) := by decide +kernel
theorem dL_law_396 : decode cL_law 396 = .ok (.aload_n 1, 1) := by decide +kernel
theorem dL_law_397 : decode cL_law 397 = .ok (.invokevirtual 66, 3) := by decide +kernel
theorem dL_law_400 : decode cL_law 400 = .ok (.lload 6, 2) := by decide +kernel
theorem dL_law_402 : decode cL_law 402 = .ok (.lcmp, 1) := by decide +kernel
theorem dL_law_403 : decode cL_law 403 = .ok (.ifCond .ne 17, 3) := by decide +kernel
theorem dL_law_406 : decode cL_law 406 = .ok (.aload_n 1, 1) := by decide +kernel
theorem dL_law_407 : decode cL_law 407 = .ok (.invokevirtual 101, 3) := by decide +kernel
theorem dL_law_410 : decode cL_law 410 = .ok (.sipush (-1003), 3) := by decide +kernel
theorem dL_law_413 : decode cL_law 413 = .ok (.if_icmp .ne 7, 3) := by decide +kernel
theorem dL_law_416 : decode cL_law 416 = .ok (.iconst 1, 1) := by decide +kernel
theorem dL_law_417 : decode cL_law 417 = .ok (.goto 4, 3) := by decide +kernel
theorem dL_law_420 : decode cL_law 420 = .ok (.iconst 0, 1) := by decide +kernel
theorem dL_law_421 : decode cL_law 421 = .ok (.ireturn, 1) := by decide +kernel

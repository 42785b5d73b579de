theorem dX9_type_11 : decode cX9_type 11 = .ok (.sipush (-1002), 3) := by decide +kernel
theorem dX9_type_14 : decode cX9_type 14 = .ok (.ireturn, 1) := by decide +kernel
theorem dX9_type_15 : decode cX9_type 15 = .ok (.aload_n 0, 1) := by decide +kernel
theorem dX9_type_16 : decode cX9_type 16 = .ok (.getfield 63, 3) := by decide +kernel
theorem dX9_type_19 : decode cX9_type 19 = .ok (.bipush 40, 2) := by decide +kernel
theorem dX9_type_21 : decode cX9_type 21 = .ok (.if_icmp .ne 7, 3) := by decide +kernel
theorem dX9_type_24 : decode cX9_type 24 = .ok (.sipush (-1004), 3) := by decide +kernel
theorem dX9_type_27 : decode cX9_type 27 = .ok (.ireturn, 1) := by decide +kernel
theorem dX9_type_28 : decode cX9_type 28 = .ok (.aload_n 0, 1) := by decide +kernel
theorem dX9_type_29 : decode cX9_type 29 = .ok (.getfield 30, 3) := by decide +kernel
theorem dX9_type_32 : decode cX9_type 32 = .ok (.aload_n 0, 1) := by decide +kernel
theorem dX9_type_33 : decode cX9_type 33 = .ok (.getfield 63, 3) := by decide +kernel
theorem dX9_type_36 : decode cX9_type 36 = .ok (.iload_n 1, 1) := by decide +kernel
theorem dX9_type_37 : decode cX9_type 37 = .ok (.iastore, 1) := by decide +kernel
theorem dX9_type_38 : decode cX9_type 38 = .ok (.aload_n 0, 1) := by decide +kernel
theorem dX9_type_39 : decode cX9_type 39 = .ok (.dup, 1) := by decide +kernel
theorem dX9_type_40 : decode cX9_type 40 = .ok (.getfield 63, 3) := by decide +kernel
theorem dX9_type_43 : decode cX9_type 43 = .ok (.iconst 1, 1) := by decide +kernel
theorem dX9_type_44 : decode cX9_type 44 = .ok (.iadd, 1) := by decide +kernel
theorem dX9_type_45 : decode cX9_type 45 = .ok (.putfield 63, 3) := by decide +kernel
theorem dX9_type_48 : decode cX9_type 48 = .ok (.aload_n 0, 1) := by decide +kernel
theorem dX9_type_49 : decode cX9_type 49 = .ok (.getfield 63, 3) := by decide +kernel
theorem dX9_type_52 : decode cX9_type 52 = .ok (.ireturn, 1) := by decide +kernel
theorem dX9_clearBuffer_0 : decode cX9_clearBuffer 0 = .ok (.aload_n 0, 1) := by decide +kernel
theorem dX9_clearBuffer_1 : decode cX9_clearBuffer 1 = .ok (.getfield 63, 3) := by decide +kernel
theorem dX9_clearBuffer_4 : decode cX9_clearBuffer 4 = .ok (.istore_n 1, 1) := by decide +kernel
theorem dX9_clearBuffer_5 : decode cX9_clearBuffer 5 = .ok (.aload_n 0, 1) := by decide +kernel
theorem dX9_clearBuffer_6 : decode cX9_clearBuffer 6 = .ok (.iconst 0, 1) := by decide +kernel
theorem dX9_clearBuffer_7 : decode cX9_clearBuffer 7 = .ok (.putfield 63, 3) := by decide +kernel
theorem dX9_clearBuffer_10 : decode cX9_clearBuffer 10 = .ok (.iload_n 1, 1) := by decide +kernel
theorem dX9_clearBuffer_11 : decode cX9_clearBuffer 11 = .ok (.ireturn, 1) := by decide +kernel
theorem dX9_load_0 : decode cX9_load 0 = .ok (.aload_n 0, 1) := by decide +kernel
theorem dX9_load_1 : decode cX9_load 1 = .ok (.invokevirtual 66, 3) := by decide +kernel
theorem dX9_load_4 : decode cX9_load 4 = .ok (.aload_n 0, 1) := by decide +kernel
theorem dX9_load_5 : decode cX9_load 5 = .ok (.getfield 7, 3) := by decide +kernel
theorem dX9_load_8 : decode cX9_load 8 = .ok (.iconst 0, 1) := by decide +kernel
theorem dX9_load_9 : decode cX9_load 9 = .ok (.iaload, 1) := by decide +kernel
theorem dX9_load_10 : decode cX9_load 10 = .ok (.istore_n 1, 1) := by decide +kernel
theorem dX9_load_11 : decode cX9_load 11 = .ok (.aload_n 0, 1) := by decide +kernel
theorem dX9_load_12 : decode cX9_load 12 = .ok (.getfield 7, 3) := by decide +kernel
theorem dX9_load_15 : decode cX9_load 15 = .ok (.iconst 0, 1) := by decide +kernel
theorem dX9_load_16 : decode cX9_load 16 = .ok (.aload_n 0, 1) := by decide +kernel
theorem dX9_load_17 : decode cX9_load 17 = .ok (.getfield 63, 3) := by decide +kernel
theorem dX9_load_20 : decode cX9_load 20 = .ok (.iastore, 1) := by decide +kernel
theorem dX9_load_21 : decode cX9_load 21 = .ok (.iconst 0, 1) := by decide +kernel
theorem dX9_load_22 : decode cX9_load 22 = .ok (.istore_n 2, 1) := by decide +kernel
theorem dX9_load_23 : decode cX9_load 23 = .ok (.iload_n 2, 1) := by decide +kernel
theorem dX9_load_24 : decode cX9_load 24 = .ok (.aload_n 0, 1) := by decide +kernel
theorem dX9_load_25 : decode cX9_load 25 = .ok (.getfield 63, 3) := by decide +kernel
theorem dX9_load_28 : decode cX9_load 28 = .ok (.if_icmp .ge 23, 3) := by decide +kernel
theorem dX9_load_31 : decode cX9_load 31 = .ok (.aload_n 0, 1) := by decide +kernel
theorem dX9_load_32 : decode cX9_load 32 = .ok (.getfield 7, 3) := by decide +kernel
theorem dX9_load_35 : decode cX9_load 35 = .ok (.iconst 1, 1) := by decide +kernel
theorem dX9_load_36 : decode cX9_load 36 = .ok (.iload_n 2, 1) := by decide +kernel
theorem dX9_load_37 : decode cX9_load 37 = .ok (.iadd, 1) := by decide +kernel
theorem dX9_load_38 : decode cX9_load 38 = .ok (.aload_n 0, 1) := by decide +kernel
theorem dX9_load_39 : decode cX9_load 39 = .ok (.getfield 30, 3) := by decide +kernel
theorem dX9_load_42 : decode cX9_load 42 = .ok (.iload_n 2, 1) := by decide +kernel
theorem dX9_load_43 : decode cX9_load 43 = .ok (.iaload, 1) := by decide +kernel
theorem dX9_load_44 : decode cX9_load 44 = .ok (.iastore, 1) := by decide +kernel
theorem dX9_load_45 : decode cX9_load 45 = .ok (.iinc 2 1, 3) := by decide +kernel
theorem dX9_load_48 : decode cX9_load 48 = .ok (.goto (-25), 3) := by decide +kernel
theorem dX9_load_51 : decode cX9_load 51 = .ok (.iconst 0, 1) := by decide +kernel
theorem dX9_load_52 : decode cX9_load 52 = .ok (.istore_n 2, 1) := by decide +kernel
theorem dX9_load_53 : decode cX9_load 53 = .ok (.iload_n 2, 1) := by decide +kernel
theorem dX9_load_54 : decode cX9_load 54 = .ok (.aload_n 0, 1) := by decide +kernel
theorem dX9_load_55 : decode cX9_load 55 = .ok (.getfield 7, 3) := by decide +kernel
theorem dX9_load_58 : decode cX9_load 58 = .ok (.bipush 122, 2) := by decide +kernel
theorem dX9_load_60 : decode cX9_load 60 = .ok (.iaload, 1) := by decide +kernel
theorem dX9_load_61 : decode cX9_load 61 = .ok (.if_icmp .ge 74, 3) := by decide +kernel
theorem dX9_load_64 : decode cX9_load 64 = .ok (.aload_n 0, 1) := by decide +kernel
theorem dX9_load_65 : decode cX9_load 65 = .ok (.getfield 7, 3) := by decide +kernel
theorem dX9_load_68 : decode cX9_load 68 = .ok (.iload_n 2, 1) := by decide +kernel
theorem dX9_load_69 : decode cX9_load 69 = .ok (.iconst 1, 1) := by decide +kernel
theorem dX9_load_70 : decode cX9_load 70 = .ok (.invokestatic 48, 3) := by decide +kernel
theorem dX9_load_73 : decode cX9_load 73 = .ok (.iconst 0, 1) := by decide +kernel
theorem dX9_load_74 : decode cX9_load 74 = .ok (.iastore, 1) := by decide +kernel
theorem dX9_load_75 : decode cX9_load 75 = .ok (.aload_n 0, 1) := by decide +kernel
theorem dX9_load_76 : decode cX9_load 76 = .ok (.getfield 7, 3) := by decide +kernel
theorem dX9_load_79 : decode cX9_load 79 = .ok (.iload_n 2, 1) := by decide +kernel
theorem dX9_load_80 : decode cX9_load 80 = .ok (.iconst 2, 1) := by decide +kernel
theorem dX9_load_81 : decode cX9_load 81 = .ok (.invokestatic 48, 3) := by decide +kernel
theorem dX9_load_84 : decode cX9_load 84 = .ok (.aload_n 0, 1) := by decide +kernel
theorem dX9_load_85 : decode cX9_load 85 = .ok (.getfield 7, 3) := by decide +kernel
theorem dX9_load_88 : decode cX9_load 88 = .ok (.iload_n 2, 1) := by decide +kernel
theorem dX9_load_89 : decode cX9_load 89 = .ok (.iconst 2, 1) := by decide +kernel
theorem dX9_load_90 : decode cX9_load 90 = .ok (.invokestatic 48, 3) := by decide +kernel
theorem dX9_load_93 : decode cX9_load 93 = .ok (.iaload, 1) := by decide +kernel
theorem dX9_load_94 : decode cX9_load 94 = .ok (.aload_n 0, 1) := by decide +kernel
theorem dX9_load_95 : decode cX9_load 95 = .ok (.getfield 63, 3) := by decide +kernel
theorem dX9_load_98 : decode cX9_load 98 = .ok (.invokestatic 69, 3) := by decide +kernel
theorem dX9_load_101 : decode cX9_load 101 = .ok (.iastore, 1) := by decide +kernel
theorem dX9_load_102 : decode cX9_load 102 = .ok (.aload_n 0, 1) := by decide +kernel
theorem dX9_load_103 : decode cX9_load 103 = .ok (.getfield 7, 3) := by decide +kernel
theorem dX9_load_106 : decode cX9_load 106 = .ok (.iload_n 2, 1) := by decide +kernel
theorem dX9_load_107 : decode cX9_load 107 = .ok (.iconst 3, 1) := by decide +kernel
theorem dX9_load_108 : decode cX9_load 108 = .ok (.invokestatic 48, 3) := by decide +kernel
theorem dX9_load_111 : decode cX9_load 111 = .ok (.aload_n 0, 1) := by decide +kernel
theorem dX9_load_112 : decode cX9_load 112 = .ok (.getfield 7, 3) := by decide +kernel
theorem dX9_load_115 : decode cX9_load 115 = .ok (.iload_n 2, 1) := by decide +kernel
theorem dX9_load_116 : decode cX9_load 116 = .ok (.iconst 3, 1) := by decide +kernel
theorem dX9_load_117 : decode cX9_load 117 = .ok (.invokestatic 48, 3) := by decide +kernel
theorem dX9_load_120 : decode cX9_load 120 = .ok (.iaload, 1) := by decide +kernel
theorem dX9_load_121 : decode cX9_load 121 = .ok (.aload_n 0, 1) := by decide +kernel
theorem dX9_load_122 : decode cX9_load 122 = .ok (.getfield 63, 3) := by decide +kernel
theorem dX9_load_125 : decode cX9_load 125 = .ok (.invokestatic 69, 3) := by decide +kernel
theorem dX9_load_128 : decode cX9_load 128 = .ok (.iastore, 1) := by decide +kernel
theorem dX9_load_129 : decode cX9_load 129 = .ok (.iinc 2 1, 3) := by decide +kernel
theorem dX9_load_132 : decode cX9_load 132 = .ok (.goto (-79), 3) := by decide +kernel
theorem dX9_load_135 : decode cX9_load 135 = .ok (.aload_n 0, 1) := by decide +kernel
theorem dX9_load_136 : decode cX9_load 136 = .ok (.iload_n 1, 1) := by decide +kernel
theorem dX9_load_137 : decode cX9_load 137 = .ok (.invokevirtual 72, 3) := by decide +kernel
theorem dX9_load_140 : decode cX9_load 140 = .ok (.ireturn, 1) := by decide +kernel
theorem dX9_insert_0 : decode cX9_insert 0 = .ok (.aload_n 0, 1) := by decide +kernel
theorem dX9_insert_1 : decode cX9_insert 1 = .ok (.iload_n 1, 1) := by decide +kernel
theorem dX9_insert_2 : decode cX9_insert 2 = .ok (.invokevirtual 76, 3) := by decide +kernel
theorem dX9_insert_5 : decode cX9_insert 5 = .ok (.ifCond .ne 7, 3) := by decide +kernel
theorem dX9_insert_8 : decode cX9_insert 8 = .ok (.sipush (-1001), 3) := by decide +kernel
theorem dX9_insert_11 : decode cX9_insert 11 = .ok (.ireturn, 1) := by decide +kernel
theorem dX9_insert_12 : decode cX9_insert 12 = .ok (.aload_n 0, 1) := by decide +kernel
theorem dX9_insert_13 : decode cX9_insert 13 = .ok (.getfield 7, 3) := by decide +kernel
theorem dX9_insert_16 : decode cX9_insert 16 = .ok (.iconst 0, 1) := by decide +kernel
theorem dX9_insert_17 : decode cX9_insert 17 = .ok (.iaload, 1) := by decide +kernel
theorem dX9_insert_18 : decode cX9_insert 18 = .ok (.aload_n 0, 1) := by decide +kernel
theorem dX9_insert_19 : decode cX9_insert 19 = .ok (.getfield 63, 3) := by decide +kernel
theorem dX9_insert_22 : decode cX9_insert 22 = .ok (.iadd, 1) := by decide +kernel
theorem dX9_insert_23 : decode cX9_insert 23 = .ok (.bipush 120, 2) := by decide +kernel
theorem dX9_insert_25 : decode cX9_insert 25 = .ok (.if_icmp .le 7, 3) := by decide +kernel
theorem dX9_insert_28 : decode cX9_insert 28 = .ok (.sipush (-1004), 3) := by decide +kernel
theorem dX9_insert_31 : decode cX9_insert 31 = .ok (.ireturn, 1) := by decide +kernel
theorem dX9_insert_32 : decode cX9_insert 32 = .ok (.aload_n 0, 1) := by decide +kernel
theorem dX9_insert_33 : decode cX9_insert 33 = .ok (.invokevirtual 66, 3) := by decide +kernel
theorem dX9_insert_36 : decode cX9_insert 36 = .ok (.aload_n 0, 1) := by decide +kernel
theorem dX9_insert_37 : decode cX9_insert 37 = .ok (.getfield 7, 3) := by decide +kernel
theorem dX9_insert_40 : decode cX9_insert 40 = .ok (.iconst 0, 1) := by decide +kernel
theorem dX9_insert_41 : decode cX9_insert 41 = .ok (.iaload, 1) := by decide +kernel
theorem dX9_insert_42 : decode cX9_insert 42 = .ok (.iconst 1, 1) := by decide +kernel
theorem dX9_insert_43 : decode cX9_insert 43 = .ok (.isub, 1) := by decide +kernel
theorem dX9_insert_44 : decode cX9_insert 44 = .ok (.istore_n 2, 1) := by decide +kernel
theorem dX9_insert_45 : decode cX9_insert 45 = .ok (.iload_n 2, 1) := by decide +kernel
theorem dX9_insert_46 : decode cX9_insert 46 = .ok (.iload_n 1, 1) := by decide +kernel
theorem dX9_insert_47 : decode cX9_insert 47 = .ok (.if_icmp .lt 30, 3) := by decide +kernel
theorem dX9_insert_50 : decode cX9_insert 50 = .ok (.aload_n 0, 1) := by decide +kernel
theorem dX9_insert_51 : decode cX9_insert 51 = .ok (.getfield 7, 3) := by decide +kernel
theorem dX9_insert_54 : decode cX9_insert 54 = .ok (.iconst 1, 1) := by decide +kernel
theorem dX9_insert_55 : decode cX9_insert 55 = .ok (.iload_n 2, 1) := by decide +kernel
theorem dX9_insert_56 : decode cX9_insert 56 = .ok (.iadd, 1) := by decide +kernel
theorem dX9_insert_57 : decode cX9_insert 57 = .ok (.aload_n 0, 1) := by decide +kernel
theorem dX9_insert_58 : decode cX9_insert 58 = .ok (.getfield 63, 3) := by decide +kernel
theorem dX9_insert_61 : decode cX9_insert 61 = .ok (.iadd, 1) := by decide +kernel
theorem dX9_insert_62 : decode cX9_insert 62 = .ok (.aload_n 0, 1) := by decide +kernel
theorem dX9_insert_63 : decode cX9_insert 63 = .ok (.getfield 7, 3) := by decide +kernel
theorem dX9_insert_66 : decode cX9_insert 66 = .ok (.iconst 1, 1) := by decide +kernel
theorem dX9_insert_67 : decode cX9_insert 67 = .ok (.iload_n 2, 1) := by decide +kernel
theorem dX9_insert_68 : decode cX9_insert 68 = .ok (.iadd, 1) := by decide +kernel
theorem dX9_insert_69 : decode cX9_insert 69 = .ok (.iaload, 1) := by decide +kernel
theorem dX9_insert_70 : decode cX9_insert 70 = .ok (.iastore, 1) := by decide +kernel
theorem dX9_insert_71 : decode cX9_insert 71 = .ok (.iinc 2 (-1), 3) := by decide +kernel
theorem dX9_insert_74 : decode cX9_insert 74 = .ok (.goto (-29), 3) := by decide +kernel
theorem dX9_insert_77 : decode cX9_insert 77 = .ok (.iconst 0, 1) := by decide +kernel
theorem dX9_insert_78 : decode cX9_insert 78 = .ok (.istore_n 2, 1) := by decide +kernel
theorem dX9_insert_79 : decode cX9_insert 79 = .ok (.iload_n 2, 1) := by decide +kernel
theorem dX9_insert_80 : decode cX9_insert 80 = .ok (.aload_n 0, 1) := by decide +kernel
theorem dX9_insert_81 : decode cX9_insert 81 = .ok (.getfield 63, 3) := by decide +kernel
theorem dX9_insert_84 : decode cX9_insert 84 = .ok (.if_icmp .ge 25, 3) := by decide +kernel
theorem dX9_insert_87 : decode cX9_insert 87 = .ok (.aload_n 0, 1) := by decide +kernel
theorem dX9_insert_88 : decode cX9_insert 88 = .ok (.getfield 7, 3) := by decide +kernel
theorem dX9_insert_91 : decode cX9_insert 91 = .ok (.iconst 1, 1) := by decide +kernel
theorem dX9_insert_92 : decode cX9_insert 92 = .ok (.iload_n 1, 1) := by decide +kernel
theorem dX9_insert_93 : decode cX9_insert 93 = .ok (.iadd, 1) := by decide +kernel
theorem dX9_insert_94 : decode cX9_insert 94 = .ok (.iload_n 2, 1) := by decide +kernel
theorem dX9_insert_95 : decode cX9_insert 95 = .ok (.iadd, 1) := by decide +kernel
theorem dX9_insert_96 : decode cX9_insert 96 = .ok (.aload_n 0, 1) := by decide +kernel
theorem dX9_insert_97 : decode cX9_insert 97 = .ok (.getfield 30, 3) := by decide +kernel
theorem dX9_insert_100 : decode cX9_insert 100 = .ok (.iload_n 2, 1) := by decide +kernel
theorem dX9_insert_101 : decode cX9_insert 101 = .ok (.iaload, 1) := by decide +kernel
theorem dX9_insert_102 : decode cX9_insert 102 = .ok (.iastore, 1) := by decide +kernel
theorem dX9_insert_103 : decode cX9_insert 103 = .ok (.iinc 2 1, 3) := by decide +kernel
theorem dX9_insert_106 : decode cX9_insert 106 = .ok (.goto (-27), 3) := by decide +kernel
theorem dX9_insert_109 : decode cX9_insert 109 = .ok (.aload_n 0, 1) := by decide +kernel
theorem dX9_insert_110 : decode cX9_insert 110 = .ok (.getfield 7, 3) := by decide +kernel
theorem dX9_insert_113 : decode cX9_insert 113 = .ok (.iconst 0, 1) := by decide +kernel
theorem dX9_insert_114 : decode cX9_insert 114 = .ok (.dup2, 1) := by decide +kernel
theorem dX9_insert_115 : decode cX9_insert 115 = .ok (.iaload, 1) := by decide +kernel
theorem dX9_insert_116 : decode cX9_insert 116 = .ok (.aload_n 0, 1) := by decide +kernel
theorem dX9_insert_117 : decode cX9_insert 117 = .ok (.getfield 63, 3) := by decide +kernel
theorem dX9_insert_120 : decode cX9_insert 120 = .ok (.iadd, 1) := by decide +kernel
theorem dX9_insert_121 : decode cX9_insert 121 = .ok (.iastore, 1) := by decide +kernel
theorem dX9_insert_122 : decode cX9_insert 122 = .ok (.iconst 0, 1) := by decide +kernel
theorem dX9_insert_123 : decode cX9_insert 123 = .ok (.istore_n 2, 1) := by decide +kernel
theorem dX9_insert_124 : decode cX9_insert 124 = .ok (.iload_n 2, 1) := by decide +kernel
theorem dX9_insert_125 : decode cX9_insert 125 = .ok (.aload_n 0, 1) := by decide +kernel
theorem dX9_insert_126 : decode cX9_insert 126 = .ok (.getfield 7, 3) := by decide +kernel
theorem dX9_insert_129 : decode cX9_insert 129 = .ok (.bipush 122, 2) := by decide +kernel
theorem dX9_insert_131 : decode cX9_insert 131 = .ok (.iaload, 1) := by decide +kernel
theorem dX9_insert_132 : decode cX9_insert 132 = .ok (.if_icmp .ge 93, 3) := by decide +kernel
theorem dX9_insert_135 : decode cX9_insert 135 = .ok (.aload_n 0, 1) := by decide +kernel
theorem dX9_insert_136 : decode cX9_insert 136 = .ok (.getfield 7, 3) := by decide +kernel
theorem dX9_insert_139 : decode cX9_insert 139 = .ok (.iload_n 2, 1) := by decide +kernel
theorem dX9_insert_140 : decode cX9_insert 140 = .ok (.iconst 2, 1) := by decide +kernel
theorem dX9_insert_141 : decode cX9_insert 141 = .ok (.invokestatic 48, 3) := by decide +kernel
theorem dX9_insert_144 : decode cX9_insert 144 = .ok (.iaload, 1) := by decide +kernel
theorem dX9_insert_145 : decode cX9_insert 145 = .ok (.iload_n 1, 1) := by decide +kernel
theorem dX9_insert_146 : decode cX9_insert 146 = .ok (.if_icmp .lt 7, 3) := by decide +kernel
theorem dX9_insert_149 : decode cX9_insert 149 = .ok (.iconst 1, 1) := by decide +kernel
theorem dX9_insert_150 : decode cX9_insert 150 = .ok (.goto 4, 3) := by decide +kernel
theorem dX9_insert_153 : decode cX9_insert 153 = .ok (.iconst 0, 1) := by decide +kernel
theorem dX9_insert_154 : decode cX9_insert 154 = .ok (.istore_n 3, 1) := by decide +kernel
theorem dX9_insert_155 : decode cX9_insert 155 = .ok (.aload_n 0, 1) := by decide +kernel
theorem dX9_insert_156 : decode cX9_insert 156 = .ok (.getfield 7, 3) := by decide +kernel
theorem dX9_insert_159 : decode cX9_insert 159 = .ok (.iload_n 2, 1) := by decide +kernel
theorem dX9_insert_160 : decode cX9_insert 160 = .ok (.iconst 3, 1) := by decide +kernel
theorem dX9_insert_161 : decode cX9_insert 161 = .ok (.invokestatic 48, 3) := by decide +kernel
theorem dX9_insert_164 : decode cX9_insert 164 = .ok (.dup2, 1) := by decide +kernel
theorem dX9_insert_165 : decode cX9_insert 165 = .ok (.iaload, 1) := by decide +kernel
theorem dX9_insert_166 : decode cX9_insert 166 = .ok (.iload_n 3, 1) := by decide +kernel
theorem dX9_insert_167 : decode cX9_insert 167 = .ok (.ifCond .ne 17, 3) := by decide +kernel
theorem dX9_insert_170 : decode cX9_insert 170 = .ok (.aload_n 0, 1) := by decide +kernel
theorem dX9_insert_171 : decode cX9_insert 171 = .ok (.getfield 7, 3) := by decide +kernel
theorem dX9_insert_174 : decode cX9_insert 174 = .ok (.iload_n 2, 1) := by decide +kernel
theorem dX9_insert_175 : decode cX9_insert 175 = .ok (.iconst 3, 1) := by decide +kernel
theorem dX9_insert_176 : decode cX9_insert 176 = .ok (.invokestatic 48, 3) := by decide +kernel
theorem dX9_insert_179 : decode cX9_insert 179 = .ok (.iaload, 1) := by decide +kernel
theorem dX9_insert_180 : decode cX9_insert 180 = .ok (.iload_n 1, 1) := by decide +kernel
theorem dX9_insert_181 : decode cX9_insert 181 = .ok (.if_icmp .le 10, 3) := by decide +kernel
theorem dX9_insert_184 : decode cX9_insert 184 = .ok (.aload_n 0, 1) := by decide +kernel
theorem dX9_insert_185 : decode cX9_insert 185 = .ok (.getfield 63, 3) := by decide +kernel
theorem dX9_insert_188 : decode cX9_insert 188 = .ok (.goto 4, 3) := by decide +kernel
theorem dX9_insert_191 : decode cX9_insert 191 = .ok (.iconst 0, 1) := by decide +kernel
theorem dX9_insert_192 : decode cX9_insert 192 = .ok (.iadd, 1) := by decide +kernel
theorem dX9_insert_193 : decode cX9_insert 193 = .ok (.iastore, 1) := by decide +kernel
theorem dX9_insert_194 : decode cX9_insert 194 = .ok (.aload_n 0, 1) := by decide +kernel
theorem dX9_insert_195 : decode cX9_insert 195 = .ok (.getfield 7, 3) := by decide +kernel
theorem dX9_insert_198 : decode cX9_insert 198 = .ok (.iload_n 2, 1) := by decide +kernel
theorem dX9_insert_199 : decode cX9_insert 199 = .ok (.iconst 2, 1) := by decide +kernel
theorem dX9_insert_200 : decode cX9_insert 200 = .ok (.invokestatic 48, 3) := by decide +kernel
theorem dX9_insert_203 : decode cX9_insert 203 = .ok (.dup2, 1) := by decide +kernel
theorem dX9_insert_204 : decode cX9_insert 204 = .ok (.iaload, 1) := by decide +kernel
theorem dX9_insert_205 : decode cX9_insert 205 = .ok (.iload_n 3, 1) := by decide +kernel
theorem dX9_insert_206 : decode cX9_insert 206 = .ok (.ifCond .eq 10, 3) := by decide +kernel
theorem dX9_insert_209 : decode cX9_insert 209 = .ok (.aload_n 0, 1) := by decide +kernel
theorem dX9_insert_210 : decode cX9_insert 210 = .ok (.getfield 63, 3) := by decide +kernel
theorem dX9_insert_213 : decode cX9_insert 213 = .ok (.goto 4, 3) := by decide +kernel
theorem dX9_insert_216 : decode cX9_insert 216 = .ok (.iconst 0, 1) := by decide +kernel
theorem dX9_insert_217 : decode cX9_insert 217 = .ok (.iadd, 1) := by decide +kernel
theorem dX9_insert_218 : decode cX9_insert 218 = .ok (.iastore, 1) := by decide +kernel
theorem dX9_insert_219 : decode cX9_insert 219 = .ok (.iinc 2 1, 3) := by decide +kernel
theorem dX9_insert_222 : decode cX9_insert 222 = .ok (.goto (-98), 3) := by decide +kernel
theorem dX9_insert_225 : decode cX9_insert 225 = .ok (.aload_n 0, 1) := by decide +kernel
theorem dX9_insert_226 : decode cX9_insert 226 = .ok (.aload_n 0, 1) := by decide +kernel
theorem dX9_insert_227 : decode cX9_insert 227 = .ok (.getfield 7, 3) := by decide +kernel
theorem dX9_insert_230 : decode cX9_insert 230 = .ok (.iconst 0, 1) := by decide +kernel
theorem dX9_insert_231 : decode cX9_insert 231 = .ok (.iaload, 1) := by decide +kernel
theorem dX9_insert_232 : decode cX9_insert 232 = .ok (.invokevirtual 72, 3) := by decide +kernel
theorem dX9_insert_235 : decode cX9_insert 235 = .ok (.ireturn, 1) := by decide +kernel
theorem dX9_without_0 : decode cX9_without 0 = .ok (.iload_n 0, 1) := by decide +kernel
theorem dX9_without_1 : decode cX9_without 1 = .ok (.iload_n 1, 1) := by decide +kernel
theorem dX9_without_2 : decode cX9_without 2 = .ok (.iload_n 2, 1) := by decide +kernel
theorem dX9_without_3 : decode cX9_without 3 = .ok (.iadd, 1) := by decide +kernel
theorem dX9_without_4 : decode cX9_without 4 = .ok (.if_icmp .lt 9, 3) := by decide +kernel
theorem dX9_without_7 : decode cX9_without 7 = .ok (.iload_n 0, 1) := by decide +kernel
theorem dX9_without_8 : decode cX9_without 8 = .ok (.iload_n 2, 1) := by decide +kernel
theorem dX9_without_9 : decode cX9_without 9 = .ok (.isub, 1) := by decide +kernel
theorem dX9_without_10 : decode cX9_without 10 = .ok (.goto 8, 3) := by decide +kernel
theorem dX9_without_13 : decode cX9_without 13 = .ok (.iload_n 0, 1) := by decide +kernel
theorem dX9_without_14 : decode cX9_without 14 = .ok (.iload_n 1, 1) := by decide +kernel
theorem dX9_without_15 : decode cX9_without 15 = .ok (.invokestatic 69, 3) := by decide +kernel
theorem dX9_without_18 : decode cX9_without 18 = .ok (.ireturn, 1) := by decide +kernel
theorem dX9_delete_0 : decode cX9_delete 0 = .ok (.aload_n 0, 1) := by decide +kernel
theorem dX9_delete_1 : decode cX9_delete 1 = .ok (.iload_n 1, 1) := by decide +kernel
theorem dX9_delete_2 : decode cX9_delete 2 = .ok (.invokevirtual 76, 3) := by decide +kernel
theorem dX9_delete_5 : decode cX9_delete 5 = .ok (.ifCond .ne 7, 3) := by decide +kernel
theorem dX9_delete_8 : decode cX9_delete 8 = .ok (.sipush (-1001), 3) := by decide +kernel
theorem dX9_delete_11 : decode cX9_delete 11 = .ok (.ireturn, 1) := by decide +kernel
theorem dX9_delete_12 : decode cX9_delete 12 = .ok (.iload_n 2, 1) := by decide +kernel
theorem dX9_delete_13 : decode cX9_delete 13 = .ok (.iconst 0, 1) := by decide +kernel
theorem dX9_delete_14 : decode cX9_delete 14 = .ok (.bipush 120, 2) := by decide +kernel
theorem dX9_delete_16 : decode cX9_delete 16 = .ok (.invokestatic 52, 3) := by decide +kernel
theorem dX9_delete_19 : decode cX9_delete 19 = .ok (.ifCond .eq 15, 3) := by decide +kernel
theorem dX9_delete_22 : decode cX9_delete 22 = .ok (.iload_n 1, 1) := by decide +kernel
theorem dX9_delete_23 : decode cX9_delete 23 = .ok (.iload_n 2, 1) := by decide +kernel
theorem dX9_delete_24 : decode cX9_delete 24 = .ok (.iadd, 1) := by decide +kernel
theorem dX9_delete_25 : decode cX9_delete 25 = .ok (.aload_n 0, 1) := by decide +kernel
theorem dX9_delete_26 : decode cX9_delete 26 = .ok (.getfield 7, 3) := by decide +kernel
theorem dX9_delete_29 : decode cX9_delete 29 = .ok (.iconst 0, 1) := by decide +kernel
theorem dX9_delete_30 : decode cX9_delete 30 = .ok (.iaload, 1) := by decide +kernel
theorem dX9_delete_31 : decode cX9_delete 31 = .ok (.if_icmp .le 7, 3) := by decide +kernel
theorem dX9_delete_34 : decode cX9_delete 34 = .ok (.sipush (-1002), 3) := by decide +kernel
theorem dX9_delete_37 : decode cX9_delete 37 = .ok (.ireturn, 1) := by decide +kernel
theorem dX9_delete_38 : decode cX9_delete 38 = .ok (.aload_n 0, 1) := by decide +kernel
theorem dX9_delete_39 : decode cX9_delete 39 = .ok (.invokevirtual 66, 3) := by decide +kernel
theorem dX9_delete_42 : decode cX9_delete 42 = .ok (.iload_n 1, 1) := by decide +kernel
theorem dX9_delete_43 : decode cX9_delete 43 = .ok (.istore_n 3, 1) := by decide +kernel
theorem dX9_delete_44 : decode cX9_delete 44 = .ok (.iload_n 3, 1) := by decide +kernel
theorem dX9_delete_45 : decode cX9_delete 45 = .ok (.iload_n 2, 1) := by decide +kernel
theorem dX9_delete_46 : decode cX9_delete 46 = .ok (.iadd, 1) := by decide +kernel
theorem dX9_delete_47 : decode cX9_delete 47 = .ok (.aload_n 0, 1) := by decide +kernel
theorem dX9_delete_48 : decode cX9_delete 48 = .ok (.getfield 7, 3) := by decide +kernel
theorem dX9_delete_51 : decode cX9_delete 51 = .ok (.iconst 0, 1) := by decide +kernel
theorem dX9_delete_52 : decode cX9_delete 52 = .ok (.iaload, 1) := by decide +kernel
theorem dX9_delete_53 : decode cX9_delete 53 = .ok (.if_icmp .ge 27, 3) := by decide +kernel
theorem dX9_delete_56 : decode cX9_delete 56 = .ok (.aload_n 0, 1) := by decide +kernel
theorem dX9_delete_57 : decode cX9_delete 57 = .ok (.getfield 7, 3) := by decide +kernel
theorem dX9_delete_60 : decode cX9_delete 60 = .ok (.iconst 1, 1) := by decide +kernel
theorem dX9_delete_61 : decode cX9_delete 61 = .ok (.iload_n 3, 1) := by decide +kernel
theorem dX9_delete_62 : decode cX9_delete 62 = .ok (.iadd, 1) := by decide +kernel
theorem dX9_delete_63 : decode cX9_delete 63 = .ok (.aload_n 0, 1) := by decide +kernel
theorem dX9_delete_64 : decode cX9_delete 64 = .ok (.getfield 7, 3) := by decide +kernel
theorem dX9_delete_67 : decode cX9_delete 67 = .ok (.iconst 1, 1) := by decide +kernel
theorem dX9_delete_68 : decode cX9_delete 68 = .ok (.iload_n 3, 1) := by decide +kernel
theorem dX9_delete_69 : decode cX9_delete 69 = .ok (.iadd, 1) := by decide +kernel
theorem dX9_delete_70 : decode cX9_delete 70 = .ok (.iload_n 2, 1) := by decide +kernel
theorem dX9_delete_71 : decode cX9_delete 71 = .ok (.iadd, 1) := by decide +kernel
theorem dX9_delete_72 : decode cX9_delete 72 = .ok (.iaload, 1) := by decide +kernel
theorem dX9_delete_73 : decode cX9_delete 73 = .ok (.iastore, 1) := by decide +kernel
theorem dX9_delete_74 : decode cX9_delete 74 = .ok (.iinc 3 1, 3) := by decide +kernel
theorem dX9_delete_77 : decode cX9_delete 77 = .ok (.goto (-33), 3) := by decide +kernel
theorem dX9_delete_80 : decode cX9_delete 80 = .ok (.aload_n 0, 1) := by decide +kernel
theorem dX9_delete_81 : decode cX9_delete 81 = .ok (.getfield 7, 3) := by decide +kernel
theorem dX9_delete_84 : decode cX9_delete 84 = .ok (.iconst 0, 1) := by decide +kernel
theorem dX9_delete_85 : decode cX9_delete 85 = .ok (.dup2, 1) := by decide +kernel
theorem dX9_delete_86 : decode cX9_delete 86 = .ok (.iaload, 1) := by decide +kernel
theorem dX9_delete_87 : decode cX9_delete 87 = .ok (.iload_n 2, 1) := by decide +kernel
theorem dX9_delete_88 : decode cX9_delete 88 = .ok (.isub, 1) := by decide +kernel
theorem dX9_delete_89 : decode cX9_delete 89 = .ok (.iastore, 1) := by decide +kernel
theorem dX9_delete_90 : decode cX9_delete 90 = .ok (.iconst 0, 1) := by decide +kernel
theorem dX9_delete_91 : decode cX9_delete 91 = .ok (.istore_n 3, 1) := by decide +kernel
theorem dX9_delete_92 : decode cX9_delete 92 = .ok (.iconst 0, 1) := by decide +kernel
theorem dX9_delete_93 : decode cX9_delete 93 = .ok (.istore 4, 2) := by decide +kernel
theorem dX9_delete_95 : decode cX9_delete 95 = .ok (.iload 4, 2) := by decide +kernel
theorem dX9_delete_97 : decode cX9_delete 97 = .ok (.aload_n 0, 1) := by decide +kernel
theorem dX9_delete_98 : decode cX9_delete 98 = .ok (.getfield 7, 3) := by decide +kernel
theorem dX9_delete_101 : decode cX9_delete 101 = .ok (.bipush 122, 2) := by decide +kernel
theorem dX9_delete_103 : decode cX9_delete 103 = .ok (.iaload, 1) := by decide +kernel
theorem dX9_delete_104 : decode cX9_delete 104 = .ok (.if_icmp .ge 154, 3) := by decide +kernel
theorem dX9_delete_107 : decode cX9_delete 107 = .ok (.aload_n 0, 1) := by decide +kernel
theorem dX9_delete_108 : decode cX9_delete 108 = .ok (.getfield 7, 3) := by decide +kernel
theorem dX9_delete_111 : decode cX9_delete 111 = .ok (.iload 4, 2) := by decide +kernel
theorem dX9_delete_113 : decode cX9_delete 113 = .ok (.iconst 2, 1) := by decide +kernel
theorem dX9_delete_114 : decode cX9_delete 114 = .ok (.invokestatic 48, 3) := by decide +kernel
theorem dX9_delete_117 : decode cX9_delete 117 = .ok (.aload_n 0, 1) := by decide +kernel
theorem dX9_delete_118 : decode cX9_delete 118 = .ok (.getfield 7, 3) := by decide +kernel
theorem dX9_delete_121 : decode cX9_delete 121 = .ok (.iload 4, 2) := by decide +kernel
theorem dX9_delete_123 : decode cX9_delete 123 = .ok (.iconst 2, 1) := by decide +kernel
theorem dX9_delete_124 : decode cX9_delete 124 = .ok (.invokestatic 48, 3) := by decide +kernel
theorem dX9_delete_127 : decode cX9_delete 127 = .ok (.iaload, 1) := by decide +kernel
theorem dX9_delete_128 : decode cX9_delete 128 = .ok (.iload_n 1, 1) := by decide +kernel
theorem dX9_delete_129 : decode cX9_delete 129 = .ok (.iload_n 2, 1) := by decide +kernel
theorem dX9_delete_130 : decode cX9_delete 130 = .ok (.invokestatic 80, 3) := by decide +kernel
theorem dX9_delete_133 : decode cX9_delete 133 = .ok (.iastore, 1) := by decide +kernel
theorem dX9_delete_134 : decode cX9_delete 134 = .ok (.aload_n 0, 1) := by decide +kernel
theorem dX9_delete_135 : decode cX9_delete 135 = .ok (.getfield 7, 3) := by decide +kernel
theorem dX9_delete_138 : decode cX9_delete 138 = .ok (.iload 4, 2) := by decide +kernel
theorem dX9_delete_140 : decode cX9_delete 140 = .ok (.iconst 3, 1) := by decide +kernel
theorem dX9_delete_141 : decode cX9_delete 141 = .ok (.invokestatic 48, 3) := by decide +kernel
theorem dX9_delete_144 : decode cX9_delete 144 = .ok (.aload_n 0, 1) := by decide +kernel
theorem dX9_delete_145 : decode cX9_delete 145 = .ok (.getfield 7, 3) := by decide +kernel
theorem dX9_delete_148 : decode cX9_delete 148 = .ok (.iload 4, 2) := by decide +kernel
theorem dX9_delete_150 : decode cX9_delete 150 = .ok (.iconst 3, 1) := by decide +kernel
theorem dX9_delete_151 : decode cX9_delete 151 = .ok (.invokestatic 48, 3) := by decide +kernel
theorem dX9_delete_154 : decode cX9_delete 154 = .ok (.iaload, 1) := by decide +kernel
theorem dX9_delete_155 : decode cX9_delete 155 = .ok (.iload_n 1, 1) := by decide +kernel
theorem dX9_delete_156 : decode cX9_delete 156 = .ok (.iload_n 2, 1) := by decide +kernel
theorem dX9_delete_157 : decode cX9_delete 157 = .ok (.invokestatic 80, 3) := by decide +kernel
theorem dX9_delete_160 : decode cX9_delete 160 = .ok (.iastore, 1) := by decide +kernel
theorem dX9_delete_161 : decode cX9_delete 161 = .ok (.aload_n 0, 1) := by decide +kernel
theorem dX9_delete_162 : decode cX9_delete 162 = .ok (.getfield 7, 3) := by decide +kernel
theorem dX9_delete_165 : decode cX9_delete 165 = .ok (.iload 4, 2) := by decide +kernel
theorem dX9_delete_167 : decode cX9_delete 167 = .ok (.iconst 1, 1) := by decide +kernel
theorem dX9_delete_168 : decode cX9_delete 168 = .ok (.invokestatic 48, 3) := by decide +kernel
theorem dX9_delete_171 : decode cX9_delete 171 = .ok (.iaload, 1) := by decide +kernel
theorem dX9_delete_172 : decode cX9_delete 172 = .ok (.iconst 1, 1) := by decide +kernel
theorem dX9_delete_173 : decode cX9_delete 173 = .ok (.if_icmp .ne 32, 3) := by decide +kernel
theorem dX9_delete_176 : decode cX9_delete 176 = .ok (.aload_n 0, 1) := by decide +kernel
theorem dX9_delete_177 : decode cX9_delete 177 = .ok (.getfield 7, 3) := by decide +kernel
theorem dX9_delete_180 : decode cX9_delete 180 = .ok (.iload 4, 2) := by decide +kernel
theorem dX9_delete_182 : decode cX9_delete 182 = .ok (.iconst 2, 1) := by decide +kernel
theorem dX9_delete_183 : decode cX9_delete 183 = .ok (.invokestatic 48, 3) := by decide +kernel
theorem dX9_delete_186 : decode cX9_delete 186 = .ok (.iaload, 1) := by decide +kernel
theorem dX9_delete_187 : decode cX9_delete 187 = .ok (.aload_n 0, 1) := by decide +kernel
theorem dX9_delete_188 : decode cX9_delete 188 = .ok (.getfield 7, 3) := by decide +kernel
theorem dX9_delete_191 : decode cX9_delete 191 = .ok (.iload 4, 2) := by decide +kernel
theorem dX9_delete_193 : decode cX9_delete 193 = .ok (.iconst 3, 1) := by decide +kernel
theorem dX9_delete_194 : decode cX9_delete 194 = .ok (.invokestatic 48, 3) := by decide +kernel
theorem dX9_delete_197 : decode cX9_delete 197 = .ok (.iaload, 1) := by decide +kernel
theorem dX9_delete_198 : decode cX9_delete 198 = .ok (.if_icmp .ne 7, 3) := by decide +kernel
theorem dX9_delete_201 : decode cX9_delete 201 = .ok (.iconst 1, 1) := by decide +kernel
theorem dX9_delete_202 : decode cX9_delete 202 = .ok (.goto 4, 3) := by decide +kernel
theorem dX9_delete_205 : decode cX9_delete 205 = .ok (.iconst 0, 1) := by decide +kernel
theorem dX9_delete_206 : decode cX9_delete 206 = .ok (.istore 5, 2) := by decide +kernel
theorem dX9_delete_208 : decode cX9_delete 208 = .ok (.aload_n 0, 1) := by decide +kernel
theorem dX9_delete_209 : decode cX9_delete 209 = .ok (.getfield 7, 3) := by decide +kernel
theorem dX9_delete_212 : decode cX9_delete 212 = .ok (.iload 4, 2) := by decide +kernel
theorem dX9_delete_214 : decode cX9_delete 214 = .ok (.iconst 1, 1) := by decide +kernel
theorem dX9_delete_215 : decode cX9_delete 215 = .ok (.invokestatic 48, 3) := by decide +kernel
theorem dX9_delete_218 : decode cX9_delete 218 = .ok (.iload 5, 2) := by decide +kernel
theorem dX9_delete_220 : decode cX9_delete 220 = .ok (.ifCond .eq 7, 3) := by decide +kernel
theorem dX9_delete_223 : decode cX9_delete 223 = .ok (.iconst 0, 1) := by decide +kernel
theorem dX9_delete_224 : decode cX9_delete 224 = .ok (.goto 14, 3) := by decide +kernel
theorem dX9_delete_227 : decode cX9_delete 227 = .ok (.aload_n 0, 1) := by decide +kernel
theorem dX9_delete_228 : decode cX9_delete 228 = .ok (.getfield 7, 3) := by decide +kernel
theorem dX9_delete_231 : decode cX9_delete 231 = .ok (.iload 4, 2) := by decide +kernel
theorem dX9_delete_233 : decode cX9_delete 233 = .ok (.iconst 1, 1) := by decide +kernel
theorem dX9_delete_234 : decode cX9_delete 234 = .ok (.invokestatic 48, 3) := by decide +kernel
theorem dX9_delete_237 : decode cX9_delete 237 = .ok (.iaload, 1) := by decide +kernel
theorem dX9_delete_238 : decode cX9_delete 238 = .ok (.iastore, 1) := by decide +kernel
theorem dX9_delete_239 : decode cX9_delete 239 = .ok (.iload_n 3, 1) := by decide +kernel
theorem dX9_delete_240 : decode cX9_delete 240 = .ok (.iload 5, 2) := by decide +kernel
theorem dX9_delete_242 : decode cX9_delete 242 = .ok (.ifCond .eq 7, 3) := by decide +kernel
theorem dX9_delete_245 : decode cX9_delete 245 = .ok (.iconst 1, 1) := by decide +kernel
theorem dX9_delete_246 : decode cX9_delete 246 = .ok (.goto 4, 3) := by decide +kernel
theorem dX9_delete_249 : decode cX9_delete 249 = .ok (.iconst 0, 1) := by decide +kernel
theorem dX9_delete_250 : decode cX9_delete 250 = .ok (.iadd, 1) := by decide +kernel
theorem dX9_delete_251 : decode cX9_delete 251 = .ok (.istore_n 3, 1) := by decide +kernel
theorem dX9_delete_252 : decode cX9_delete 252 = .ok (.iinc 4 1, 3) := by decide +kernel
theorem dX9_delete_255 : decode cX9_delete 255 = .ok (.goto (-160), 3) := by decide +kernel
theorem dX9_delete_258 : decode cX9_delete 258 = .ok (.aload_n 0, 1) := by decide +kernel
theorem dX9_delete_259 : decode cX9_delete 259 = .ok (.iload_n 3, 1) := by decide +kernel
theorem dX9_delete_260 : decode cX9_delete 260 = .ok (.invokevirtual 72, 3) := by decide +kernel
theorem dX9_delete_263 : decode cX9_delete 263 = .ok (.ireturn, 1) := by decide +kernel
theorem dX9_quotesPart_0 : decode cX9_quotesPart 0 = .ok (.aload_n 0, 1) := by decide +kernel
theorem dX9_quotesPart_1 : decode cX9_quotesPart 1 = .ok (.getfield 7, 3) := by decide +kernel
theorem dX9_quotesPart_4 : decode cX9_quotesPart 4 = .ok (.iload_n 1, 1) := by decide +kernel
theorem dX9_quotesPart_5 : decode cX9_quotesPart 5 = .ok (.iload_n 2, 1) := by decide +kernel
theorem dX9_quotesPart_6 : decode cX9_quotesPart 6 = .ok (.invokestatic 48, 3) := by decide +kernel
theorem dX9_quotesPart_9 : decode cX9_quotesPart 9 = .ok (.iload 4, 2) := by decide +kernel
theorem dX9_quotesPart_11 : decode cX9_quotesPart 11 = .ok (.iload_n 3, 1) := by decide +kernel
theorem dX9_quotesPart_12 : decode cX9_quotesPart 12 = .ok (.isub, 1) := by decide +kernel
theorem dX9_quotesPart_13 : decode cX9_quotesPart 13 = .ok (.iastore, 1) := by decide +kernel
theorem dX9_quotesPart_14 : decode cX9_quotesPart 14 = .ok (.iload_n 3, 1) := by decide +kernel
theorem dX9_quotesPart_15 : decode cX9_quotesPart 15 = .ok (.istore 5, 2) := by decide +kernel
theorem dX9_quotesPart_17 : decode cX9_quotesPart 17 = .ok (.iload 5, 2) := by decide +kernel
theorem dX9_quotesPart_19 : decode cX9_quotesPart 19 = .ok (.iload 4, 2) := by decide +kernel
theorem dX9_quotesPart_21 : decode cX9_quotesPart 21 = .ok (.if_icmp .ge 35, 3) := by decide +kernel
theorem dX9_quotesPart_24 : decode cX9_quotesPart 24 = .ok (.aload_n 0, 1) := by decide +kernel
theorem dX9_quotesPart_25 : decode cX9_quotesPart 25 = .ok (.getfield 7, 3) := by decide +kernel
theorem dX9_quotesPart_28 : decode cX9_quotesPart 28 = .ok (.iload_n 1, 1) := by decide +kernel
theorem dX9_quotesPart_29 : decode cX9_quotesPart 29 = .ok (.iload_n 2, 1) := by decide +kernel
theorem dX9_quotesPart_30 : decode cX9_quotesPart 30 = .ok (.iconst 1, 1) := by decide +kernel
theorem dX9_quotesPart_31 : decode cX9_quotesPart 31 = .ok (.iadd, 1) := by decide +kernel
theorem dX9_quotesPart_32 : decode cX9_quotesPart 32 = .ok (.iload 5, 2) := by decide +kernel
theorem dX9_quotesPart_34 : decode cX9_quotesPart 34 = .ok (.iadd, 1) := by decide +kernel
theorem dX9_quotesPart_35 : decode cX9_quotesPart 35 = .ok (.iload_n 3, 1) := by decide +kernel
theorem dX9_quotesPart_36 : decode cX9_quotesPart 36 = .ok (.isub, 1) := by decide +kernel
theorem dX9_quotesPart_37 : decode cX9_quotesPart 37 = .ok (.invokestatic 48, 3) := by decide +kernel
theorem dX9_quotesPart_40 : decode cX9_quotesPart 40 = .ok (.aload_n 0, 1) := by decide +kernel
theorem dX9_quotesPart_41 : decode cX9_quotesPart 41 = .ok (.getfield 7, 3) := by decide +kernel
theorem dX9_quotesPart_44 : decode cX9_quotesPart 44 = .ok (.iconst 1, 1) := by decide +kernel
theorem dX9_quotesPart_45 : decode cX9_quotesPart 45 = .ok (.iload 5, 2) := by decide +kernel
theorem dX9_quotesPart_47 : decode cX9_quotesPart 47 = .ok (.iadd, 1) := by decide +kernel
theorem dX9_quotesPart_48 : decode cX9_quotesPart 48 = .ok (.iaload, 1) := by decide +kernel
theorem dX9_quotesPart_49 : decode cX9_quotesPart 49 = .ok (.iastore, 1) := by decide +kernel
theorem dX9_quotesPart_50 : decode cX9_quotesPart 50 = .ok (.iinc 5 1, 3) := by decide +kernel
theorem dX9_quotesPart_53 : decode cX9_quotesPart 53 = .ok (.goto (-36), 3) := by decide +kernel
theorem dX9_quotesPart_56 : decode cX9_quotesPart 56 = .ok (.return_, 1) := by decide +kernel
theorem dX9_quotes_0 : decode cX9_quotes 0 = .ok (.aload_n 0, 1) := by decide +kernel
theorem dX9_quotes_1 : decode cX9_quotes 1 = .ok (.getfield 7, 3) := by decide +kernel
theorem dX9_quotes_4 : decode cX9_quotes 4 = .ok (.iload_n 1, 1) := by decide +kernel
theorem dX9_quotes_5 : decode cX9_quotes 5 = .ok (.iconst 2, 1) := by decide +kernel
theorem dX9_quotes_6 : decode cX9_quotes 6 = .ok (.invokestatic 48, 3) := by decide +kernel
theorem dX9_quotes_9 : decode cX9_quotes 9 = .ok (.iaload, 1) := by decide +kernel
theorem dX9_quotes_10 : decode cX9_quotes 10 = .ok (.istore_n 2, 1) := by decide +kernel
theorem dX9_quotes_11 : decode cX9_quotes 11 = .ok (.aload_n 0, 1) := by decide +kernel
theorem dX9_quotes_12 : decode cX9_quotes 12 = .ok (.getfield 7, 3) := by decide +kernel
theorem dX9_quotes_15 : decode cX9_quotes 15 = .ok (.iload_n 1, 1) := by decide +kernel
theorem dX9_quotes_16 : decode cX9_quotes 16 = .ok (.iconst 3, 1) := by decide +kernel
theorem dX9_quotes_17 : decode cX9_quotes 17 = .ok (.invokestatic 48, 3) := by decide +kernel
theorem dX9_quotes_20 : decode cX9_quotes 20 = .ok (.iaload, 1) := by decide +kernel
theorem dX9_quotes_21 : decode cX9_quotes 21 = .ok (.istore_n 3, 1) := by decide +kernel
theorem dX9_quotes_22 : decode cX9_quotes 22 = .ok (.aload_n 0, 1) := by decide +kernel
theorem dX9_quotes_23 : decode cX9_quotes 23 = .ok (.iload_n 1, 1) := by decide +kernel
theorem dX9_quotes_24 : decode cX9_quotes 24 = .ok (.iconst 5, 1) := by decide +kernel
theorem dX9_quotes_25 : decode cX9_quotes 25 = .ok (.iload_n 2, 1) := by decide +kernel
theorem dX9_quotes_26 : decode cX9_quotes 26 = .ok (.bipush 6, 2) := by decide +kernel
theorem dX9_quotes_28 : decode cX9_quotes 28 = .ok (.if_icmp .ge 7, 3) := by decide +kernel
theorem dX9_quotes_31 : decode cX9_quotes 31 = .ok (.iconst 0, 1) := by decide +kernel
theorem dX9_quotes_32 : decode cX9_quotes 32 = .ok (.goto 7, 3) := by decide +kernel
theorem dX9_quotes_35 : decode cX9_quotes 35 = .ok (.iload_n 2, 1) := by decide +kernel
theorem dX9_quotes_36 : decode cX9_quotes 36 = .ok (.bipush 6, 2) := by decide +kernel
theorem dX9_quotes_38 : decode cX9_quotes 38 = .ok (.isub, 1) := by decide +kernel
theorem dX9_quotes_39 : decode cX9_quotes 39 = .ok (.iload_n 2, 1) := by decide +kernel
theorem dX9_quotes_40 : decode cX9_quotes 40 = .ok (.invokevirtual 84, 3) := by decide +kernel
theorem dX9_quotes_43 : decode cX9_quotes 43 = .ok (.aload_n 0, 1) := by decide +kernel
theorem dX9_quotes_44 : decode cX9_quotes 44 = .ok (.iload_n 1, 1) := by decide +kernel
theorem dX9_quotes_45 : decode cX9_quotes 45 = .ok (.bipush 12, 2) := by decide +kernel
theorem dX9_quotes_47 : decode cX9_quotes 47 = .ok (.iload_n 2, 1) := by decide +kernel
theorem dX9_quotes_48 : decode cX9_quotes 48 = .ok (.iload_n 3, 1) := by decide +kernel
theorem dX9_quotes_49 : decode cX9_quotes 49 = .ok (.invokevirtual 84, 3) := by decide +kernel
theorem dX9_quotes_52 : decode cX9_quotes 52 = .ok (.aload_n 0, 1) := by decide +kernel
theorem dX9_quotes_53 : decode cX9_quotes 53 = .ok (.iload_n 1, 1) := by decide +kernel
theorem dX9_quotes_54 : decode cX9_quotes 54 = .ok (.bipush 29, 2) := by decide +kernel
theorem dX9_quotes_56 : decode cX9_quotes 56 = .ok (.iload_n 3, 1) := by decide +kernel
theorem dX9_quotes_57 : decode cX9_quotes 57 = .ok (.aload_n 0, 1) := by decide +kernel
theorem dX9_quotes_58 : decode cX9_quotes 58 = .ok (.getfield 7, 3) := by decide +kernel
theorem dX9_quotes_61 : decode cX9_quotes 61 = .ok (.iconst 0, 1) := by decide +kernel
theorem dX9_quotes_62 : decode cX9_quotes 62 = .ok (.iaload, 1) := by decide +kernel
theorem dX9_quotes_63 : decode cX9_quotes 63 = .ok (.iload_n 3, 1) := by decide +kernel
theorem dX9_quotes_64 : decode cX9_quotes 64 = .ok (.bipush 6, 2) := by decide +kernel
theorem dX9_quotes_66 : decode cX9_quotes 66 = .ok (.iadd, 1) := by decide +kernel
theorem dX9_quotes_67 : decode cX9_quotes 67 = .ok (.invokestatic 69, 3) := by decide +kernel
theorem dX9_quotes_70 : decode cX9_quotes 70 = .ok (.invokevirtual 84, 3) := by decide +kernel
theorem dX9_quotes_73 : decode cX9_quotes 73 = .ok (.return_, 1) := by decide +kernel
theorem dX9_comment_0 : decode cX9_comment 0 = .ok (.aload_n 0, 1) := by decide +kernel
theorem dX9_comment_1 : decode cX9_comment 1 = .ok (.iload_n 1, 1) := by decide +kernel
theorem dX9_comment_2 : decode cX9_comment 2 = .ok (.invokevirtual 76, 3) := by decide +kernel
theorem dX9_comment_5 : decode cX9_comment 5 = .ok (.ifCond .ne 7, 3) := by decide +kernel
theorem dX9_comment_8 : decode cX9_comment 8 = .ok (.sipush (-1001), 3) := by decide +kernel
theorem dX9_comment_11 : decode cX9_comment 11 = .ok (.ireturn, 1) := by decide +kernel
theorem dX9_comment_12 : decode cX9_comment 12 = .ok (.iload_n 2, 1) := by decide +kernel
theorem dX9_comment_13 : decode cX9_comment 13 = .ok (.iload_n 1, 1) := by decide +kernel
theorem dX9_comment_14 : decode cX9_comment 14 = .ok (.iconst 1, 1) := by decide +kernel
theorem dX9_comment_15 : decode cX9_comment 15 = .ok (.iadd, 1) := by decide +kernel
theorem dX9_comment_16 : decode cX9_comment 16 = .ok (.iload_n 1, 1) := by decide +kernel
theorem dX9_comment_17 : decode cX9_comment 17 = .ok (.bipush 16, 2) := by decide +kernel
theorem dX9_comment_19 : decode cX9_comment 19 = .ok (.iadd, 1) := by decide +kernel
theorem dX9_comment_20 : decode cX9_comment 20 = .ok (.invokestatic 52, 3) := by decide +kernel
theorem dX9_comment_23 : decode cX9_comment 23 = .ok (.ifCond .eq 11, 3) := by decide +kernel
theorem dX9_comment_26 : decode cX9_comment 26 = .ok (.aload_n 0, 1) := by decide +kernel
theorem dX9_comment_27 : decode cX9_comment 27 = .ok (.iload_n 2, 1) := by decide +kernel
theorem dX9_comment_28 : decode cX9_comment 28 = .ok (.invokevirtual 76, 3) := by decide +kernel
theorem dX9_comment_31 : decode cX9_comment 31 = .ok (.ifCond .ne 7, 3) := by decide +kernel
theorem dX9_comment_34 : decode cX9_comment 34 = .ok (.sipush (-1002), 3) := by decide +kernel
theorem dX9_comment_37 : decode cX9_comment 37 = .ok (.ireturn, 1) := by decide +kernel
theorem dX9_comment_38 : decode cX9_comment 38 = .ok (.aload_n 0, 1) := by decide +kernel
theorem dX9_comment_39 : decode cX9_comment 39 = .ok (.getfield 7, 3) := by decide +kernel
theorem dX9_comment_42 : decode cX9_comment 42 = .ok (.bipush 122, 2) := by decide +kernel
theorem dX9_comment_44 : decode cX9_comment 44 = .ok (.iaload, 1) := by decide +kernel
theorem dX9_comment_45 : decode cX9_comment 45 = .ok (.bipush 10, 2) := by decide +kernel
theorem dX9_comment_47 : decode cX9_comment 47 = .ok (.if_icmp .ne 7, 3) := by decide +kernel
theorem dX9_comment_50 : decode cX9_comment 50 = .ok (.sipush (-1004), 3) := by decide +kernel
theorem dX9_comment_53 : decode cX9_comment 53 = .ok (.ireturn, 1) := by decide +kernel
theorem dX9_comment_54 : decode cX9_comment 54 = .ok (.aload_n 0, 1) := by decide +kernel
theorem dX9_comment_55 : decode cX9_comment 55 = .ok (.invokevirtual 66, 3) := by decide +kernel
theorem dX9_comment_58 : decode cX9_comment 58 = .ok (.aload_n 0, 1) := by decide +kernel
theorem dX9_comment_59 : decode cX9_comment 59 = .ok (.getfield 7, 3) := by decide +kernel
theorem dX9_comment_62 : decode cX9_comment 62 = .ok (.bipush 122, 2) := by decide +kernel
theorem dX9_comment_64 : decode cX9_comment 64 = .ok (.iaload, 1) := by decide +kernel
theorem dX9_comment_65 : decode cX9_comment 65 = .ok (.istore_n 3, 1) := by decide +kernel
theorem dX9_comment_66 : decode cX9_comment 66 = .ok (.aload_n 0, 1) := by decide +kernel
theorem dX9_comment_67 : decode cX9_comment 67 = .ok (.getfield 7, 3) := by decide +kernel
theorem dX9_comment_70 : decode cX9_comment 70 = .ok (.bipush 122, 2) := by decide +kernel
theorem dX9_comment_72 : decode cX9_comment 72 = .ok (.dup2, 1) := by decide +kernel
theorem dX9_comment_73 : decode cX9_comment 73 = .ok (.iaload, 1) := by decide +kernel
theorem dX9_comment_74 : decode cX9_comment 74 = .ok (.iconst 1, 1) := by decide +kernel
theorem dX9_comment_75 : decode cX9_comment 75 = .ok (.iadd, 1) := by decide +kernel
theorem dX9_comment_76 : decode cX9_comment 76 = .ok (.iastore, 1) := by decide +kernel
theorem dX9_comment_77 : decode cX9_comment 77 = .ok (.aload_n 0, 1) := by decide +kernel
theorem dX9_comment_78 : decode cX9_comment 78 = .ok (.getfield 7, 3) := by decide +kernel
theorem dX9_comment_81 : decode cX9_comment 81 = .ok (.iload_n 3, 1) := by decide +kernel
theorem dX9_comment_82 : decode cX9_comment 82 = .ok (.iconst 0, 1) := by decide +kernel
theorem dX9_comment_83 : decode cX9_comment 83 = .ok (.invokestatic 48, 3) := by decide +kernel
theorem dX9_comment_86 : decode cX9_comment 86 = .ok (.aload_n 0, 1) := by decide +kernel
theorem dX9_comment_87 : decode cX9_comment 87 = .ok (.getfield 7, 3) := by decide +kernel
theorem dX9_comment_90 : decode cX9_comment 90 = .ok (.bipush 121, 2) := by decide +kernel
theorem dX9_comment_92 : decode cX9_comment 92 = .ok (.iaload, 1) := by decide +kernel
theorem dX9_comment_93 : decode cX9_comment 93 = .ok (.iastore, 1) := by decide +kernel
theorem dX9_comment_94 : decode cX9_comment 94 = .ok (.aload_n 0, 1) := by decide +kernel
theorem dX9_comment_95 : decode cX9_comment 95 = .ok (.getfield 7, 3) := by decide +kernel
theorem dX9_comment_98 : decode cX9_comment 98 = .ok (.iload_n 3, 1) := by decide +kernel
theorem dX9_comment_99 : decode cX9_comment 99 = .ok (.iconst 1, 1) := by decide +kernel
theorem dX9_comment_100 : decode cX9_comment 100 = .ok (.invokestatic 48, 3) := by decide +kernel
theorem dX9_comment_103 : decode cX9_comment 103 = .ok (.iconst 1, 1) := by decide +kernel
theorem dX9_comment_104 : decode cX9_comment 104 = .ok (.iastore, 1) := by decide +kernel
theorem dX9_comment_105 : decode cX9_comment 105 = .ok (.aload_n 0, 1) := by decide +kernel
theorem dX9_comment_106 : decode cX9_comment 106 = .ok (.getfield 7, 3) := by decide +kernel
theorem dX9_comment_109 : decode cX9_comment 109 = .ok (.iload_n 3, 1) := by decide +kernel
theorem dX9_comment_110 : decode cX9_comment 110 = .ok (.iconst 2, 1) := by decide +kernel
theorem dX9_comment_111 : decode cX9_comment 111 = .ok (.invokestatic 48, 3) := by decide +kernel
theorem dX9_comment_114 : decode cX9_comment 114 = .ok (.iload_n 1, 1) := by decide +kernel
theorem dX9_comment_115 : decode cX9_comment 115 = .ok (.iastore, 1) := by decide +kernel
theorem dX9_comment_116 : decode cX9_comment 116 = .ok (.aload_n 0, 1) := by decide +kernel
theorem dX9_comment_117 : decode cX9_comment 117 = .ok (.getfield 7, 3) := by decide +kernel
theorem dX9_comment_120 : decode cX9_comment 120 = .ok (.iload_n 3, 1) := by decide +kernel
theorem dX9_comment_121 : decode cX9_comment 121 = .ok (.iconst 3, 1) := by decide +kernel
theorem dX9_comment_122 : decode cX9_comment 122 = .ok (.invokestatic 48, 3) := by decide +kernel
theorem dX9_comment_125 : decode cX9_comment 125 = .ok (.iload_n 2, 1) := by decide +kernel
theorem dX9_comment_126 : decode cX9_comment 126 = .ok (.iastore, 1) := by decide +kernel
theorem dX9_comment_127 : decode cX9_comment 127 = .ok (.aload_n 0, 1) := by decide +kernel
theorem dX9_comment_128 : decode cX9_comment 128 = .ok (.getfield 7, 3) := by decide +kernel
theorem dX9_comment_131 : decode cX9_comment 131 = .ok (.iload_n 3, 1) := by decide +kernel
theorem dX9_comment_132 : decode cX9_comment 132 = .ok (.iconst 4, 1) := by decide +kernel
theorem dX9_comment_133 : decode cX9_comment 133 = .ok (.invokestatic 48, 3) := by decide +kernel
theorem dX9_comment_136 : decode cX9_comment 136 = .ok (.iconst 1, 1) := by decide +kernel
theorem dX9_comment_137 : decode cX9_comment 137 = .ok (.iastore, 1) := by decide +kernel
theorem dX9_comment_138 : decode cX9_comment 138 = .ok (.aload_n 0, 1) := by decide +kernel
theorem dX9_comment_139 : decode cX9_comment 139 = .ok (.iload_n 3, 1) := by decide +kernel
theorem dX9_comment_140 : decode cX9_comment 140 = .ok (.invokevirtual 88, 3) := by decide +kernel
theorem dX9_comment_143 : decode cX9_comment 143 = .ok (.aload_n 0, 1) := by decide +kernel
theorem dX9_comment_144 : decode cX9_comment 144 = .ok (.getfield 7, 3) := by decide +kernel
theorem dX9_comment_147 : decode cX9_comment 147 = .ok (.bipush 121, 2) := by decide +kernel
theorem dX9_comment_149 : decode cX9_comment 149 = .ok (.dup2, 1) := by decide +kernel
theorem dX9_comment_150 : decode cX9_comment 150 = .ok (.iaload, 1) := by decide +kernel
theorem dX9_comment_151 : decode cX9_comment 151 = .ok (.iconst 1, 1) := by decide +kernel
theorem dX9_comment_152 : decode cX9_comment 152 = .ok (.iadd, 1) := by decide +kernel
theorem dX9_comment_153 : decode cX9_comment 153 = .ok (.iastore, 1) := by decide +kernel
theorem dX9_comment_154 : decode cX9_comment 154 = .ok (.aload_n 0, 1) := by decide +kernel
theorem dX9_comment_155 : decode cX9_comment 155 = .ok (.aload_n 0, 1) := by decide +kernel
theorem dX9_comment_156 : decode cX9_comment 156 = .ok (.getfield 7, 3) := by decide +kernel
theorem dX9_comment_159 : decode cX9_comment 159 = .ok (.bipush 121, 2) := by decide +kernel
theorem dX9_comment_161 : decode cX9_comment 161 = .ok (.iaload, 1) := by decide +kernel
theorem dX9_comment_162 : decode cX9_comment 162 = .ok (.iconst 1, 1) := by decide +kernel
theorem dX9_comment_163 : decode cX9_comment 163 = .ok (.isub, 1) := by decide +kernel
theorem dX9_comment_164 : decode cX9_comment 164 = .ok (.invokevirtual 72, 3) := by decide +kernel
theorem dX9_comment_167 : decode cX9_comment 167 = .ok (.ireturn, 1) := by decide +kernel
theorem dX9_removes_0 : decode cX9_removes 0 = .ok (.aload_n 0, 1) := by decide +kernel
theorem dX9_removes_1 : decode cX9_removes 1 = .ok (.getfield 7, 3) := by decide +kernel
theorem dX9_removes_4 : decode cX9_removes 4 = .ok (.bipush 122, 2) := by decide +kernel
theorem dX9_removes_6 : decode cX9_removes 6 = .ok (.dup2, 1) := by decide +kernel
theorem dX9_removes_7 : decode cX9_removes 7 = .ok (.iaload, 1) := by decide +kernel
theorem dX9_removes_8 : decode cX9_removes 8 = .ok (.iconst 1, 1) := by decide +kernel
theorem dX9_removes_9 : decode cX9_removes 9 = .ok (.isub, 1) := by decide +kernel
theorem dX9_removes_10 : decode cX9_removes 10 = .ok (.iastore, 1) := by decide +kernel
theorem dX9_removes_11 : decode cX9_removes 11 = .ok (.iload_n 1, 1) := by decide +kernel
theorem dX9_removes_12 : decode cX9_removes 12 = .ok (.iconst 0, 1) := by decide +kernel
theorem dX9_removes_13 : decode cX9_removes 13 = .ok (.invokestatic 48, 3) := by decide +kernel
theorem dX9_removes_16 : decode cX9_removes 16 = .ok (.istore_n 2, 1) := by decide +kernel
theorem dX9_removes_17 : decode cX9_removes 17 = .ok (.iload_n 2, 1) := by decide +kernel
theorem dX9_removes_18 : decode cX9_removes 18 = .ok (.aload_n 0, 1) := by decide +kernel
theorem dX9_removes_19 : decode cX9_removes 19 = .ok (.getfield 7, 3) := by decide +kernel
theorem dX9_removes_22 : decode cX9_removes 22 = .ok (.bipush 122, 2) := by decide +kernel
theorem dX9_removes_24 : decode cX9_removes 24 = .ok (.iaload, 1) := by decide +kernel
theorem dX9_removes_25 : decode cX9_removes 25 = .ok (.iconst 0, 1) := by decide +kernel
theorem dX9_removes_26 : decode cX9_removes 26 = .ok (.invokestatic 48, 3) := by decide +kernel
theorem dX9_removes_29 : decode cX9_removes 29 = .ok (.if_icmp .ge 24, 3) := by decide +kernel
theorem dX9_removes_32 : decode cX9_removes 32 = .ok (.aload_n 0, 1) := by decide +kernel
theorem dX9_removes_33 : decode cX9_removes 33 = .ok (.getfield 7, 3) := by decide +kernel
theorem dX9_removes_36 : decode cX9_removes 36 = .ok (.iload_n 2, 1) := by decide +kernel
theorem dX9_removes_37 : decode cX9_removes 37 = .ok (.aload_n 0, 1) := by decide +kernel
theorem dX9_removes_38 : decode cX9_removes 38 = .ok (.getfield 7, 3) := by decide +kernel
theorem dX9_removes_41 : decode cX9_removes 41 = .ok (.iload_n 2, 1) := by decide +kernel
theorem dX9_removes_42 : decode cX9_removes 42 = .ok (.bipush 36, 2) := by decide +kernel
theorem dX9_removes_44 : decode cX9_removes 44 = .ok (.iadd, 1) := by decide +kernel
theorem dX9_removes_45 : decode cX9_removes 45 = .ok (.iaload, 1) := by decide +kernel
theorem dX9_removes_46 : decode cX9_removes 46 = .ok (.iastore, 1) := by decide +kernel
theorem dX9_removes_47 : decode cX9_removes 47 = .ok (.iinc 2 1, 3) := by decide +kernel
theorem dX9_removes_50 : decode cX9_removes 50 = .ok (.goto (-33), 3) := by decide +kernel
theorem dX9_removes_53 : decode cX9_removes 53 = .ok (.return_, 1) := by decide +kernel
theorem dX9_remove_0 : decode cX9_remove 0 = .ok (.aload_n 0, 1) := by decide +kernel
theorem dX9_remove_1 : decode cX9_remove 1 = .ok (.iload_n 1, 1) := by decide +kernel
theorem dX9_remove_2 : decode cX9_remove 2 = .ok (.invokevirtual 92, 3) := by decide +kernel
theorem dX9_remove_5 : decode cX9_remove 5 = .ok (.istore_n 2, 1) := by decide +kernel
theorem dX9_remove_6 : decode cX9_remove 6 = .ok (.iload_n 2, 1) := by decide +kernel
theorem dX9_remove_7 : decode cX9_remove 7 = .ok (.ifCond .ge 7, 3) := by decide +kernel
theorem dX9_remove_10 : decode cX9_remove 10 = .ok (.sipush (-1001), 3) := by decide +kernel
theorem dX9_remove_13 : decode cX9_remove 13 = .ok (.ireturn, 1) := by decide +kernel
theorem dX9_remove_14 : decode cX9_remove 14 = .ok (.aload_n 0, 1) := by decide +kernel
theorem dX9_remove_15 : decode cX9_remove 15 = .ok (.invokevirtual 66, 3) := by decide +kernel
theorem dX9_remove_18 : decode cX9_remove 18 = .ok (.aload_n 0, 1) := by decide +kernel
theorem dX9_remove_19 : decode cX9_remove 19 = .ok (.iload_n 2, 1) := by decide +kernel
theorem dX9_remove_20 : decode cX9_remove 20 = .ok (.invokevirtual 95, 3) := by decide +kernel
theorem dX9_remove_23 : decode cX9_remove 23 = .ok (.aload_n 0, 1) := by decide +kernel
theorem dX9_remove_24 : decode cX9_remove 24 = .ok (.aload_n 0, 1) := by decide +kernel
theorem dX9_remove_25 : decode cX9_remove 25 = .ok (.getfield 7, 3) := by decide +kernel
theorem dX9_remove_28 : decode cX9_remove 28 = .ok (.bipush 122, 2) := by decide +kernel
theorem dX9_remove_30 : decode cX9_remove 30 = .ok (.iaload, 1) := by decide +kernel
theorem dX9_remove_31 : decode cX9_remove 31 = .ok (.invokevirtual 72, 3) := by decide +kernel
theorem dX9_remove_34 : decode cX9_remove 34 = .ok (.ireturn, 1) := by decide +kernel
theorem dX9_quoteAnew_0 : decode cX9_quoteAnew 0 = .ok (.aload_n 0, 1) := by decide +kernel
theorem dX9_quoteAnew_1 : decode cX9_quoteAnew 1 = .ok (.iload_n 1, 1) := by decide +kernel
theorem dX9_quoteAnew_2 : decode cX9_quoteAnew 2 = .ok (.invokevirtual 92, 3) := by decide +kernel
theorem dX9_quoteAnew_5 : decode cX9_quoteAnew 5 = .ok (.istore_n 2, 1) := by decide +kernel
theorem dX9_quoteAnew_6 : decode cX9_quoteAnew 6 = .ok (.iload_n 2, 1) := by decide +kernel
theorem dX9_quoteAnew_7 : decode cX9_quoteAnew 7 = .ok (.ifCond .ge 7, 3) := by decide +kernel
theorem dX9_quoteAnew_10 : decode cX9_quoteAnew 10 = .ok (.sipush (-1001), 3) := by decide +kernel
theorem dX9_quoteAnew_13 : decode cX9_quoteAnew 13 = .ok (.ireturn, 1) := by decide +kernel
theorem dX9_quoteAnew_14 : decode cX9_quoteAnew 14 = .ok (.aload_n 0, 1) := by decide +kernel
theorem dX9_quoteAnew_15 : decode cX9_quoteAnew 15 = .ok (.getfield 7, 3) := by decide +kernel
theorem dX9_quoteAnew_18 : decode cX9_quoteAnew 18 = .ok (.iload_n 2, 1) := by decide +kernel
theorem dX9_quoteAnew_19 : decode cX9_quoteAnew 19 = .ok (.iconst 1, 1) := by decide +kernel
theorem dX9_quoteAnew_20 : decode cX9_quoteAnew 20 = .ok (.invokestatic 48, 3) := by decide +kernel
theorem dX9_quoteAnew_23 : decode cX9_quoteAnew 23 = .ok (.iaload, 1) := by decide +kernel
theorem dX9_quoteAnew_24 : decode cX9_quoteAnew 24 = .ok (.ifCond .eq 29, 3) := by decide +kernel
theorem dX9_quoteAnew_27 : decode cX9_quoteAnew 27 = .ok (.aload_n 0, 1) := by decide +kernel
theorem dX9_quoteAnew_28 : decode cX9_quoteAnew 28 = .ok (.getfield 7, 3) := by decide +kernel
theorem dX9_quoteAnew_31 : decode cX9_quoteAnew 31 = .ok (.iload_n 2, 1) := by decide +kernel
theorem dX9_quoteAnew_32 : decode cX9_quoteAnew 32 = .ok (.iconst 3, 1) := by decide +kernel
theorem dX9_quoteAnew_33 : decode cX9_quoteAnew 33 = .ok (.invokestatic 48, 3) := by decide +kernel
theorem dX9_quoteAnew_36 : decode cX9_quoteAnew 36 = .ok (.iaload, 1) := by decide +kernel
theorem dX9_quoteAnew_37 : decode cX9_quoteAnew 37 = .ok (.aload_n 0, 1) := by decide +kernel
theorem dX9_quoteAnew_38 : decode cX9_quoteAnew 38 = .ok (.getfield 7, 3) := by decide +kernel
theorem dX9_quoteAnew_41 : decode cX9_quoteAnew 41 = .ok (.iload_n 2, 1) := by decide +kernel
theorem dX9_quoteAnew_42 : decode cX9_quoteAnew 42 = .ok (.iconst 2, 1) := by decide +kernel
theorem dX9_quoteAnew_43 : decode cX9_quoteAnew 43 = .ok (.invokestatic 48, 3) := by decide +kernel
theorem dX9_quoteAnew_46 : decode cX9_quoteAnew 46 = .ok (.iaload, 1) := by decide +kernel
theorem dX9_quoteAnew_47 : decode cX9_quoteAnew 47 = .ok (.isub, 1) := by decide +kernel
theorem dX9_quoteAnew_48 : decode cX9_quoteAnew 48 = .ok (.bipush 16, 2) := by decide +kernel
theorem dX9_quoteAnew_50 : decode cX9_quoteAnew 50 = .ok (.if_icmp .le 7, 3) := by decide +kernel
theorem dX9_quoteAnew_53 : decode cX9_quoteAnew 53 = .ok (.sipush (-1003), 3) := by decide +kernel
theorem dX9_quoteAnew_56 : decode cX9_quoteAnew 56 = .ok (.ireturn, 1) := by decide +kernel
theorem dX9_quoteAnew_57 : decode cX9_quoteAnew 57 = .ok (.aload_n 0, 1) := by decide +kernel
theorem dX9_quoteAnew_58 : decode cX9_quoteAnew 58 = .ok (.invokevirtual 66, 3) := by decide +kernel
theorem dX9_quoteAnew_61 : decode cX9_quoteAnew 61 = .ok (.aload_n 0, 1) := by decide +kernel
theorem dX9_quoteAnew_62 : decode cX9_quoteAnew 62 = .ok (.iload_n 2, 1) := by decide +kernel
theorem dX9_quoteAnew_63 : decode cX9_quoteAnew 63 = .ok (.invokevirtual 88, 3) := by decide +kernel
theorem dX9_quoteAnew_66 : decode cX9_quoteAnew 66 = .ok (.aload_n 0, 1) := by decide +kernel
theorem dX9_quoteAnew_67 : decode cX9_quoteAnew 67 = .ok (.aload_n 0, 1) := by decide +kernel
theorem dX9_quoteAnew_68 : decode cX9_quoteAnew 68 = .ok (.getfield 7, 3) := by decide +kernel
theorem dX9_quoteAnew_71 : decode cX9_quoteAnew 71 = .ok (.iload_n 2, 1) := by decide +kernel
theorem dX9_quoteAnew_72 : decode cX9_quoteAnew 72 = .ok (.bipush 12, 2) := by decide +kernel
theorem dX9_quoteAnew_74 : decode cX9_quoteAnew 74 = .ok (.invokestatic 48, 3) := by decide +kernel
theorem dX9_quoteAnew_77 : decode cX9_quoteAnew 77 = .ok (.iaload, 1) := by decide +kernel
theorem dX9_quoteAnew_78 : decode cX9_quoteAnew 78 = .ok (.invokevirtual 72, 3) := by decide +kernel
theorem dX9_quoteAnew_81 : decode cX9_quoteAnew 81 = .ok (.ireturn, 1) := by decide +kernel
theorem dX9_startsLine_0 : decode cX9_startsLine 0 = .ok (.iconst 0, 1) := by decide +kernel
theorem dX9_startsLine_1 : decode cX9_startsLine 1 = .ok (.istore_n 2, 1) := by decide +kernel
theorem dX9_startsLine_2 : decode cX9_startsLine 2 = .ok (.iload_n 2, 1) := by decide +kernel
theorem dX9_startsLine_3 : decode cX9_startsLine 3 = .ok (.aload_n 0, 1) := by decide +kernel
theorem dX9_startsLine_4 : decode cX9_startsLine 4 = .ok (.getfield 7, 3) := by decide +kernel
theorem dX9_startsLine_7 : decode cX9_startsLine 7 = .ok (.iload_n 1, 1) := by decide +kernel
theorem dX9_startsLine_8 : decode cX9_startsLine 8 = .ok (.bipush 12, 2) := by decide +kernel
theorem dX9_startsLine_10 : decode cX9_startsLine 10 = .ok (.invokestatic 48, 3) := by decide +kernel
theorem dX9_startsLine_13 : decode cX9_startsLine 13 = .ok (.iaload, 1) := by decide +kernel
theorem dX9_startsLine_14 : decode cX9_startsLine 14 = .ok (.if_icmp .gt 16, 3) := by decide +kernel
theorem dX9_startsLine_17 : decode cX9_startsLine 17 = .ok (.aload_n 0, 1) := by decide +kernel
theorem dX9_startsLine_18 : decode cX9_startsLine 18 = .ok (.getfield 33, 3) := by decide +kernel
theorem dX9_startsLine_21 : decode cX9_startsLine 21 = .ok (.iload_n 2, 1) := by decide +kernel
theorem dX9_startsLine_22 : decode cX9_startsLine 22 = .ok (.iload_n 2, 1) := by decide +kernel
theorem dX9_startsLine_23 : decode cX9_startsLine 23 = .ok (.iastore, 1) := by decide +kernel
theorem dX9_startsLine_24 : decode cX9_startsLine 24 = .ok (.iinc 2 1, 3) := by decide +kernel
theorem dX9_startsLine_27 : decode cX9_startsLine 27 = .ok (.goto (-25), 3) := by decide +kernel
theorem dX9_startsLine_30 : decode cX9_startsLine 30 = .ok (.return_, 1) := by decide +kernel
theorem dX9_goesOn_0 : decode cX9_goesOn 0 = .ok (.aload_n 0, 1) := by decide +kernel
theorem dX9_goesOn_1 : decode cX9_goesOn 1 = .ok (.getfield 33, 3) := by decide +kernel
theorem dX9_goesOn_4 : decode cX9_goesOn 4 = .ok (.iconst 0, 1) := by decide +kernel
theorem dX9_goesOn_5 : decode cX9_goesOn 5 = .ok (.iaload, 1) := by decide +kernel
theorem dX9_goesOn_6 : decode cX9_goesOn 6 = .ok (.istore_n 3, 1) := by decide +kernel
theorem dX9_goesOn_7 : decode cX9_goesOn 7 = .ok (.aload_n 0, 1) := by decide +kernel
theorem dX9_goesOn_8 : decode cX9_goesOn 8 = .ok (.getfield 33, 3) := by decide +kernel
theorem dX9_goesOn_11 : decode cX9_goesOn 11 = .ok (.iconst 0, 1) := by decide +kernel
theorem dX9_goesOn_12 : decode cX9_goesOn 12 = .ok (.dup2, 1) := by decide +kernel
theorem dX9_goesOn_13 : decode cX9_goesOn 13 = .ok (.iaload, 1) := by decide +kernel
theorem dX9_goesOn_14 : decode cX9_goesOn 14 = .ok (.iconst 1, 1) := by decide +kernel
theorem dX9_goesOn_15 : decode cX9_goesOn 15 = .ok (.iadd, 1) := by decide +kernel
theorem dX9_goesOn_16 : decode cX9_goesOn 16 = .ok (.iastore, 1) := by decide +kernel
theorem dX9_goesOn_17 : decode cX9_goesOn 17 = .ok (.iconst 1, 1) := by decide +kernel
theorem dX9_goesOn_18 : decode cX9_goesOn 18 = .ok (.istore 4, 2) := by decide +kernel
theorem dX9_goesOn_20 : decode cX9_goesOn 20 = .ok (.iload 4, 2) := by decide +kernel
theorem dX9_goesOn_22 : decode cX9_goesOn 22 = .ok (.aload_n 0, 1) := by decide +kernel
theorem dX9_goesOn_23 : decode cX9_goesOn 23 = .ok (.getfield 7, 3) := by decide +kernel
theorem dX9_goesOn_26 : decode cX9_goesOn 26 = .ok (.iload_n 1, 1) := by decide +kernel
theorem dX9_goesOn_27 : decode cX9_goesOn 27 = .ok (.bipush 12, 2) := by decide +kernel
theorem dX9_goesOn_29 : decode cX9_goesOn 29 = .ok (.invokestatic 48, 3) := by decide +kernel
theorem dX9_goesOn_32 : decode cX9_goesOn 32 = .ok (.iaload, 1) := by decide +kernel
theorem dX9_goesOn_33 : decode cX9_goesOn 33 = .ok (.if_icmp .gt 77, 3) := by decide +kernel
theorem dX9_goesOn_36 : decode cX9_goesOn 36 = .ok (.iload_n 3, 1) := by decide +kernel
theorem dX9_goesOn_37 : decode cX9_goesOn 37 = .ok (.aload_n 0, 1) := by decide +kernel
theorem dX9_goesOn_38 : decode cX9_goesOn 38 = .ok (.getfield 7, 3) := by decide +kernel
theorem dX9_goesOn_41 : decode cX9_goesOn 41 = .ok (.iload_n 1, 1) := by decide +kernel
theorem dX9_goesOn_42 : decode cX9_goesOn 42 = .ok (.bipush 12, 2) := by decide +kernel
theorem dX9_goesOn_44 : decode cX9_goesOn 44 = .ok (.iload 4, 2) := by decide +kernel
theorem dX9_goesOn_46 : decode cX9_goesOn 46 = .ok (.iadd, 1) := by decide +kernel
theorem dX9_goesOn_47 : decode cX9_goesOn 47 = .ok (.invokestatic 48, 3) := by decide +kernel
theorem dX9_goesOn_50 : decode cX9_goesOn 50 = .ok (.iaload, 1) := by decide +kernel
theorem dX9_goesOn_51 : decode cX9_goesOn 51 = .ok (.iload_n 2, 1) := by decide +kernel
theorem dX9_goesOn_52 : decode cX9_goesOn 52 = .ok (.if_icmp .ne 7, 3) := by decide +kernel
theorem dX9_goesOn_55 : decode cX9_goesOn 55 = .ok (.iconst 0, 1) := by decide +kernel
theorem dX9_goesOn_56 : decode cX9_goesOn 56 = .ok (.goto 4, 3) := by decide +kernel
theorem dX9_goesOn_59 : decode cX9_goesOn 59 = .ok (.iconst 1, 1) := by decide +kernel
theorem dX9_goesOn_60 : decode cX9_goesOn 60 = .ok (.iadd, 1) := by decide +kernel
theorem dX9_goesOn_61 : decode cX9_goesOn 61 = .ok (.istore 5, 2) := by decide +kernel
theorem dX9_goesOn_63 : decode cX9_goesOn 63 = .ok (.aload_n 0, 1) := by decide +kernel
theorem dX9_goesOn_64 : decode cX9_goesOn 64 = .ok (.getfield 33, 3) := by decide +kernel
theorem dX9_goesOn_67 : decode cX9_goesOn 67 = .ok (.iload 4, 2) := by decide +kernel
theorem dX9_goesOn_69 : decode cX9_goesOn 69 = .ok (.iaload, 1) := by decide +kernel
theorem dX9_goesOn_70 : decode cX9_goesOn 70 = .ok (.istore_n 3, 1) := by decide +kernel
theorem dX9_goesOn_71 : decode cX9_goesOn 71 = .ok (.aload_n 0, 1) := by decide +kernel
theorem dX9_goesOn_72 : decode cX9_goesOn 72 = .ok (.getfield 33, 3) := by decide +kernel
theorem dX9_goesOn_75 : decode cX9_goesOn 75 = .ok (.iload 4, 2) := by decide +kernel
theorem dX9_goesOn_77 : decode cX9_goesOn 77 = .ok (.iload 5, 2) := by decide +kernel
theorem dX9_goesOn_79 : decode cX9_goesOn 79 = .ok (.iconst 1, 1) := by decide +kernel
theorem dX9_goesOn_80 : decode cX9_goesOn 80 = .ok (.aload_n 0, 1) := by decide +kernel
theorem dX9_goesOn_81 : decode cX9_goesOn 81 = .ok (.getfield 33, 3) := by decide +kernel
theorem dX9_goesOn_84 : decode cX9_goesOn 84 = .ok (.iload 4, 2) := by decide +kernel
theorem dX9_goesOn_86 : decode cX9_goesOn 86 = .ok (.iaload, 1) := by decide +kernel
theorem dX9_goesOn_87 : decode cX9_goesOn 87 = .ok (.aload_n 0, 1) := by decide +kernel
theorem dX9_goesOn_88 : decode cX9_goesOn 88 = .ok (.getfield 33, 3) := by decide +kernel
theorem dX9_goesOn_91 : decode cX9_goesOn 91 = .ok (.iload 4, 2) := by decide +kernel
theorem dX9_goesOn_93 : decode cX9_goesOn 93 = .ok (.iconst 1, 1) := by decide +kernel
theorem dX9_goesOn_94 : decode cX9_goesOn 94 = .ok (.isub, 1) := by decide +kernel
theorem dX9_goesOn_95 : decode cX9_goesOn 95 = .ok (.iaload, 1) := by decide +kernel
theorem dX9_goesOn_96 : decode cX9_goesOn 96 = .ok (.invokestatic 69, 3) := by decide +kernel
theorem dX9_goesOn_99 : decode cX9_goesOn 99 = .ok (.iadd, 1) := by decide +kernel
theorem dX9_goesOn_100 : decode cX9_goesOn 100 = .ok (.invokestatic 69, 3) := by decide +kernel
theorem dX9_goesOn_103 : decode cX9_goesOn 103 = .ok (.iastore, 1) := by decide +kernel
theorem dX9_goesOn_104 : decode cX9_goesOn 104 = .ok (.iinc 4 1, 3) := by decide +kernel
theorem dX9_goesOn_107 : decode cX9_goesOn 107 = .ok (.goto (-87), 3) := by decide +kernel
theorem dX9_goesOn_110 : decode cX9_goesOn 110 = .ok (.return_, 1) := by decide +kernel
theorem dX9_distanceOf_0 : decode cX9_distanceOf 0 = .ok (.aload_n 0, 1) := by decide +kernel
theorem dX9_distanceOf_1 : decode cX9_distanceOf 1 = .ok (.iload_n 1, 1) := by decide +kernel
theorem dX9_distanceOf_2 : decode cX9_distanceOf 2 = .ok (.invokevirtual 98, 3) := by decide +kernel
theorem dX9_distanceOf_5 : decode cX9_distanceOf 5 = .ok (.iload_n 2, 1) := by decide +kernel
theorem dX9_distanceOf_6 : decode cX9_distanceOf 6 = .ok (.istore 4, 2) := by decide +kernel
theorem dX9_distanceOf_8 : decode cX9_distanceOf 8 = .ok (.iload 4, 2) := by decide +kernel
theorem dX9_distanceOf_10 : decode cX9_distanceOf 10 = .ok (.iload_n 3, 1) := by decide +kernel
theorem dX9_distanceOf_11 : decode cX9_distanceOf 11 = .ok (.if_icmp .ge 23, 3) := by decide +kernel
theorem dX9_distanceOf_14 : decode cX9_distanceOf 14 = .ok (.aload_n 0, 1) := by decide +kernel
theorem dX9_distanceOf_15 : decode cX9_distanceOf 15 = .ok (.iload_n 1, 1) := by decide +kernel
theorem dX9_distanceOf_16 : decode cX9_distanceOf 16 = .ok (.aload_n 0, 1) := by decide +kernel
theorem dX9_distanceOf_17 : decode cX9_distanceOf 17 = .ok (.getfield 7, 3) := by decide +kernel
theorem dX9_distanceOf_20 : decode cX9_distanceOf 20 = .ok (.iconst 1, 1) := by decide +kernel
theorem dX9_distanceOf_21 : decode cX9_distanceOf 21 = .ok (.iload 4, 2) := by decide +kernel
theorem dX9_distanceOf_23 : decode cX9_distanceOf 23 = .ok (.iadd, 1) := by decide +kernel
theorem dX9_distanceOf_24 : decode cX9_distanceOf 24 = .ok (.iaload, 1) := by decide +kernel
theorem dX9_distanceOf_25 : decode cX9_distanceOf 25 = .ok (.invokevirtual 101, 3) := by decide +kernel
theorem dX9_distanceOf_28 : decode cX9_distanceOf 28 = .ok (.iinc 4 1, 3) := by decide +kernel
theorem dX9_distanceOf_31 : decode cX9_distanceOf 31 = .ok (.goto (-23), 3) := by decide +kernel
theorem dX9_distanceOf_34 : decode cX9_distanceOf 34 = .ok (.aload_n 0, 1) := by decide +kernel
theorem dX9_distanceOf_35 : decode cX9_distanceOf 35 = .ok (.getfield 33, 3) := by decide +kernel
theorem dX9_distanceOf_38 : decode cX9_distanceOf 38 = .ok (.aload_n 0, 1) := by decide +kernel
theorem dX9_distanceOf_39 : decode cX9_distanceOf 39 = .ok (.getfield 7, 3) := by decide +kernel
theorem dX9_distanceOf_42 : decode cX9_distanceOf 42 = .ok (.iload_n 1, 1) := by decide +kernel
theorem dX9_distanceOf_43 : decode cX9_distanceOf 43 = .ok (.bipush 12, 2) := by decide +kernel
theorem dX9_distanceOf_45 : decode cX9_distanceOf 45 = .ok (.invokestatic 48, 3) := by decide +kernel
theorem dX9_distanceOf_48 : decode cX9_distanceOf 48 = .ok (.iaload, 1) := by decide +kernel
theorem dX9_distanceOf_49 : decode cX9_distanceOf 49 = .ok (.iaload, 1) := by decide +kernel
theorem dX9_distanceOf_50 : decode cX9_distanceOf 50 = .ok (.ireturn, 1) := by decide +kernel
theorem dX9_before_0 : decode cX9_before 0 = .ok (.aload_n 0, 1) := by decide +kernel
theorem dX9_before_1 : decode cX9_before 1 = .ok (.getfield 7, 3) := by decide +kernel
theorem dX9_before_4 : decode cX9_before 4 = .ok (.iload_n 1, 1) := by decide +kernel
theorem dX9_before_5 : decode cX9_before 5 = .ok (.iconst 5, 1) := by decide +kernel
theorem dX9_before_6 : decode cX9_before 6 = .ok (.invokestatic 48, 3) := by decide +kernel
theorem dX9_before_9 : decode cX9_before 9 = .ok (.iaload, 1) := by decide +kernel
theorem dX9_before_10 : decode cX9_before 10 = .ok (.istore_n 3, 1) := by decide +kernel
theorem dX9_before_11 : decode cX9_before 11 = .ok (.iconst 0, 1) := by decide +kernel
theorem dX9_before_12 : decode cX9_before 12 = .ok (.istore 4, 2) := by decide +kernel
theorem dX9_before_14 : decode cX9_before 14 = .ok (.iload 4, 2) := by decide +kernel
theorem dX9_before_16 : decode cX9_before 16 = .ok (.iload_n 3, 1) := by decide +kernel
theorem dX9_before_17 : decode cX9_before 17 = .ok (.if_icmp .ge 46, 3) := by decide +kernel
theorem dX9_before_20 : decode cX9_before 20 = .ok (.iload 4, 2) := by decide +kernel
theorem dX9_before_22 : decode cX9_before 22 = .ok (.iload_n 2, 1) := by decide +kernel
theorem dX9_before_23 : decode cX9_before 23 = .ok (.if_icmp .ge 40, 3) := by decide +kernel
theorem dX9_before_26 : decode cX9_before 26 = .ok (.aload_n 0, 1) := by decide +kernel
theorem dX9_before_27 : decode cX9_before 27 = .ok (.getfield 7, 3) := by decide +kernel
theorem dX9_before_30 : decode cX9_before 30 = .ok (.iload_n 1, 1) := by decide +kernel
theorem dX9_before_31 : decode cX9_before 31 = .ok (.iconst 5, 1) := by decide +kernel
theorem dX9_before_32 : decode cX9_before 32 = .ok (.iload_n 3, 1) := by decide +kernel
theorem dX9_before_33 : decode cX9_before 33 = .ok (.iadd, 1) := by decide +kernel
theorem dX9_before_34 : decode cX9_before 34 = .ok (.iload 4, 2) := by decide +kernel
theorem dX9_before_36 : decode cX9_before 36 = .ok (.isub, 1) := by decide +kernel
theorem dX9_before_37 : decode cX9_before 37 = .ok (.invokestatic 48, 3) := by decide +kernel
theorem dX9_before_40 : decode cX9_before 40 = .ok (.iaload, 1) := by decide +kernel
theorem dX9_before_41 : decode cX9_before 41 = .ok (.aload_n 0, 1) := by decide +kernel
theorem dX9_before_42 : decode cX9_before 42 = .ok (.getfield 7, 3) := by decide +kernel
theorem dX9_before_45 : decode cX9_before 45 = .ok (.iconst 1, 1) := by decide +kernel
theorem dX9_before_46 : decode cX9_before 46 = .ok (.iload_n 2, 1) := by decide +kernel
theorem dX9_before_47 : decode cX9_before 47 = .ok (.iadd, 1) := by decide +kernel
theorem dX9_before_48 : decode cX9_before 48 = .ok (.iconst 1, 1) := by decide +kernel
theorem dX9_before_49 : decode cX9_before 49 = .ok (.isub, 1) := by decide +kernel
theorem dX9_before_50 : decode cX9_before 50 = .ok (.iload 4, 2) := by decide +kernel
theorem dX9_before_52 : decode cX9_before 52 = .ok (.isub, 1) := by decide +kernel
theorem dX9_before_53 : decode cX9_before 53 = .ok (.iaload, 1) := by decide +kernel
theorem dX9_before_54 : decode cX9_before 54 = .ok (.if_icmp .ne 9, 3) := by decide +kernel
theorem dX9_before_57 : decode cX9_before 57 = .ok (.iinc 4 1, 3) := by decide +kernel
theorem dX9_before_60 : decode cX9_before 60 = .ok (.goto (-46), 3) := by decide +kernel
theorem dX9_before_63 : decode cX9_before 63 = .ok (.iload 4, 2) := by decide +kernel
theorem dX9_before_65 : decode cX9_before 65 = .ok (.ireturn, 1) := by decide +kernel
theorem dX9_behind_0 : decode cX9_behind 0 = .ok (.iconst 0, 1) := by decide +kernel
theorem dX9_behind_1 : decode cX9_behind 1 = .ok (.istore_n 3, 1) := by decide +kernel
theorem dX9_behind_2 : decode cX9_behind 2 = .ok (.iload_n 3, 1) := by decide +kernel
theorem dX9_behind_3 : decode cX9_behind 3 = .ok (.aload_n 0, 1) := by decide +kernel
theorem dX9_behind_4 : decode cX9_behind 4 = .ok (.getfield 7, 3) := by decide +kernel
theorem dX9_behind_7 : decode cX9_behind 7 = .ok (.iload_n 1, 1) := by decide +kernel
theorem dX9_behind_8 : decode cX9_behind 8 = .ok (.bipush 29, 2) := by decide +kernel
theorem dX9_behind_10 : decode cX9_behind 10 = .ok (.invokestatic 48, 3) := by decide +kernel
theorem dX9_behind_13 : decode cX9_behind 13 = .ok (.iaload, 1) := by decide +kernel
theorem dX9_behind_14 : decode cX9_behind 14 = .ok (.if_icmp .ge 47, 3) := by decide +kernel
theorem dX9_behind_17 : decode cX9_behind 17 = .ok (.iload_n 2, 1) := by decide +kernel
theorem dX9_behind_18 : decode cX9_behind 18 = .ok (.iload_n 3, 1) := by decide +kernel
theorem dX9_behind_19 : decode cX9_behind 19 = .ok (.iadd, 1) := by decide +kernel
theorem dX9_behind_20 : decode cX9_behind 20 = .ok (.aload_n 0, 1) := by decide +kernel
theorem dX9_behind_21 : decode cX9_behind 21 = .ok (.getfield 7, 3) := by decide +kernel
theorem dX9_behind_24 : decode cX9_behind 24 = .ok (.iconst 0, 1) := by decide +kernel
theorem dX9_behind_25 : decode cX9_behind 25 = .ok (.iaload, 1) := by decide +kernel
theorem dX9_behind_26 : decode cX9_behind 26 = .ok (.if_icmp .ge 35, 3) := by decide +kernel
theorem dX9_behind_29 : decode cX9_behind 29 = .ok (.aload_n 0, 1) := by decide +kernel
theorem dX9_behind_30 : decode cX9_behind 30 = .ok (.getfield 7, 3) := by decide +kernel
theorem dX9_behind_33 : decode cX9_behind 33 = .ok (.iload_n 1, 1) := by decide +kernel
theorem dX9_behind_34 : decode cX9_behind 34 = .ok (.bipush 30, 2) := by decide +kernel
theorem dX9_behind_36 : decode cX9_behind 36 = .ok (.iload_n 3, 1) := by decide +kernel
theorem dX9_behind_37 : decode cX9_behind 37 = .ok (.iadd, 1) := by decide +kernel
theorem dX9_behind_38 : decode cX9_behind 38 = .ok (.invokestatic 48, 3) := by decide +kernel
theorem dX9_behind_41 : decode cX9_behind 41 = .ok (.iaload, 1) := by decide +kernel
theorem dX9_behind_42 : decode cX9_behind 42 = .ok (.aload_n 0, 1) := by decide +kernel
theorem dX9_behind_43 : decode cX9_behind 43 = .ok (.getfield 7, 3) := by decide +kernel
theorem dX9_behind_46 : decode cX9_behind 46 = .ok (.iconst 1, 1) := by decide +kernel
theorem dX9_behind_47 : decode cX9_behind 47 = .ok (.iload_n 2, 1) := by decide +kernel
theorem dX9_behind_48 : decode cX9_behind 48 = .ok (.iadd, 1) := by decide +kernel
theorem dX9_behind_49 : decode cX9_behind 49 = .ok (.iload_n 3, 1) := by decide +kernel
theorem dX9_behind_50 : decode cX9_behind 50 = .ok (.iadd, 1) := by decide +kernel
theorem dX9_behind_51 : decode cX9_behind 51 = .ok (.iaload, 1) := by decide +kernel
theorem dX9_behind_52 : decode cX9_behind 52 = .ok (.if_icmp .ne 9, 3) := by decide +kernel
theorem dX9_behind_55 : decode cX9_behind 55 = .ok (.iinc 3 1, 3) := by decide +kernel
theorem dX9_behind_58 : decode cX9_behind 58 = .ok (.goto (-56), 3) := by decide +kernel
theorem dX9_behind_61 : decode cX9_behind 61 = .ok (.iload_n 3, 1) := by decide +kernel
theorem dX9_behind_62 : decode cX9_behind 62 = .ok (.ireturn, 1) := by decide +kernel
theorem dX9_scored_0 : decode cX9_scored 0 = .ok (.iload_n 2, 1) := by decide +kernel
theorem dX9_scored_1 : decode cX9_scored 1 = .ok (.aload_n 0, 1) := by decide +kernel
theorem dX9_scored_2 : decode cX9_scored 2 = .ok (.getfield 7, 3) := by decide +kernel
theorem dX9_scored_5 : decode cX9_scored 5 = .ok (.iload_n 1, 1) := by decide +kernel
theorem dX9_scored_6 : decode cX9_scored 6 = .ok (.iconst 2, 1) := by decide +kernel
theorem dX9_scored_7 : decode cX9_scored 7 = .ok (.invokestatic 48, 3) := by decide +kernel
theorem dX9_scored_10 : decode cX9_scored 10 = .ok (.iaload, 1) := by decide +kernel
theorem dX9_scored_11 : decode cX9_scored 11 = .ok (.isub, 1) := by decide +kernel
theorem dX9_scored_12 : decode cX9_scored 12 = .ok (.istore 5, 2) := by decide +kernel
theorem dX9_scored_14 : decode cX9_scored 14 = .ok (.bipush 60, 2) := by decide +kernel
theorem dX9_scored_16 : decode cX9_scored 16 = .ok (.bipush 10, 2) := by decide +kernel
theorem dX9_scored_18 : decode cX9_scored 18 = .ok (.iload 4, 2) := by decide +kernel
theorem dX9_scored_20 : decode cX9_scored 20 = .ok (.imul, 1) := by decide +kernel
theorem dX9_scored_21 : decode cX9_scored 21 = .ok (.isub, 1) := by decide +kernel
theorem dX9_scored_22 : decode cX9_scored 22 = .ok (.iconst 4, 1) := by decide +kernel
theorem dX9_scored_23 : decode cX9_scored 23 = .ok (.aload_n 0, 1) := by decide +kernel
theorem dX9_scored_24 : decode cX9_scored 24 = .ok (.iload_n 1, 1) := by decide +kernel
theorem dX9_scored_25 : decode cX9_scored 25 = .ok (.iload_n 2, 1) := by decide +kernel
theorem dX9_scored_26 : decode cX9_scored 26 = .ok (.invokevirtual 105, 3) := by decide +kernel
theorem dX9_scored_29 : decode cX9_scored 29 = .ok (.imul, 1) := by decide +kernel
theorem dX9_scored_30 : decode cX9_scored 30 = .ok (.iadd, 1) := by decide +kernel
theorem dX9_scored_31 : decode cX9_scored 31 = .ok (.iconst 4, 1) := by decide +kernel
theorem dX9_scored_32 : decode cX9_scored 32 = .ok (.aload_n 0, 1) := by decide +kernel
theorem dX9_scored_33 : decode cX9_scored 33 = .ok (.iload_n 1, 1) := by decide +kernel
theorem dX9_scored_34 : decode cX9_scored 34 = .ok (.iload_n 3, 1) := by decide +kernel
theorem dX9_scored_35 : decode cX9_scored 35 = .ok (.invokevirtual 108, 3) := by decide +kernel
theorem dX9_scored_38 : decode cX9_scored 38 = .ok (.imul, 1) := by decide +kernel
theorem dX9_scored_39 : decode cX9_scored 39 = .ok (.iadd, 1) := by decide +kernel
theorem dX9_scored_40 : decode cX9_scored 40 = .ok (.iload 5, 2) := by decide +kernel
theorem dX9_scored_42 : decode cX9_scored 42 = .ok (.ifCond .ge 9, 3) := by decide +kernel
theorem dX9_scored_45 : decode cX9_scored 45 = .ok (.iload 5, 2) := by decide +kernel
theorem dX9_scored_47 : decode cX9_scored 47 = .ok (.ineg, 1) := by decide +kernel
theorem dX9_scored_48 : decode cX9_scored 48 = .ok (.goto 5, 3) := by decide +kernel
theorem dX9_scored_51 : decode cX9_scored 51 = .ok (.iload 5, 2) := by decide +kernel
theorem dX9_scored_53 : decode cX9_scored 53 = .ok (.iconst 5, 1) := by decide +kernel
theorem dX9_scored_54 : decode cX9_scored 54 = .ok (.idiv, 1) := by decide +kernel
theorem dX9_scored_55 : decode cX9_scored 55 = .ok (.isub, 1) := by decide +kernel
theorem dX9_scored_56 : decode cX9_scored 56 = .ok (.ireturn, 1) := by decide +kernel
theorem dX9_bestAt_0 : decode cX9_bestAt 0 = .ok (.aload_n 0, 1) := by decide +kernel
theorem dX9_bestAt_1 : decode cX9_bestAt 1 = .ok (.getfield 7, 3) := by decide +kernel
theorem dX9_bestAt_4 : decode cX9_bestAt 4 = .ok (.iload_n 1, 1) := by decide +kernel
theorem dX9_bestAt_5 : decode cX9_bestAt 5 = .ok (.bipush 12, 2) := by decide +kernel
theorem dX9_bestAt_7 : decode cX9_bestAt 7 = .ok (.invokestatic 48, 3) := by decide +kernel
theorem dX9_bestAt_10 : decode cX9_bestAt 10 = .ok (.iaload, 1) := by decide +kernel
theorem dX9_bestAt_11 : decode cX9_bestAt 11 = .ok (.istore_n 3, 1) := by decide +kernel
theorem dX9_bestAt_12 : decode cX9_bestAt 12 = .ok (.iconst 0, 1) := by decide +kernel
theorem dX9_bestAt_13 : decode cX9_bestAt 13 = .ok (.istore 4, 2) := by decide +kernel
theorem dX9_bestAt_15 : decode cX9_bestAt 15 = .ok (.aload_n 0, 1) := by decide +kernel
theorem dX9_bestAt_16 : decode cX9_bestAt 16 = .ok (.iload_n 1, 1) := by decide +kernel
theorem dX9_bestAt_17 : decode cX9_bestAt 17 = .ok (.invokevirtual 98, 3) := by decide +kernel
theorem dX9_bestAt_20 : decode cX9_bestAt 20 = .ok (.iconst 1, 1) := by decide +kernel
theorem dX9_bestAt_21 : decode cX9_bestAt 21 = .ok (.istore 5, 2) := by decide +kernel
theorem dX9_bestAt_23 : decode cX9_bestAt 23 = .ok (.iload 5, 2) := by decide +kernel
theorem dX9_bestAt_25 : decode cX9_bestAt 25 = .ok (.iload_n 3, 1) := by decide +kernel
theorem dX9_bestAt_26 : decode cX9_bestAt 26 = .ok (.iconst 3, 1) := by decide +kernel
theorem dX9_bestAt_27 : decode cX9_bestAt 27 = .ok (.iadd, 1) := by decide +kernel
theorem dX9_bestAt_28 : decode cX9_bestAt 28 = .ok (.if_icmp .gt 95, 3) := by decide +kernel
theorem dX9_bestAt_31 : decode cX9_bestAt 31 = .ok (.iload_n 2, 1) := by decide +kernel
theorem dX9_bestAt_32 : decode cX9_bestAt 32 = .ok (.iload 5, 2) := by decide +kernel
theorem dX9_bestAt_34 : decode cX9_bestAt 34 = .ok (.iadd, 1) := by decide +kernel
theorem dX9_bestAt_35 : decode cX9_bestAt 35 = .ok (.aload_n 0, 1) := by decide +kernel
theorem dX9_bestAt_36 : decode cX9_bestAt 36 = .ok (.getfield 7, 3) := by decide +kernel
theorem dX9_bestAt_39 : decode cX9_bestAt 39 = .ok (.iconst 0, 1) := by decide +kernel
theorem dX9_bestAt_40 : decode cX9_bestAt 40 = .ok (.iaload, 1) := by decide +kernel
theorem dX9_bestAt_41 : decode cX9_bestAt 41 = .ok (.if_icmp .gt 82, 3) := by decide +kernel
theorem dX9_bestAt_44 : decode cX9_bestAt 44 = .ok (.aload_n 0, 1) := by decide +kernel
theorem dX9_bestAt_45 : decode cX9_bestAt 45 = .ok (.iload_n 1, 1) := by decide +kernel
theorem dX9_bestAt_46 : decode cX9_bestAt 46 = .ok (.aload_n 0, 1) := by decide +kernel
theorem dX9_bestAt_47 : decode cX9_bestAt 47 = .ok (.getfield 7, 3) := by decide +kernel
theorem dX9_bestAt_50 : decode cX9_bestAt 50 = .ok (.iconst 1, 1) := by decide +kernel
theorem dX9_bestAt_51 : decode cX9_bestAt 51 = .ok (.iload_n 2, 1) := by decide +kernel
theorem dX9_bestAt_52 : decode cX9_bestAt 52 = .ok (.iadd, 1) := by decide +kernel
theorem dX9_bestAt_53 : decode cX9_bestAt 53 = .ok (.iload 5, 2) := by decide +kernel
theorem dX9_bestAt_55 : decode cX9_bestAt 55 = .ok (.iadd, 1) := by decide +kernel
theorem dX9_bestAt_56 : decode cX9_bestAt 56 = .ok (.iconst 1, 1) := by decide +kernel
theorem dX9_bestAt_57 : decode cX9_bestAt 57 = .ok (.isub, 1) := by decide +kernel
theorem dX9_bestAt_58 : decode cX9_bestAt 58 = .ok (.iaload, 1) := by decide +kernel
theorem dX9_bestAt_59 : decode cX9_bestAt 59 = .ok (.invokevirtual 101, 3) := by decide +kernel
theorem dX9_bestAt_62 : decode cX9_bestAt 62 = .ok (.aload_n 0, 1) := by decide +kernel
theorem dX9_bestAt_63 : decode cX9_bestAt 63 = .ok (.iload_n 1, 1) := by decide +kernel
theorem dX9_bestAt_64 : decode cX9_bestAt 64 = .ok (.iload_n 2, 1) := by decide +kernel
theorem dX9_bestAt_65 : decode cX9_bestAt 65 = .ok (.iload_n 2, 1) := by decide +kernel
theorem dX9_bestAt_66 : decode cX9_bestAt 66 = .ok (.iload 5, 2) := by decide +kernel
theorem dX9_bestAt_68 : decode cX9_bestAt 68 = .ok (.iadd, 1) := by decide +kernel
theorem dX9_bestAt_69 : decode cX9_bestAt 69 = .ok (.aload_n 0, 1) := by decide +kernel
theorem dX9_bestAt_70 : decode cX9_bestAt 70 = .ok (.getfield 33, 3) := by decide +kernel
theorem dX9_bestAt_73 : decode cX9_bestAt 73 = .ok (.iload_n 3, 1) := by decide +kernel
theorem dX9_bestAt_74 : decode cX9_bestAt 74 = .ok (.iaload, 1) := by decide +kernel
theorem dX9_bestAt_75 : decode cX9_bestAt 75 = .ok (.invokevirtual 111, 3) := by decide +kernel
theorem dX9_bestAt_78 : decode cX9_bestAt 78 = .ok (.istore 6, 2) := by decide +kernel
theorem dX9_bestAt_80 : decode cX9_bestAt 80 = .ok (.iload 5, 2) := by decide +kernel
theorem dX9_bestAt_82 : decode cX9_bestAt 82 = .ok (.iload_n 3, 1) := by decide +kernel
theorem dX9_bestAt_83 : decode cX9_bestAt 83 = .ok (.iconst 3, 1) := by decide +kernel
theorem dX9_bestAt_84 : decode cX9_bestAt 84 = .ok (.isub, 1) := by decide +kernel
theorem dX9_bestAt_85 : decode cX9_bestAt 85 = .ok (.if_icmp .lt 32, 3) := by decide +kernel
theorem dX9_bestAt_88 : decode cX9_bestAt 88 = .ok (.iload 4, 2) := by decide +kernel
theorem dX9_bestAt_90 : decode cX9_bestAt 90 = .ok (.ifCond .eq 12, 3) := by decide +kernel
theorem dX9_bestAt_93 : decode cX9_bestAt 93 = .ok (.iload 6, 2) := by decide +kernel
theorem dX9_bestAt_95 : decode cX9_bestAt 95 = .ok (.aload_n 0, 1) := by decide +kernel
theorem dX9_bestAt_96 : decode cX9_bestAt 96 = .ok (.getfield 115, 3) := by decide +kernel
theorem dX9_bestAt_99 : decode cX9_bestAt 99 = .ok (.if_icmp .le 18, 3) := by decide +kernel
theorem dX9_bestAt_102 : decode cX9_bestAt 102 = .ok (.aload_n 0, 1) := by decide +kernel
theorem dX9_bestAt_103 : decode cX9_bestAt 103 = .ok (.iload 6, 2) := by decide +kernel
theorem dX9_bestAt_105 : decode cX9_bestAt 105 = .ok (.putfield 115, 3) := by decide +kernel
theorem dX9_bestAt_108 : decode cX9_bestAt 108 = .ok (.aload_n 0, 1) := by decide +kernel
theorem dX9_bestAt_109 : decode cX9_bestAt 109 = .ok (.iload 5, 2) := by decide +kernel
theorem dX9_bestAt_111 : decode cX9_bestAt 111 = .ok (.putfield 118, 3) := by decide +kernel
theorem dX9_bestAt_114 : decode cX9_bestAt 114 = .ok (.iconst 1, 1) := by decide +kernel
theorem dX9_bestAt_115 : decode cX9_bestAt 115 = .ok (.istore 4, 2) := by decide +kernel
theorem dX9_bestAt_117 : decode cX9_bestAt 117 = .ok (.iinc 5 1, 3) := by decide +kernel
theorem dX9_bestAt_120 : decode cX9_bestAt 120 = .ok (.goto (-97), 3) := by decide +kernel
theorem dX9_bestAt_123 : decode cX9_bestAt 123 = .ok (.iload 4, 2) := by decide +kernel
theorem dX9_bestAt_125 : decode cX9_bestAt 125 = .ok (.ireturn, 1) := by decide +kernel
theorem dX9_findBest_0 : decode cX9_findBest 0 = .ok (.iconst 0, 1) := by decide +kernel
theorem dX9_findBest_1 : decode cX9_findBest 1 = .ok (.istore_n 2, 1) := by decide +kernel
theorem dX9_findBest_2 : decode cX9_findBest 2 = .ok (.iconst 0, 1) := by decide +kernel
theorem dX9_findBest_3 : decode cX9_findBest 3 = .ok (.istore_n 3, 1) := by decide +kernel
theorem dX9_findBest_4 : decode cX9_findBest 4 = .ok (.iload_n 3, 1) := by decide +kernel
theorem dX9_findBest_5 : decode cX9_findBest 5 = .ok (.aload_n 0, 1) := by decide +kernel
theorem dX9_findBest_6 : decode cX9_findBest 6 = .ok (.getfield 7, 3) := by decide +kernel
theorem dX9_findBest_9 : decode cX9_findBest 9 = .ok (.iconst 0, 1) := by decide +kernel
theorem dX9_findBest_10 : decode cX9_findBest 10 = .ok (.iaload, 1) := by decide +kernel
theorem dX9_findBest_11 : decode cX9_findBest 11 = .ok (.if_icmp .ge 56, 3) := by decide +kernel
theorem dX9_findBest_14 : decode cX9_findBest 14 = .ok (.aload_n 0, 1) := by decide +kernel
theorem dX9_findBest_15 : decode cX9_findBest 15 = .ok (.iload_n 1, 1) := by decide +kernel
theorem dX9_findBest_16 : decode cX9_findBest 16 = .ok (.iload_n 3, 1) := by decide +kernel
theorem dX9_findBest_17 : decode cX9_findBest 17 = .ok (.invokevirtual 121, 3) := by decide +kernel
theorem dX9_findBest_20 : decode cX9_findBest 20 = .ok (.ifCond .eq 41, 3) := by decide +kernel
theorem dX9_findBest_23 : decode cX9_findBest 23 = .ok (.iload_n 2, 1) := by decide +kernel
theorem dX9_findBest_24 : decode cX9_findBest 24 = .ok (.ifCond .eq 14, 3) := by decide +kernel
theorem dX9_findBest_27 : decode cX9_findBest 27 = .ok (.aload_n 0, 1) := by decide +kernel
theorem dX9_findBest_28 : decode cX9_findBest 28 = .ok (.getfield 115, 3) := by decide +kernel
theorem dX9_findBest_31 : decode cX9_findBest 31 = .ok (.aload_n 0, 1) := by decide +kernel
theorem dX9_findBest_32 : decode cX9_findBest 32 = .ok (.getfield 125, 3) := by decide +kernel
theorem dX9_findBest_35 : decode cX9_findBest 35 = .ok (.if_icmp .le 26, 3) := by decide +kernel
theorem dX9_findBest_38 : decode cX9_findBest 38 = .ok (.aload_n 0, 1) := by decide +kernel
theorem dX9_findBest_39 : decode cX9_findBest 39 = .ok (.aload_n 0, 1) := by decide +kernel
theorem dX9_findBest_40 : decode cX9_findBest 40 = .ok (.getfield 115, 3) := by decide +kernel
theorem dX9_findBest_43 : decode cX9_findBest 43 = .ok (.putfield 125, 3) := by decide +kernel
theorem dX9_findBest_46 : decode cX9_findBest 46 = .ok (.aload_n 0, 1) := by decide +kernel
theorem dX9_findBest_47 : decode cX9_findBest 47 = .ok (.iload_n 3, 1) := by decide +kernel
theorem dX9_findBest_48 : decode cX9_findBest 48 = .ok (.putfield 128, 3) := by decide +kernel
theorem dX9_findBest_51 : decode cX9_findBest 51 = .ok (.aload_n 0, 1) := by decide +kernel
theorem dX9_findBest_52 : decode cX9_findBest 52 = .ok (.aload_n 0, 1) := by decide +kernel
theorem dX9_findBest_53 : decode cX9_findBest 53 = .ok (.getfield 118, 3) := by decide +kernel
theorem dX9_findBest_56 : decode cX9_findBest 56 = .ok (.putfield 131, 3) := by decide +kernel
theorem dX9_findBest_59 : decode cX9_findBest 59 = .ok (.iconst 1, 1) := by decide +kernel
theorem dX9_findBest_60 : decode cX9_findBest 60 = .ok (.istore_n 2, 1) := by decide +kernel
theorem dX9_findBest_61 : decode cX9_findBest 61 = .ok (.iinc 3 1, 3) := by decide +kernel
theorem dX9_findBest_64 : decode cX9_findBest 64 = .ok (.goto (-60), 3) := by decide +kernel
theorem dX9_findBest_67 : decode cX9_findBest 67 = .ok (.iload_n 2, 1) := by decide +kernel
theorem dX9_findBest_68 : decode cX9_findBest 68 = .ok (.ireturn, 1) := by decide +kernel
theorem dX9_attaches_0 : decode cX9_attaches 0 = .ok (.aload_n 0, 1) := by decide +kernel
theorem dX9_attaches_1 : decode cX9_attaches 1 = .ok (.getfield 7, 3) := by decide +kernel
theorem dX9_attaches_4 : decode cX9_attaches 4 = .ok (.iload_n 1, 1) := by decide +kernel
theorem dX9_attaches_5 : decode cX9_attaches 5 = .ok (.iconst 1, 1) := by decide +kernel
theorem dX9_attaches_6 : decode cX9_attaches 6 = .ok (.invokestatic 48, 3) := by decide +kernel
theorem dX9_attaches_9 : decode cX9_attaches 9 = .ok (.iconst 1, 1) := by decide +kernel
theorem dX9_attaches_10 : decode cX9_attaches 10 = .ok (.iastore, 1) := by decide +kernel
theorem dX9_attaches_11 : decode cX9_attaches 11 = .ok (.aload_n 0, 1) := by decide +kernel
theorem dX9_attaches_12 : decode cX9_attaches 12 = .ok (.getfield 7, 3) := by decide +kernel
theorem dX9_attaches_15 : decode cX9_attaches 15 = .ok (.iload_n 1, 1) := by decide +kernel
theorem dX9_attaches_16 : decode cX9_attaches 16 = .ok (.iconst 2, 1) := by decide +kernel
theorem dX9_attaches_17 : decode cX9_attaches 17 = .ok (.invokestatic 48, 3) := by decide +kernel
theorem dX9_attaches_20 : decode cX9_attaches 20 = .ok (.iload_n 2, 1) := by decide +kernel
theorem dX9_attaches_21 : decode cX9_attaches 21 = .ok (.iastore, 1) := by decide +kernel
theorem dX9_attaches_22 : decode cX9_attaches 22 = .ok (.aload_n 0, 1) := by decide +kernel
theorem dX9_attaches_23 : decode cX9_attaches 23 = .ok (.getfield 7, 3) := by decide +kernel
theorem dX9_attaches_26 : decode cX9_attaches 26 = .ok (.iload_n 1, 1) := by decide +kernel
theorem dX9_attaches_27 : decode cX9_attaches 27 = .ok (.iconst 3, 1) := by decide +kernel
theorem dX9_attaches_28 : decode cX9_attaches 28 = .ok (.invokestatic 48, 3) := by decide +kernel
theorem dX9_attaches_31 : decode cX9_attaches 31 = .ok (.iload_n 2, 1) := by decide +kernel
theorem dX9_attaches_32 : decode cX9_attaches 32 = .ok (.iload_n 3, 1) := by decide +kernel
theorem dX9_attaches_33 : decode cX9_attaches 33 = .ok (.iadd, 1) := by decide +kernel
theorem dX9_attaches_34 : decode cX9_attaches 34 = .ok (.iastore, 1) := by decide +kernel
theorem dX9_attaches_35 : decode cX9_attaches 35 = .ok (.return_, 1) := by decide +kernel
theorem dX9_attach_0 : decode cX9_attach 0 = .ok (.aload_n 0, 1) := by decide +kernel
theorem dX9_attach_1 : decode cX9_attach 1 = .ok (.iload_n 1, 1) := by decide +kernel
theorem dX9_attach_2 : decode cX9_attach 2 = .ok (.invokevirtual 92, 3) := by decide +kernel
theorem dX9_attach_5 : decode cX9_attach 5 = .ok (.istore_n 2, 1) := by decide +kernel
theorem dX9_attach_6 : decode cX9_attach 6 = .ok (.iload_n 2, 1) := by decide +kernel
theorem dX9_attach_7 : decode cX9_attach 7 = .ok (.ifCond .ge 7, 3) := by decide +kernel
theorem dX9_attach_10 : decode cX9_attach 10 = .ok (.sipush (-1001), 3) := by decide +kernel
theorem dX9_attach_13 : decode cX9_attach 13 = .ok (.ireturn, 1) := by decide +kernel
theorem dX9_attach_14 : decode cX9_attach 14 = .ok (.aload_n 0, 1) := by decide +kernel
theorem dX9_attach_15 : decode cX9_attach 15 = .ok (.getfield 7, 3) := by decide +kernel
theorem dX9_attach_18 : decode cX9_attach 18 = .ok (.iload_n 2, 1) := by decide +kernel
theorem dX9_attach_19 : decode cX9_attach 19 = .ok (.iconst 1, 1) := by decide +kernel
theorem dX9_attach_20 : decode cX9_attach 20 = .ok (.invokestatic 48, 3) := by decide +kernel
theorem dX9_attach_23 : decode cX9_attach 23 = .ok (.iaload, 1) := by decide +kernel
theorem dX9_attach_24 : decode cX9_attach 24 = .ok (.iconst 1, 1) := by decide +kernel
theorem dX9_attach_25 : decode cX9_attach 25 = .ok (.if_icmp .ne 7, 3) := by decide +kernel
theorem dX9_attach_28 : decode cX9_attach 28 = .ok (.sipush (-1003), 3) := by decide +kernel
theorem dX9_attach_31 : decode cX9_attach 31 = .ok (.ireturn, 1) := by decide +kernel
theorem dX9_attach_32 : decode cX9_attach 32 = .ok (.aload_n 0, 1) := by decide +kernel
theorem dX9_attach_33 : decode cX9_attach 33 = .ok (.iload_n 2, 1) := by decide +kernel
theorem dX9_attach_34 : decode cX9_attach 34 = .ok (.invokevirtual 134, 3) := by decide +kernel
theorem dX9_attach_37 : decode cX9_attach 37 = .ok (.ifCond .eq 14, 3) := by decide +kernel
theorem dX9_attach_40 : decode cX9_attach 40 = .ok (.aload_n 0, 1) := by decide +kernel
theorem dX9_attach_41 : decode cX9_attach 41 = .ok (.getfield 125, 3) := by decide +kernel
theorem dX9_attach_44 : decode cX9_attach 44 = .ok (.aload_n 0, 1) := by decide +kernel
theorem dX9_attach_45 : decode cX9_attach 45 = .ok (.getfield 26, 3) := by decide +kernel
theorem dX9_attach_48 : decode cX9_attach 48 = .ok (.if_icmp .ge 7, 3) := by decide +kernel
theorem dX9_attach_51 : decode cX9_attach 51 = .ok (.sipush (-1005), 3) := by decide +kernel
theorem dX9_attach_54 : decode cX9_attach 54 = .ok (.ireturn, 1) := by decide +kernel
theorem dX9_attach_55 : decode cX9_attach 55 = .ok (.aload_n 0, 1) := by decide +kernel
theorem dX9_attach_56 : decode cX9_attach 56 = .ok (.invokevirtual 66, 3) := by decide +kernel
theorem dX9_attach_59 : decode cX9_attach 59 = .ok (.aload_n 0, 1) := by decide +kernel
theorem dX9_attach_60 : decode cX9_attach 60 = .ok (.iload_n 2, 1) := by decide +kernel
theorem dX9_attach_61 : decode cX9_attach 61 = .ok (.aload_n 0, 1) := by decide +kernel
theorem dX9_attach_62 : decode cX9_attach 62 = .ok (.getfield 128, 3) := by decide +kernel
theorem dX9_attach_65 : decode cX9_attach 65 = .ok (.aload_n 0, 1) := by decide +kernel
theorem dX9_attach_66 : decode cX9_attach 66 = .ok (.getfield 131, 3) := by decide +kernel
theorem dX9_attach_69 : decode cX9_attach 69 = .ok (.invokevirtual 137, 3) := by decide +kernel
theorem dX9_attach_72 : decode cX9_attach 72 = .ok (.aload_n 0, 1) := by decide +kernel
theorem dX9_attach_73 : decode cX9_attach 73 = .ok (.aload_n 0, 1) := by decide +kernel
theorem dX9_attach_74 : decode cX9_attach 74 = .ok (.getfield 128, 3) := by decide +kernel
theorem dX9_attach_77 : decode cX9_attach 77 = .ok (.invokevirtual 72, 3) := by decide +kernel
theorem dX9_attach_80 : decode cX9_attach 80 = .ok (.ireturn, 1) := by decide +kernel
theorem dX9_findOrder_0 : decode cX9_findOrder 0 = .ok (.aload_n 0, 1) := by decide +kernel
theorem dX9_findOrder_1 : decode cX9_findOrder 1 = .ok (.iconst 0, 1) := by decide +kernel
theorem dX9_findOrder_2 : decode cX9_findOrder 2 = .ok (.putfield 141, 3) := by decide +kernel
theorem dX9_findOrder_5 : decode cX9_findOrder 5 = .ok (.iconst 0, 1) := by decide +kernel
theorem dX9_findOrder_6 : decode cX9_findOrder 6 = .ok (.istore_n 1, 1) := by decide +kernel
theorem dX9_findOrder_7 : decode cX9_findOrder 7 = .ok (.iload_n 1, 1) := by decide +kernel
theorem dX9_findOrder_8 : decode cX9_findOrder 8 = .ok (.aload_n 0, 1) := by decide +kernel
theorem dX9_findOrder_9 : decode cX9_findOrder 9 = .ok (.getfield 7, 3) := by decide +kernel
theorem dX9_findOrder_12 : decode cX9_findOrder 12 = .ok (.bipush 122, 2) := by decide +kernel
theorem dX9_findOrder_14 : decode cX9_findOrder 14 = .ok (.iaload, 1) := by decide +kernel
theorem dX9_findOrder_15 : decode cX9_findOrder 15 = .ok (.if_icmp .ge 98, 3) := by decide +kernel
theorem dX9_findOrder_18 : decode cX9_findOrder 18 = .ok (.aload_n 0, 1) := by decide +kernel
theorem dX9_findOrder_19 : decode cX9_findOrder 19 = .ok (.getfield 7, 3) := by decide +kernel
theorem dX9_findOrder_22 : decode cX9_findOrder 22 = .ok (.iload_n 1, 1) := by decide +kernel
theorem dX9_findOrder_23 : decode cX9_findOrder 23 = .ok (.iconst 1, 1) := by decide +kernel
theorem dX9_findOrder_24 : decode cX9_findOrder 24 = .ok (.invokestatic 48, 3) := by decide +kernel
theorem dX9_findOrder_27 : decode cX9_findOrder 27 = .ok (.iaload, 1) := by decide +kernel
theorem dX9_findOrder_28 : decode cX9_findOrder 28 = .ok (.ifCond .ne 79, 3) := by decide +kernel
theorem dX9_findOrder_31 : decode cX9_findOrder 31 = .ok (.aload_n 0, 1) := by decide +kernel
theorem dX9_findOrder_32 : decode cX9_findOrder 32 = .ok (.getfield 141, 3) := by decide +kernel
theorem dX9_findOrder_35 : decode cX9_findOrder 35 = .ok (.istore_n 2, 1) := by decide +kernel
theorem dX9_findOrder_36 : decode cX9_findOrder 36 = .ok (.iload_n 2, 1) := by decide +kernel
theorem dX9_findOrder_37 : decode cX9_findOrder 37 = .ok (.ifCond .le 53, 3) := by decide +kernel
theorem dX9_findOrder_40 : decode cX9_findOrder 40 = .ok (.aload_n 0, 1) := by decide +kernel
theorem dX9_findOrder_41 : decode cX9_findOrder 41 = .ok (.getfield 7, 3) := by decide +kernel
theorem dX9_findOrder_44 : decode cX9_findOrder 44 = .ok (.aload_n 0, 1) := by decide +kernel
theorem dX9_findOrder_45 : decode cX9_findOrder 45 = .ok (.getfield 36, 3) := by decide +kernel
theorem dX9_findOrder_48 : decode cX9_findOrder 48 = .ok (.iload_n 2, 1) := by decide +kernel
theorem dX9_findOrder_49 : decode cX9_findOrder 49 = .ok (.iconst 1, 1) := by decide +kernel
theorem dX9_findOrder_50 : decode cX9_findOrder 50 = .ok (.isub, 1) := by decide +kernel
theorem dX9_findOrder_51 : decode cX9_findOrder 51 = .ok (.iaload, 1) := by decide +kernel
theorem dX9_findOrder_52 : decode cX9_findOrder 52 = .ok (.iconst 2, 1) := by decide +kernel
theorem dX9_findOrder_53 : decode cX9_findOrder 53 = .ok (.invokestatic 48, 3) := by decide +kernel
theorem dX9_findOrder_56 : decode cX9_findOrder 56 = .ok (.iaload, 1) := by decide +kernel
theorem dX9_findOrder_57 : decode cX9_findOrder 57 = .ok (.aload_n 0, 1) := by decide +kernel
theorem dX9_findOrder_58 : decode cX9_findOrder 58 = .ok (.getfield 7, 3) := by decide +kernel
theorem dX9_findOrder_61 : decode cX9_findOrder 61 = .ok (.iload_n 1, 1) := by decide +kernel
theorem dX9_findOrder_62 : decode cX9_findOrder 62 = .ok (.iconst 2, 1) := by decide +kernel
theorem dX9_findOrder_63 : decode cX9_findOrder 63 = .ok (.invokestatic 48, 3) := by decide +kernel
theorem dX9_findOrder_66 : decode cX9_findOrder 66 = .ok (.iaload, 1) := by decide +kernel
theorem dX9_findOrder_67 : decode cX9_findOrder 67 = .ok (.if_icmp .le 23, 3) := by decide +kernel
theorem dX9_findOrder_70 : decode cX9_findOrder 70 = .ok (.aload_n 0, 1) := by decide +kernel
theorem dX9_findOrder_71 : decode cX9_findOrder 71 = .ok (.getfield 36, 3) := by decide +kernel
theorem dX9_findOrder_74 : decode cX9_findOrder 74 = .ok (.iload_n 2, 1) := by decide +kernel
theorem dX9_findOrder_75 : decode cX9_findOrder 75 = .ok (.aload_n 0, 1) := by decide +kernel
theorem dX9_findOrder_76 : decode cX9_findOrder 76 = .ok (.getfield 36, 3) := by decide +kernel
theorem dX9_findOrder_79 : decode cX9_findOrder 79 = .ok (.iload_n 2, 1) := by decide +kernel
theorem dX9_findOrder_80 : decode cX9_findOrder 80 = .ok (.iconst 1, 1) := by decide +kernel
theorem dX9_findOrder_81 : decode cX9_findOrder 81 = .ok (.isub, 1) := by decide +kernel
theorem dX9_findOrder_82 : decode cX9_findOrder 82 = .ok (.iaload, 1) := by decide +kernel
theorem dX9_findOrder_83 : decode cX9_findOrder 83 = .ok (.iastore, 1) := by decide +kernel
theorem dX9_findOrder_84 : decode cX9_findOrder 84 = .ok (.iinc 2 (-1), 3) := by decide +kernel
theorem dX9_findOrder_87 : decode cX9_findOrder 87 = .ok (.goto (-51), 3) := by decide +kernel
theorem dX9_findOrder_90 : decode cX9_findOrder 90 = .ok (.aload_n 0, 1) := by decide +kernel
theorem dX9_findOrder_91 : decode cX9_findOrder 91 = .ok (.getfield 36, 3) := by decide +kernel
theorem dX9_findOrder_94 : decode cX9_findOrder 94 = .ok (.iload_n 2, 1) := by decide +kernel
theorem dX9_findOrder_95 : decode cX9_findOrder 95 = .ok (.iload_n 1, 1) := by decide +kernel
theorem dX9_findOrder_96 : decode cX9_findOrder 96 = .ok (.iastore, 1) := by decide +kernel
theorem dX9_findOrder_97 : decode cX9_findOrder 97 = .ok (.aload_n 0, 1) := by decide +kernel
theorem dX9_findOrder_98 : decode cX9_findOrder 98 = .ok (.dup, 1) := by decide +kernel
theorem dX9_findOrder_99 : decode cX9_findOrder 99 = .ok (.getfield 141, 3) := by decide +kernel
theorem dX9_findOrder_102 : decode cX9_findOrder 102 = .ok (.iconst 1, 1) := by decide +kernel
theorem dX9_findOrder_103 : decode cX9_findOrder 103 = .ok (.iadd, 1) := by decide +kernel
theorem dX9_findOrder_104 : decode cX9_findOrder 104 = .ok (.putfield 141, 3) := by decide +kernel
theorem dX9_findOrder_107 : decode cX9_findOrder 107 = .ok (.iinc 1 1, 3) := by decide +kernel
theorem dX9_findOrder_110 : decode cX9_findOrder 110 = .ok (.goto (-103), 3) := by decide +kernel
theorem dX9_findOrder_113 : decode cX9_findOrder 113 = .ok (.return_, 1) := by decide +kernel
theorem dX9_findScores_0 : decode cX9_findScores 0 = .ok (.iconst 0, 1) := by decide +kernel
theorem dX9_findScores_1 : decode cX9_findScores 1 = .ok (.istore_n 1, 1) := by decide +kernel
theorem dX9_findScores_2 : decode cX9_findScores 2 = .ok (.iload_n 1, 1) := by decide +kernel
theorem dX9_findScores_3 : decode cX9_findScores 3 = .ok (.aload_n 0, 1) := by decide +kernel
theorem dX9_findScores_4 : decode cX9_findScores 4 = .ok (.getfield 141, 3) := by decide +kernel
theorem dX9_findScores_7 : decode cX9_findScores 7 = .ok (.if_icmp .ge 96, 3) := by decide +kernel
theorem dX9_findScores_10 : decode cX9_findScores 10 = .ok (.iconst 0, 1) := by decide +kernel
theorem dX9_findScores_11 : decode cX9_findScores 11 = .ok (.istore_n 2, 1) := by decide +kernel
theorem dX9_findScores_12 : decode cX9_findScores 12 = .ok (.iload_n 2, 1) := by decide +kernel
theorem dX9_findScores_13 : decode cX9_findScores 13 = .ok (.aload_n 0, 1) := by decide +kernel
theorem dX9_findScores_14 : decode cX9_findScores 14 = .ok (.getfield 7, 3) := by decide +kernel
theorem dX9_findScores_17 : decode cX9_findScores 17 = .ok (.iconst 0, 1) := by decide +kernel
theorem dX9_findScores_18 : decode cX9_findScores 18 = .ok (.iaload, 1) := by decide +kernel
theorem dX9_findScores_19 : decode cX9_findScores 19 = .ok (.if_icmp .ge 78, 3) := by decide +kernel
theorem dX9_findScores_22 : decode cX9_findScores 22 = .ok (.aload_n 0, 1) := by decide +kernel
theorem dX9_findScores_23 : decode cX9_findScores 23 = .ok (.aload_n 0, 1) := by decide +kernel
theorem dX9_findScores_24 : decode cX9_findScores 24 = .ok (.getfield 36, 3) := by decide +kernel
theorem dX9_findScores_27 : decode cX9_findScores 27 = .ok (.iload_n 1, 1) := by decide +kernel
theorem dX9_findScores_28 : decode cX9_findScores 28 = .ok (.iaload, 1) := by decide +kernel
theorem dX9_findScores_29 : decode cX9_findScores 29 = .ok (.iload_n 2, 1) := by decide +kernel
theorem dX9_findScores_30 : decode cX9_findScores 30 = .ok (.invokevirtual 121, 3) := by decide +kernel
theorem dX9_findScores_33 : decode cX9_findScores 33 = .ok (.ifCond .eq 18, 3) := by decide +kernel
theorem dX9_findScores_36 : decode cX9_findScores 36 = .ok (.aload_n 0, 1) := by decide +kernel
theorem dX9_findScores_37 : decode cX9_findScores 37 = .ok (.getfield 115, 3) := by decide +kernel
theorem dX9_findScores_40 : decode cX9_findScores 40 = .ok (.aload_n 0, 1) := by decide +kernel
theorem dX9_findScores_41 : decode cX9_findScores 41 = .ok (.getfield 26, 3) := by decide +kernel
theorem dX9_findScores_44 : decode cX9_findScores 44 = .ok (.if_icmp .lt 7, 3) := by decide +kernel
theorem dX9_findScores_47 : decode cX9_findScores 47 = .ok (.iconst 1, 1) := by decide +kernel
theorem dX9_findScores_48 : decode cX9_findScores 48 = .ok (.goto 4, 3) := by decide +kernel
theorem dX9_findScores_51 : decode cX9_findScores 51 = .ok (.iconst 0, 1) := by decide +kernel
theorem dX9_findScores_52 : decode cX9_findScores 52 = .ok (.istore_n 3, 1) := by decide +kernel
theorem dX9_findScores_53 : decode cX9_findScores 53 = .ok (.aload_n 0, 1) := by decide +kernel
theorem dX9_findScores_54 : decode cX9_findScores 54 = .ok (.getfield 39, 3) := by decide +kernel
theorem dX9_findScores_57 : decode cX9_findScores 57 = .ok (.bipush 121, 2) := by decide +kernel
theorem dX9_findScores_59 : decode cX9_findScores 59 = .ok (.iload_n 1, 1) := by decide +kernel
theorem dX9_findScores_60 : decode cX9_findScores 60 = .ok (.imul, 1) := by decide +kernel
theorem dX9_findScores_61 : decode cX9_findScores 61 = .ok (.iload_n 2, 1) := by decide +kernel
theorem dX9_findScores_62 : decode cX9_findScores 62 = .ok (.iadd, 1) := by decide +kernel
theorem dX9_findScores_63 : decode cX9_findScores 63 = .ok (.iload_n 3, 1) := by decide +kernel
theorem dX9_findScores_64 : decode cX9_findScores 64 = .ok (.ifCond .eq 10, 3) := by decide +kernel
theorem dX9_findScores_67 : decode cX9_findScores 67 = .ok (.aload_n 0, 1) := by decide +kernel
theorem dX9_findScores_68 : decode cX9_findScores 68 = .ok (.getfield 115, 3) := by decide +kernel
theorem dX9_findScores_71 : decode cX9_findScores 71 = .ok (.goto 4, 3) := by decide +kernel
theorem dX9_findScores_74 : decode cX9_findScores 74 = .ok (.iconst (-1), 1) := by decide +kernel
theorem dX9_findScores_75 : decode cX9_findScores 75 = .ok (.iastore, 1) := by decide +kernel
theorem dX9_findScores_76 : decode cX9_findScores 76 = .ok (.aload_n 0, 1) := by decide +kernel
theorem dX9_findScores_77 : decode cX9_findScores 77 = .ok (.getfield 42, 3) := by decide +kernel
theorem dX9_findScores_80 : decode cX9_findScores 80 = .ok (.bipush 121, 2) := by decide +kernel
theorem dX9_findScores_82 : decode cX9_findScores 82 = .ok (.iload_n 1, 1) := by decide +kernel
theorem dX9_findScores_83 : decode cX9_findScores 83 = .ok (.imul, 1) := by decide +kernel
theorem dX9_findScores_84 : decode cX9_findScores 84 = .ok (.iload_n 2, 1) := by decide +kernel
theorem dX9_findScores_85 : decode cX9_findScores 85 = .ok (.iadd, 1) := by decide +kernel
theorem dX9_findScores_86 : decode cX9_findScores 86 = .ok (.aload_n 0, 1) := by decide +kernel
theorem dX9_findScores_87 : decode cX9_findScores 87 = .ok (.getfield 118, 3) := by decide +kernel
theorem dX9_findScores_90 : decode cX9_findScores 90 = .ok (.iastore, 1) := by decide +kernel
theorem dX9_findScores_91 : decode cX9_findScores 91 = .ok (.iinc 2 1, 3) := by decide +kernel
theorem dX9_findScores_94 : decode cX9_findScores 94 = .ok (.goto (-82), 3) := by decide +kernel
theorem dX9_findScores_97 : decode cX9_findScores 97 = .ok (.iinc 1 1, 3) := by decide +kernel
theorem dX9_findScores_100 : decode cX9_findScores 100 = .ok (.goto (-98), 3) := by decide +kernel
theorem dX9_findScores_103 : decode cX9_findScores 103 = .ok (.return_, 1) := by decide +kernel
theorem dX9_worth_0 : decode cX9_worth 0 = .ok (.aload_n 0, 1) := by decide +kernel
theorem dX9_worth_1 : decode cX9_worth 1 = .ok (.getfield 39, 3) := by decide +kernel
theorem dX9_worth_4 : decode cX9_worth 4 = .ok (.bipush 121, 2) := by decide +kernel
theorem dX9_worth_6 : decode cX9_worth 6 = .ok (.iload_n 1, 1) := by decide +kernel
theorem dX9_worth_7 : decode cX9_worth 7 = .ok (.imul, 1) := by decide +kernel
theorem dX9_worth_8 : decode cX9_worth 8 = .ok (.iload_n 2, 1) := by decide +kernel
theorem dX9_worth_9 : decode cX9_worth 9 = .ok (.iadd, 1) := by decide +kernel
theorem dX9_worth_10 : decode cX9_worth 10 = .ok (.iaload, 1) := by decide +kernel
theorem dX9_worth_11 : decode cX9_worth 11 = .ok (.istore_n 3, 1) := by decide +kernel
theorem dX9_worth_12 : decode cX9_worth 12 = .ok (.iload_n 3, 1) := by decide +kernel
theorem dX9_worth_13 : decode cX9_worth 13 = .ok (.ifCond .ge 7, 3) := by decide +kernel
theorem dX9_worth_16 : decode cX9_worth 16 = .ok (.iconst (-1), 1) := by decide +kernel
theorem dX9_worth_17 : decode cX9_worth 17 = .ok (.goto 18, 3) := by decide +kernel
theorem dX9_worth_20 : decode cX9_worth 20 = .ok (.iload_n 3, 1) := by decide +kernel
theorem dX9_worth_21 : decode cX9_worth 21 = .ok (.aload_n 0, 1) := by decide +kernel
theorem dX9_worth_22 : decode cX9_worth 22 = .ok (.getfield 45, 3) := by decide +kernel
theorem dX9_worth_25 : decode cX9_worth 25 = .ok (.bipush 121, 2) := by decide +kernel
theorem dX9_worth_27 : decode cX9_worth 27 = .ok (.iload_n 1, 1) := by decide +kernel
theorem dX9_worth_28 : decode cX9_worth 28 = .ok (.iconst 1, 1) := by decide +kernel
theorem dX9_worth_29 : decode cX9_worth 29 = .ok (.iadd, 1) := by decide +kernel
theorem dX9_worth_30 : decode cX9_worth 30 = .ok (.imul, 1) := by decide +kernel
theorem dX9_worth_31 : decode cX9_worth 31 = .ok (.iload_n 2, 1) := by decide +kernel
theorem dX9_worth_32 : decode cX9_worth 32 = .ok (.iadd, 1) := by decide +kernel
theorem dX9_worth_33 : decode cX9_worth 33 = .ok (.iaload, 1) := by decide +kernel
theorem dX9_worth_34 : decode cX9_worth 34 = .ok (.iadd, 1) := by decide +kernel
theorem dX9_worth_35 : decode cX9_worth 35 = .ok (.ireturn, 1) := by decide +kernel
theorem dX9_findSums_0 : decode cX9_findSums 0 = .ok (.iconst 0, 1) := by decide +kernel
theorem dX9_findSums_1 : decode cX9_findSums 1 = .ok (.istore_n 1, 1) := by decide +kernel
theorem dX9_findSums_2 : decode cX9_findSums 2 = .ok (.iload_n 1, 1) := by decide +kernel
theorem dX9_findSums_3 : decode cX9_findSums 3 = .ok (.aload_n 0, 1) := by decide +kernel
theorem dX9_findSums_4 : decode cX9_findSums 4 = .ok (.getfield 7, 3) := by decide +kernel
theorem dX9_findSums_7 : decode cX9_findSums 7 = .ok (.iconst 0, 1) := by decide +kernel
theorem dX9_findSums_8 : decode cX9_findSums 8 = .ok (.iaload, 1) := by decide +kernel
theorem dX9_findSums_9 : decode cX9_findSums 9 = .ok (.if_icmp .gt 24, 3) := by decide +kernel
theorem dX9_findSums_12 : decode cX9_findSums 12 = .ok (.aload_n 0, 1) := by decide +kernel
theorem dX9_findSums_13 : decode cX9_findSums 13 = .ok (.getfield 45, 3) := by decide +kernel
theorem dX9_findSums_16 : decode cX9_findSums 16 = .ok (.bipush 121, 2) := by decide +kernel
theorem dX9_findSums_18 : decode cX9_findSums 18 = .ok (.aload_n 0, 1) := by decide +kernel
theorem dX9_findSums_19 : decode cX9_findSums 19 = .ok (.getfield 141, 3) := by decide +kernel
theorem dX9_findSums_22 : decode cX9_findSums 22 = .ok (.imul, 1) := by decide +kernel
theorem dX9_findSums_23 : decode cX9_findSums 23 = .ok (.iload_n 1, 1) := by decide +kernel
theorem dX9_findSums_24 : decode cX9_findSums 24 = .ok (.iadd, 1) := by decide +kernel
theorem dX9_findSums_25 : decode cX9_findSums 25 = .ok (.iconst 0, 1) := by decide +kernel
theorem dX9_findSums_26 : decode cX9_findSums 26 = .ok (.iastore, 1) := by decide +kernel
theorem dX9_findSums_27 : decode cX9_findSums 27 = .ok (.iinc 1 1, 3) := by decide +kernel
theorem dX9_findSums_30 : decode cX9_findSums 30 = .ok (.goto (-28), 3) := by decide +kernel
theorem dX9_findSums_33 : decode cX9_findSums 33 = .ok (.aload_n 0, 1) := by decide +kernel
theorem dX9_findSums_34 : decode cX9_findSums 34 = .ok (.getfield 141, 3) := by decide +kernel
theorem dX9_findSums_37 : decode cX9_findSums 37 = .ok (.iconst 1, 1) := by decide +kernel
theorem dX9_findSums_38 : decode cX9_findSums 38 = .ok (.isub, 1) := by decide +kernel
theorem dX9_findSums_39 : decode cX9_findSums 39 = .ok (.istore_n 1, 1) := by decide +kernel
theorem dX9_findSums_40 : decode cX9_findSums 40 = .ok (.iload_n 1, 1) := by decide +kernel
theorem dX9_findSums_41 : decode cX9_findSums 41 = .ok (.ifCond .lt 94, 3) := by decide +kernel
theorem dX9_findSums_44 : decode cX9_findSums 44 = .ok (.aload_n 0, 1) := by decide +kernel
theorem dX9_findSums_45 : decode cX9_findSums 45 = .ok (.getfield 7, 3) := by decide +kernel
theorem dX9_findSums_48 : decode cX9_findSums 48 = .ok (.iconst 0, 1) := by decide +kernel
theorem dX9_findSums_49 : decode cX9_findSums 49 = .ok (.iaload, 1) := by decide +kernel
theorem dX9_findSums_50 : decode cX9_findSums 50 = .ok (.istore_n 2, 1) := by decide +kernel
theorem dX9_findSums_51 : decode cX9_findSums 51 = .ok (.iload_n 2, 1) := by decide +kernel
theorem dX9_findSums_52 : decode cX9_findSums 52 = .ok (.ifCond .lt 77, 3) := by decide +kernel
theorem dX9_findSums_55 : decode cX9_findSums 55 = .ok (.aload_n 0, 1) := by decide +kernel
theorem dX9_findSums_56 : decode cX9_findSums 56 = .ok (.getfield 45, 3) := by decide +kernel
theorem dX9_findSums_59 : decode cX9_findSums 59 = .ok (.bipush 121, 2) := by decide +kernel
theorem dX9_findSums_61 : decode cX9_findSums 61 = .ok (.iload_n 1, 1) := by decide +kernel
theorem dX9_findSums_62 : decode cX9_findSums 62 = .ok (.iconst 1, 1) := by decide +kernel
theorem dX9_findSums_63 : decode cX9_findSums 63 = .ok (.iadd, 1) := by decide +kernel
theorem dX9_findSums_64 : decode cX9_findSums 64 = .ok (.imul, 1) := by decide +kernel
theorem dX9_findSums_65 : decode cX9_findSums 65 = .ok (.iload_n 2, 1) := by decide +kernel
theorem dX9_findSums_66 : decode cX9_findSums 66 = .ok (.iadd, 1) := by decide +kernel
theorem dX9_findSums_67 : decode cX9_findSums 67 = .ok (.iaload, 1) := by decide +kernel
theorem dX9_findSums_68 : decode cX9_findSums 68 = .ok (.istore_n 3, 1) := by decide +kernel
theorem dX9_findSums_69 : decode cX9_findSums 69 = .ok (.iload_n 2, 1) := by decide +kernel
theorem dX9_findSums_70 : decode cX9_findSums 70 = .ok (.istore 4, 2) := by decide +kernel
theorem dX9_findSums_72 : decode cX9_findSums 72 = .ok (.iload 4, 2) := by decide +kernel
theorem dX9_findSums_74 : decode cX9_findSums 74 = .ok (.aload_n 0, 1) := by decide +kernel
theorem dX9_findSums_75 : decode cX9_findSums 75 = .ok (.getfield 7, 3) := by decide +kernel
theorem dX9_findSums_78 : decode cX9_findSums 78 = .ok (.iconst 0, 1) := by decide +kernel
theorem dX9_findSums_79 : decode cX9_findSums 79 = .ok (.iaload, 1) := by decide +kernel
theorem dX9_findSums_80 : decode cX9_findSums 80 = .ok (.if_icmp .ge 31, 3) := by decide +kernel
theorem dX9_findSums_83 : decode cX9_findSums 83 = .ok (.aload_n 0, 1) := by decide +kernel
theorem dX9_findSums_84 : decode cX9_findSums 84 = .ok (.iload_n 1, 1) := by decide +kernel
theorem dX9_findSums_85 : decode cX9_findSums 85 = .ok (.iload 4, 2) := by decide +kernel
theorem dX9_findSums_87 : decode cX9_findSums 87 = .ok (.invokevirtual 144, 3) := by decide +kernel
theorem dX9_findSums_90 : decode cX9_findSums 90 = .ok (.istore 5, 2) := by decide +kernel
theorem dX9_findSums_92 : decode cX9_findSums 92 = .ok (.iload 5, 2) := by decide +kernel
theorem dX9_findSums_94 : decode cX9_findSums 94 = .ok (.iload_n 3, 1) := by decide +kernel
theorem dX9_findSums_95 : decode cX9_findSums 95 = .ok (.if_icmp .le 8, 3) := by decide +kernel
theorem dX9_findSums_98 : decode cX9_findSums 98 = .ok (.iload 5, 2) := by decide +kernel
theorem dX9_findSums_100 : decode cX9_findSums 100 = .ok (.goto 4, 3) := by decide +kernel
theorem dX9_findSums_103 : decode cX9_findSums 103 = .ok (.iload_n 3, 1) := by decide +kernel
theorem dX9_findSums_104 : decode cX9_findSums 104 = .ok (.istore_n 3, 1) := by decide +kernel
theorem dX9_findSums_105 : decode cX9_findSums 105 = .ok (.iinc 4 1, 3) := by decide +kernel
theorem dX9_findSums_108 : decode cX9_findSums 108 = .ok (.goto (-36), 3) := by decide +kernel
theorem dX9_findSums_111 : decode cX9_findSums 111 = .ok (.aload_n 0, 1) := by decide +kernel
theorem dX9_findSums_112 : decode cX9_findSums 112 = .ok (.getfield 45, 3) := by decide +kernel
theorem dX9_findSums_115 : decode cX9_findSums 115 = .ok (.bipush 121, 2) := by decide +kernel
theorem dX9_findSums_117 : decode cX9_findSums 117 = .ok (.iload_n 1, 1) := by decide +kernel
theorem dX9_findSums_118 : decode cX9_findSums 118 = .ok (.imul, 1) := by decide +kernel
theorem dX9_findSums_119 : decode cX9_findSums 119 = .ok (.iload_n 2, 1) := by decide +kernel
theorem dX9_findSums_120 : decode cX9_findSums 120 = .ok (.iadd, 1) := by decide +kernel
theorem dX9_findSums_121 : decode cX9_findSums 121 = .ok (.iload_n 3, 1) := by decide +kernel
theorem dX9_findSums_122 : decode cX9_findSums 122 = .ok (.iastore, 1) := by decide +kernel
theorem dX9_findSums_123 : decode cX9_findSums 123 = .ok (.iinc 2 (-1), 3) := by decide +kernel
theorem dX9_findSums_126 : decode cX9_findSums 126 = .ok (.goto (-75), 3) := by decide +kernel
theorem dX9_findSums_129 : decode cX9_findSums 129 = .ok (.iinc 1 (-1), 3) := by decide +kernel
theorem dX9_findSums_132 : decode cX9_findSums 132 = .ok (.goto (-92), 3) := by decide +kernel
theorem dX9_findSums_135 : decode cX9_findSums 135 = .ok (.return_, 1) := by decide +kernel
theorem dX9_chosen_0 : decode cX9_chosen 0 = .ok (.iconst (-1), 1) := by decide +kernel
theorem dX9_chosen_1 : decode cX9_chosen 1 = .ok (.istore_n 3, 1) := by decide +kernel
theorem dX9_chosen_2 : decode cX9_chosen 2 = .ok (.iload_n 2, 1) := by decide +kernel
theorem dX9_chosen_3 : decode cX9_chosen 3 = .ok (.istore 4, 2) := by decide +kernel
theorem dX9_chosen_5 : decode cX9_chosen 5 = .ok (.iload 4, 2) := by decide +kernel
theorem dX9_chosen_7 : decode cX9_chosen 7 = .ok (.aload_n 0, 1) := by decide +kernel
theorem dX9_chosen_8 : decode cX9_chosen 8 = .ok (.getfield 7, 3) := by decide +kernel
theorem dX9_chosen_11 : decode cX9_chosen 11 = .ok (.iconst 0, 1) := by decide +kernel
theorem dX9_chosen_12 : decode cX9_chosen 12 = .ok (.iaload, 1) := by decide +kernel
theorem dX9_chosen_13 : decode cX9_chosen 13 = .ok (.if_icmp .ge 75, 3) := by decide +kernel
theorem dX9_chosen_16 : decode cX9_chosen 16 = .ok (.aload_n 0, 1) := by decide +kernel
theorem dX9_chosen_17 : decode cX9_chosen 17 = .ok (.iload_n 1, 1) := by decide +kernel
theorem dX9_chosen_18 : decode cX9_chosen 18 = .ok (.iload 4, 2) := by decide +kernel
theorem dX9_chosen_20 : decode cX9_chosen 20 = .ok (.invokevirtual 144, 3) := by decide +kernel
theorem dX9_chosen_23 : decode cX9_chosen 23 = .ok (.aload_n 0, 1) := by decide +kernel
theorem dX9_chosen_24 : decode cX9_chosen 24 = .ok (.getfield 45, 3) := by decide +kernel
theorem dX9_chosen_27 : decode cX9_chosen 27 = .ok (.bipush 121, 2) := by decide +kernel
theorem dX9_chosen_29 : decode cX9_chosen 29 = .ok (.iload_n 1, 1) := by decide +kernel
theorem dX9_chosen_30 : decode cX9_chosen 30 = .ok (.imul, 1) := by decide +kernel
theorem dX9_chosen_31 : decode cX9_chosen 31 = .ok (.iload_n 2, 1) := by decide +kernel
theorem dX9_chosen_32 : decode cX9_chosen 32 = .ok (.iadd, 1) := by decide +kernel
theorem dX9_chosen_33 : decode cX9_chosen 33 = .ok (.iaload, 1) := by decide +kernel
theorem dX9_chosen_34 : decode cX9_chosen 34 = .ok (.if_icmp .ne 7, 3) := by decide +kernel
theorem dX9_chosen_37 : decode cX9_chosen 37 = .ok (.iconst 1, 1) := by decide +kernel
theorem dX9_chosen_38 : decode cX9_chosen 38 = .ok (.goto 4, 3) := by decide +kernel
theorem dX9_chosen_41 : decode cX9_chosen 41 = .ok (.iconst 0, 1) := by decide +kernel
theorem dX9_chosen_42 : decode cX9_chosen 42 = .ok (.istore 5, 2) := by decide +kernel
theorem dX9_chosen_44 : decode cX9_chosen 44 = .ok (.iload 5, 2) := by decide +kernel
theorem dX9_chosen_46 : decode cX9_chosen 46 = .ok (.ifCond .eq 36, 3) := by decide +kernel
theorem dX9_chosen_49 : decode cX9_chosen 49 = .ok (.iload_n 3, 1) := by decide +kernel
theorem dX9_chosen_50 : decode cX9_chosen 50 = .ok (.ifCond .lt 29, 3) := by decide +kernel
theorem dX9_chosen_53 : decode cX9_chosen 53 = .ok (.aload_n 0, 1) := by decide +kernel
theorem dX9_chosen_54 : decode cX9_chosen 54 = .ok (.getfield 39, 3) := by decide +kernel
theorem dX9_chosen_57 : decode cX9_chosen 57 = .ok (.bipush 121, 2) := by decide +kernel
theorem dX9_chosen_59 : decode cX9_chosen 59 = .ok (.iload_n 1, 1) := by decide +kernel
theorem dX9_chosen_60 : decode cX9_chosen 60 = .ok (.imul, 1) := by decide +kernel
theorem dX9_chosen_61 : decode cX9_chosen 61 = .ok (.iload 4, 2) := by decide +kernel
theorem dX9_chosen_63 : decode cX9_chosen 63 = .ok (.iadd, 1) := by decide +kernel
theorem dX9_chosen_64 : decode cX9_chosen 64 = .ok (.iaload, 1) := by decide +kernel
theorem dX9_chosen_65 : decode cX9_chosen 65 = .ok (.aload_n 0, 1) := by decide +kernel
theorem dX9_chosen_66 : decode cX9_chosen 66 = .ok (.getfield 39, 3) := by decide +kernel
theorem dX9_chosen_69 : decode cX9_chosen 69 = .ok (.bipush 121, 2) := by decide +kernel
theorem dX9_chosen_71 : decode cX9_chosen 71 = .ok (.iload_n 1, 1) := by decide +kernel
theorem dX9_chosen_72 : decode cX9_chosen 72 = .ok (.imul, 1) := by decide +kernel
theorem dX9_chosen_73 : decode cX9_chosen 73 = .ok (.iload_n 3, 1) := by decide +kernel
theorem dX9_chosen_74 : decode cX9_chosen 74 = .ok (.iadd, 1) := by decide +kernel
theorem dX9_chosen_75 : decode cX9_chosen 75 = .ok (.iaload, 1) := by decide +kernel
theorem dX9_chosen_76 : decode cX9_chosen 76 = .ok (.if_icmp .le 6, 3) := by decide +kernel
theorem dX9_chosen_79 : decode cX9_chosen 79 = .ok (.iload 4, 2) := by decide +kernel
theorem dX9_chosen_81 : decode cX9_chosen 81 = .ok (.istore_n 3, 1) := by decide +kernel
theorem dX9_chosen_82 : decode cX9_chosen 82 = .ok (.iinc 4 1, 3) := by decide +kernel
theorem dX9_chosen_85 : decode cX9_chosen 85 = .ok (.goto (-80), 3) := by decide +kernel
theorem dX9_chosen_88 : decode cX9_chosen 88 = .ok (.iload_n 3, 1) := by decide +kernel
theorem dX9_chosen_89 : decode cX9_chosen 89 = .ok (.ireturn, 1) := by decide +kernel
theorem dX9_attachAll_0 : decode cX9_attachAll 0 = .ok (.aload_n 0, 1) := by decide +kernel
theorem dX9_attachAll_1 : decode cX9_attachAll 1 = .ok (.invokevirtual 147, 3) := by decide +kernel
theorem dX9_attachAll_4 : decode cX9_attachAll 4 = .ok (.aload_n 0, 1) := by decide +kernel
theorem dX9_attachAll_5 : decode cX9_attachAll 5 = .ok (.invokevirtual 150, 3) := by decide +kernel
theorem dX9_attachAll_8 : decode cX9_attachAll 8 = .ok (.aload_n 0, 1) := by decide +kernel
theorem dX9_attachAll_9 : decode cX9_attachAll 9 = .ok (.invokevirtual 153, 3) := by decide +kernel
theorem dX9_attachAll_12 : decode cX9_attachAll 12 = .ok (.aload_n 0, 1) := by decide +kernel
theorem dX9_attachAll_13 : decode cX9_attachAll 13 = .ok (.invokevirtual 66, 3) := by decide +kernel
theorem dX9_attachAll_16 : decode cX9_attachAll 16 = .ok (.iconst 0, 1) := by decide +kernel
theorem dX9_attachAll_17 : decode cX9_attachAll 17 = .ok (.istore_n 1, 1) := by decide +kernel
theorem dX9_attachAll_18 : decode cX9_attachAll 18 = .ok (.iconst 0, 1) := by decide +kernel
theorem dX9_attachAll_19 : decode cX9_attachAll 19 = .ok (.istore_n 2, 1) := by decide +kernel
theorem dX9_attachAll_20 : decode cX9_attachAll 20 = .ok (.iconst 0, 1) := by decide +kernel
theorem dX9_attachAll_21 : decode cX9_attachAll 21 = .ok (.istore_n 3, 1) := by decide +kernel
theorem dX9_attachAll_22 : decode cX9_attachAll 22 = .ok (.iload_n 3, 1) := by decide +kernel
theorem dX9_attachAll_23 : decode cX9_attachAll 23 = .ok (.aload_n 0, 1) := by decide +kernel
theorem dX9_attachAll_24 : decode cX9_attachAll 24 = .ok (.getfield 141, 3) := by decide +kernel
theorem dX9_attachAll_27 : decode cX9_attachAll 27 = .ok (.if_icmp .ge 52, 3) := by decide +kernel
theorem dX9_attachAll_30 : decode cX9_attachAll 30 = .ok (.aload_n 0, 1) := by decide +kernel
theorem dX9_attachAll_31 : decode cX9_attachAll 31 = .ok (.iload_n 3, 1) := by decide +kernel
theorem dX9_attachAll_32 : decode cX9_attachAll 32 = .ok (.iload_n 2, 1) := by decide +kernel

theorem dX9_init_0 : decode cX9_init 0 = .ok (.aload_n 0, 1) := by decide +kernel
theorem dX9_init_1 : decode cX9_init 1 = .ok (.invokespecial 1, 3) := by decide +kernel
theorem dX9_init_4 : decode cX9_init 4 = .ok (.aload_n 0, 1) := by decide +kernel
theorem dX9_init_5 : decode cX9_init 5 = .ok (.sipush 1256, 3) := by decide +kernel
theorem dX9_init_8 : decode cX9_init 8 = .ok (.newarray .int, 2) := by decide +kernel
theorem dX9_init_10 : decode cX9_init 10 = .ok (.putfield 7, 3) := by decide +kernel
theorem dX9_init_13 : decode cX9_init 13 = .ok (.aload_n 0, 1) := by decide +kernel
theorem dX9_init_14 : decode cX9_init 14 = .ok (.sipush 1256, 3) := by decide +kernel
theorem dX9_init_17 : decode cX9_init 17 = .ok (.newarray .int, 2) := by decide +kernel
theorem dX9_init_19 : decode cX9_init 19 = .ok (.putfield 13, 3) := by decide +kernel
theorem dX9_init_22 : decode cX9_init 22 = .ok (.aload_n 0, 1) := by decide +kernel
theorem dX9_init_23 : decode cX9_init 23 = .ok (.sipush 1256, 3) := by decide +kernel
theorem dX9_init_26 : decode cX9_init 26 = .ok (.newarray .int, 2) := by decide +kernel
theorem dX9_init_28 : decode cX9_init 28 = .ok (.putfield 16, 3) := by decide +kernel
theorem dX9_init_31 : decode cX9_init 31 = .ok (.aload_n 0, 1) := by decide +kernel
theorem dX9_init_32 : decode cX9_init 32 = .ok (.sipush 10048, 3) := by decide +kernel
theorem dX9_init_35 : decode cX9_init 35 = .ok (.newarray .int, 2) := by decide +kernel
theorem dX9_init_37 : decode cX9_init 37 = .ok (.putfield 19, 3) := by decide +kernel
theorem dX9_init_40 : decode cX9_init 40 = .ok (.aload_n 0, 1) := by decide +kernel
theorem dX9_init_41 : decode cX9_init 41 = .ok (.sipush 2512, 3) := by decide +kernel
theorem dX9_init_44 : decode cX9_init 44 = .ok (.newarray .int, 2) := by decide +kernel
theorem dX9_init_46 : decode cX9_init 46 = .ok (.putfield 22, 3) := by decide +kernel
theorem dX9_init_49 : decode cX9_init 49 = .ok (.aload_n 0, 1) := by decide +kernel
theorem dX9_init_50 : decode cX9_init 50 = .ok (.iconst 2, 1) := by decide +kernel
theorem dX9_init_51 : decode cX9_init 51 = .ok (.newarray .boolean, 2) := by decide +kernel
theorem dX9_init_53 : decode cX9_init 53 = .ok (.putfield 25, 3) := by decide +kernel
theorem dX9_init_56 : decode cX9_init 56 = .ok (.aload_n 0, 1) := by decide +kernel
theorem dX9_init_57 : decode cX9_init 57 = .ok (.sipush 600, 3) := by decide +kernel
theorem dX9_init_60 : decode cX9_init 60 = .ok (.newarray .int, 2) := by decide +kernel
theorem dX9_init_62 : decode cX9_init 62 = .ok (.putfield 29, 3) := by decide +kernel
theorem dX9_init_65 : decode cX9_init 65 = .ok (.aload_n 0, 1) := by decide +kernel
theorem dX9_init_66 : decode cX9_init 66 = .ok (.iconst (-1), 1) := by decide +kernel
theorem dX9_init_67 : decode cX9_init 67 = .ok (.putfield 32, 3) := by decide +kernel
theorem dX9_init_70 : decode cX9_init 70 = .ok (.aload_n 0, 1) := by decide +kernel
theorem dX9_init_71 : decode cX9_init 71 = .ok (.bipush 32, 2) := by decide +kernel
theorem dX9_init_73 : decode cX9_init 73 = .ok (.newarray .int, 2) := by decide +kernel
theorem dX9_init_75 : decode cX9_init 75 = .ok (.putfield 36, 3) := by decide +kernel
theorem dX9_init_78 : decode cX9_init 78 = .ok (.aload_n 0, 1) := by decide +kernel
theorem dX9_init_79 : decode cX9_init 79 = .ok (.bipush 12, 2) := by decide +kernel
theorem dX9_init_81 : decode cX9_init 81 = .ok (.newarray .boolean, 2) := by decide +kernel
theorem dX9_init_83 : decode cX9_init 83 = .ok (.putfield 39, 3) := by decide +kernel
theorem dX9_init_86 : decode cX9_init 86 = .ok (.aload_n 0, 1) := by decide +kernel
theorem dX9_init_87 : decode cX9_init 87 = .ok (.bipush 12, 2) := by decide +kernel
theorem dX9_init_89 : decode cX9_init 89 = .ok (.newarray .int, 2) := by decide +kernel
theorem dX9_init_91 : decode cX9_init 91 = .ok (.putfield 42, 3) := by decide +kernel
theorem dX9_init_94 : decode cX9_init 94 = .ok (.aload_n 0, 1) := by decide +kernel
theorem dX9_init_95 : decode cX9_init 95 = .ok (.bipush 12, 2) := by decide +kernel
theorem dX9_init_97 : decode cX9_init 97 = .ok (.newarray .int, 2) := by decide +kernel
theorem dX9_init_99 : decode cX9_init 99 = .ok (.putfield 45, 3) := by decide +kernel
theorem dX9_init_102 : decode cX9_init 102 = .ok (.aload_n 0, 1) := by decide +kernel
theorem dX9_init_103 : decode cX9_init 103 = .ok (.bipush 12, 2) := by decide +kernel
theorem dX9_init_105 : decode cX9_init 105 = .ok (.newarray .int, 2) := by decide +kernel
theorem dX9_init_107 : decode cX9_init 107 = .ok (.putfield 48, 3) := by decide +kernel
theorem dX9_init_110 : decode cX9_init 110 = .ok (.aload_n 0, 1) := by decide +kernel
theorem dX9_init_111 : decode cX9_init 111 = .ok (.bipush 12, 2) := by decide +kernel
theorem dX9_init_113 : decode cX9_init 113 = .ok (.newarray .int, 2) := by decide +kernel
theorem dX9_init_115 : decode cX9_init 115 = .ok (.putfield 51, 3) := by decide +kernel
theorem dX9_init_118 : decode cX9_init 118 = .ok (.aload_n 0, 1) := by decide +kernel
theorem dX9_init_119 : decode cX9_init 119 = .ok (.sipush 144, 3) := by decide +kernel
theorem dX9_init_122 : decode cX9_init 122 = .ok (.newarray .int, 2) := by decide +kernel
theorem dX9_init_124 : decode cX9_init 124 = .ok (.putfield 54, 3) := by decide +kernel
theorem dX9_init_127 : decode cX9_init 127 = .ok (.aload_n 0, 1) := by decide +kernel
theorem dX9_init_128 : decode cX9_init 128 = .ok (.bipush 72, 2) := by decide +kernel
theorem dX9_init_130 : decode cX9_init 130 = .ok (.newarray .int, 2) := by decide +kernel
theorem dX9_init_132 : decode cX9_init 132 = .ok (.putfield 57, 3) := by decide +kernel
theorem dX9_init_135 : decode cX9_init 135 = .ok (.aload_n 0, 1) := by decide +kernel
theorem dX9_init_136 : decode cX9_init 136 = .ok (.sipush 400, 3) := by decide +kernel
theorem dX9_init_139 : decode cX9_init 139 = .ok (.newarray .int, 2) := by decide +kernel
theorem dX9_init_141 : decode cX9_init 141 = .ok (.putfield 60, 3) := by decide +kernel
theorem dX9_init_144 : decode cX9_init 144 = .ok (.aload_n 0, 1) := by decide +kernel
theorem dX9_init_145 : decode cX9_init 145 = .ok (.invokevirtual 63, 3) := by decide +kernel
theorem dX9_init_148 : decode cX9_init 148 = .ok (.aload_n 0, 1) := by decide +kernel
theorem dX9_init_149 : decode cX9_init 149 = .ok (.getfield 7, 3) := by decide +kernel
theorem dX9_init_152 : decode cX9_init 152 = .ok (.iconst 0, 1) := by decide +kernel
theorem dX9_init_153 : decode cX9_init 153 = .ok (.bipush 10, 2) := by decide +kernel
theorem dX9_init_155 : decode cX9_init 155 = .ok (.iastore, 1) := by decide +kernel
theorem dX9_init_156 : decode cX9_init 156 = .ok (.aload_n 0, 1) := by decide +kernel
theorem dX9_init_157 : decode cX9_init 157 = .ok (.getfield 7, 3) := by decide +kernel
theorem dX9_init_160 : decode cX9_init 160 = .ok (.iconst 1, 1) := by decide +kernel
theorem dX9_init_161 : decode cX9_init 161 = .ok (.bipush 10, 2) := by decide +kernel
theorem dX9_init_163 : decode cX9_init 163 = .ok (.iastore, 1) := by decide +kernel
theorem dX9_init_164 : decode cX9_init 164 = .ok (.aload_n 0, 1) := by decide +kernel
theorem dX9_init_165 : decode cX9_init 165 = .ok (.getfield 7, 3) := by decide +kernel
theorem dX9_init_168 : decode cX9_init 168 = .ok (.iconst 2, 1) := by decide +kernel
theorem dX9_init_169 : decode cX9_init 169 = .ok (.iconst 1, 1) := by decide +kernel
theorem dX9_init_170 : decode cX9_init 170 = .ok (.iastore, 1) := by decide +kernel
theorem dX9_init_171 : decode cX9_init 171 = .ok (.return_, 1) := by decide +kernel
theorem dX9_begins_0 : decode cX9_begins 0 = .ok (.iconst 0, 1) := by decide +kernel
theorem dX9_begins_1 : decode cX9_begins 1 = .ok (.istore_n 1, 1) := by decide +kernel
theorem dX9_begins_2 : decode cX9_begins 2 = .ok (.iload_n 1, 1) := by decide +kernel
theorem dX9_begins_3 : decode cX9_begins 3 = .ok (.sipush 1256, 3) := by decide +kernel
theorem dX9_begins_6 : decode cX9_begins 6 = .ok (.if_icmp .ge 16, 3) := by decide +kernel
theorem dX9_begins_9 : decode cX9_begins 9 = .ok (.aload_n 0, 1) := by decide +kernel
theorem dX9_begins_10 : decode cX9_begins 10 = .ok (.getfield 7, 3) := by decide +kernel
theorem dX9_begins_13 : decode cX9_begins 13 = .ok (.iload_n 1, 1) := by decide +kernel
theorem dX9_begins_14 : decode cX9_begins 14 = .ok (.iconst 0, 1) := by decide +kernel
theorem dX9_begins_15 : decode cX9_begins 15 = .ok (.iastore, 1) := by decide +kernel
theorem dX9_begins_16 : decode cX9_begins 16 = .ok (.iinc 1 1, 3) := by decide +kernel
theorem dX9_begins_19 : decode cX9_begins 19 = .ok (.goto (-17), 3) := by decide +kernel
theorem dX9_begins_22 : decode cX9_begins 22 = .ok (.aload_n 0, 1) := by decide +kernel
theorem dX9_begins_23 : decode cX9_begins 23 = .ok (.getfield 7, 3) := by decide +kernel
theorem dX9_begins_26 : decode cX9_begins 26 = .ok (.bipush 6, 2) := by decide +kernel
theorem dX9_begins_28 : decode cX9_begins 28 = .ok (.iconst 5, 1) := by decide +kernel
theorem dX9_begins_29 : decode cX9_begins 29 = .ok (.iastore, 1) := by decide +kernel
theorem dX9_begins_30 : decode cX9_begins 30 = .ok (.return_, 1) := by decide +kernel
theorem dX9_thrown_0 : decode cX9_thrown 0 = .ok (.aload_n 0, 1) := by decide +kernel
theorem dX9_thrown_1 : decode cX9_thrown 1 = .ok (.getfield 66, 3) := by decide +kernel
theorem dX9_thrown_4 : decode cX9_thrown 4 = .ok (.ireturn, 1) := by decide +kernel
theorem dX9_isIn_0 : decode cX9_isIn 0 = .ok (.iload_n 0, 1) := by decide +kernel
theorem dX9_isIn_1 : decode cX9_isIn 1 = .ok (.iload_n 1, 1) := by decide +kernel
theorem dX9_isIn_2 : decode cX9_isIn 2 = .ok (.if_icmp .lt 12, 3) := by decide +kernel
theorem dX9_isIn_5 : decode cX9_isIn 5 = .ok (.iload_n 0, 1) := by decide +kernel
theorem dX9_isIn_6 : decode cX9_isIn 6 = .ok (.iload_n 2, 1) := by decide +kernel
theorem dX9_isIn_7 : decode cX9_isIn 7 = .ok (.if_icmp .gt 7, 3) := by decide +kernel
theorem dX9_isIn_10 : decode cX9_isIn 10 = .ok (.iconst 1, 1) := by decide +kernel
theorem dX9_isIn_11 : decode cX9_isIn 11 = .ok (.goto 4, 3) := by decide +kernel
theorem dX9_isIn_14 : decode cX9_isIn 14 = .ok (.iconst 0, 1) := by decide +kernel
theorem dX9_isIn_15 : decode cX9_isIn 15 = .ok (.ireturn, 1) := by decide +kernel
theorem dX9_copies_0 : decode cX9_copies 0 = .ok (.iconst 0, 1) := by decide +kernel
theorem dX9_copies_1 : decode cX9_copies 1 = .ok (.istore 4, 2) := by decide +kernel
theorem dX9_copies_3 : decode cX9_copies 3 = .ok (.iload 4, 2) := by decide +kernel
theorem dX9_copies_5 : decode cX9_copies 5 = .ok (.sipush 1256, 3) := by decide +kernel
theorem dX9_copies_8 : decode cX9_copies 8 = .ok (.if_icmp .ge 21, 3) := by decide +kernel
theorem dX9_copies_11 : decode cX9_copies 11 = .ok (.aload_n 0, 1) := by decide +kernel
theorem dX9_copies_12 : decode cX9_copies 12 = .ok (.iload_n 1, 1) := by decide +kernel
theorem dX9_copies_13 : decode cX9_copies 13 = .ok (.iload 4, 2) := by decide +kernel
theorem dX9_copies_15 : decode cX9_copies 15 = .ok (.iadd, 1) := by decide +kernel
theorem dX9_copies_16 : decode cX9_copies 16 = .ok (.aload_n 2, 1) := by decide +kernel
theorem dX9_copies_17 : decode cX9_copies 17 = .ok (.iload_n 3, 1) := by decide +kernel
theorem dX9_copies_18 : decode cX9_copies 18 = .ok (.iload 4, 2) := by decide +kernel
theorem dX9_copies_20 : decode cX9_copies 20 = .ok (.iadd, 1) := by decide +kernel
theorem dX9_copies_21 : decode cX9_copies 21 = .ok (.iaload, 1) := by decide +kernel
theorem dX9_copies_22 : decode cX9_copies 22 = .ok (.iastore, 1) := by decide +kernel
theorem dX9_copies_23 : decode cX9_copies 23 = .ok (.iinc 4 1, 3) := by decide +kernel
theorem dX9_copies_26 : decode cX9_copies 26 = .ok (.goto (-23), 3) := by decide +kernel
theorem dX9_copies_29 : decode cX9_copies 29 = .ok (.return_, 1) := by decide +kernel
theorem dX9_keeps_0 : decode cX9_keeps 0 = .ok (.aload_n 0, 1) := by decide +kernel
theorem dX9_keeps_1 : decode cX9_keeps 1 = .ok (.getfield 69, 3) := by decide +kernel
theorem dX9_keeps_4 : decode cX9_keeps 4 = .ok (.bipush 8, 2) := by decide +kernel
theorem dX9_keeps_6 : decode cX9_keeps 6 = .ok (.if_icmp .ne 44, 3) := by decide +kernel
theorem dX9_keeps_9 : decode cX9_keeps 9 = .ok (.iconst 0, 1) := by decide +kernel
theorem dX9_keeps_10 : decode cX9_keeps 10 = .ok (.istore_n 2, 1) := by decide +kernel
theorem dX9_keeps_11 : decode cX9_keeps 11 = .ok (.iload_n 2, 1) := by decide +kernel
theorem dX9_keeps_12 : decode cX9_keeps 12 = .ok (.sipush 8792, 3) := by decide +kernel
theorem dX9_keeps_15 : decode cX9_keeps 15 = .ok (.if_icmp .ge 25, 3) := by decide +kernel
theorem dX9_keeps_18 : decode cX9_keeps 18 = .ok (.aload_n 0, 1) := by decide +kernel
theorem dX9_keeps_19 : decode cX9_keeps 19 = .ok (.getfield 19, 3) := by decide +kernel
theorem dX9_keeps_22 : decode cX9_keeps 22 = .ok (.iload_n 2, 1) := by decide +kernel
theorem dX9_keeps_23 : decode cX9_keeps 23 = .ok (.aload_n 0, 1) := by decide +kernel
theorem dX9_keeps_24 : decode cX9_keeps 24 = .ok (.getfield 19, 3) := by decide +kernel
theorem dX9_keeps_27 : decode cX9_keeps 27 = .ok (.iload_n 2, 1) := by decide +kernel
theorem dX9_keeps_28 : decode cX9_keeps 28 = .ok (.sipush 1256, 3) := by decide +kernel
theorem dX9_keeps_31 : decode cX9_keeps 31 = .ok (.iadd, 1) := by decide +kernel
theorem dX9_keeps_32 : decode cX9_keeps 32 = .ok (.iaload, 1) := by decide +kernel
theorem dX9_keeps_33 : decode cX9_keeps 33 = .ok (.iastore, 1) := by decide +kernel
theorem dX9_keeps_34 : decode cX9_keeps 34 = .ok (.iinc 2 1, 3) := by decide +kernel
theorem dX9_keeps_37 : decode cX9_keeps 37 = .ok (.goto (-26), 3) := by decide +kernel
theorem dX9_keeps_40 : decode cX9_keeps 40 = .ok (.aload_n 0, 1) := by decide +kernel
theorem dX9_keeps_41 : decode cX9_keeps 41 = .ok (.dup, 1) := by decide +kernel
theorem dX9_keeps_42 : decode cX9_keeps 42 = .ok (.getfield 69, 3) := by decide +kernel
theorem dX9_keeps_45 : decode cX9_keeps 45 = .ok (.iconst 1, 1) := by decide +kernel
theorem dX9_keeps_46 : decode cX9_keeps 46 = .ok (.isub, 1) := by decide +kernel
theorem dX9_keeps_47 : decode cX9_keeps 47 = .ok (.putfield 69, 3) := by decide +kernel
theorem dX9_keeps_50 : decode cX9_keeps 50 = .ok (.aload_n 0, 1) := by decide +kernel
theorem dX9_keeps_51 : decode cX9_keeps 51 = .ok (.getfield 19, 3) := by decide +kernel
theorem dX9_keeps_54 : decode cX9_keeps 54 = .ok (.sipush 1256, 3) := by decide +kernel
theorem dX9_keeps_57 : decode cX9_keeps 57 = .ok (.aload_n 0, 1) := by decide +kernel
theorem dX9_keeps_58 : decode cX9_keeps 58 = .ok (.getfield 69, 3) := by decide +kernel
theorem dX9_keeps_61 : decode cX9_keeps 61 = .ok (.imul, 1) := by decide +kernel
theorem dX9_keeps_62 : decode cX9_keeps 62 = .ok (.aload_n 1, 1) := by decide +kernel
theorem dX9_keeps_63 : decode cX9_keeps 63 = .ok (.iconst 0, 1) := by decide +kernel
theorem dX9_keeps_64 : decode cX9_keeps 64 = .ok (.invokestatic 72, 3) := by decide +kernel
theorem dX9_keeps_67 : decode cX9_keeps 67 = .ok (.aload_n 0, 1) := by decide +kernel
theorem dX9_keeps_68 : decode cX9_keeps 68 = .ok (.dup, 1) := by decide +kernel
theorem dX9_keeps_69 : decode cX9_keeps 69 = .ok (.getfield 69, 3) := by decide +kernel
theorem dX9_keeps_72 : decode cX9_keeps 72 = .ok (.iconst 1, 1) := by decide +kernel
theorem dX9_keeps_73 : decode cX9_keeps 73 = .ok (.iadd, 1) := by decide +kernel
theorem dX9_keeps_74 : decode cX9_keeps 74 = .ok (.putfield 69, 3) := by decide +kernel
theorem dX9_keeps_77 : decode cX9_keeps 77 = .ok (.return_, 1) := by decide +kernel
theorem dX9_undo_0 : decode cX9_undo 0 = .ok (.aload_n 0, 1) := by decide +kernel
theorem dX9_undo_1 : decode cX9_undo 1 = .ok (.aload_n 0, 1) := by decide +kernel
theorem dX9_undo_2 : decode cX9_undo 2 = .ok (.getfield 69, 3) := by decide +kernel
theorem dX9_undo_5 : decode cX9_undo 5 = .ok (.ifCond .ne 7, 3) := by decide +kernel
theorem dX9_undo_8 : decode cX9_undo 8 = .ok (.iconst 1, 1) := by decide +kernel
theorem dX9_undo_9 : decode cX9_undo 9 = .ok (.goto 4, 3) := by decide +kernel
theorem dX9_undo_12 : decode cX9_undo 12 = .ok (.iconst 0, 1) := by decide +kernel
theorem dX9_undo_13 : decode cX9_undo 13 = .ok (.putfield 66, 3) := by decide +kernel
theorem dX9_undo_16 : decode cX9_undo 16 = .ok (.aload_n 0, 1) := by decide +kernel
theorem dX9_undo_17 : decode cX9_undo 17 = .ok (.getfield 66, 3) := by decide +kernel
theorem dX9_undo_20 : decode cX9_undo 20 = .ok (.ifCond .le 5, 3) := by decide +kernel
theorem dX9_undo_23 : decode cX9_undo 23 = .ok (.iconst 0, 1) := by decide +kernel
theorem dX9_undo_24 : decode cX9_undo 24 = .ok (.ireturn, 1) := by decide +kernel
theorem dX9_undo_25 : decode cX9_undo 25 = .ok (.aload_n 0, 1) := by decide +kernel
theorem dX9_undo_26 : decode cX9_undo 26 = .ok (.dup, 1) := by decide +kernel
theorem dX9_undo_27 : decode cX9_undo 27 = .ok (.getfield 69, 3) := by decide +kernel
theorem dX9_undo_30 : decode cX9_undo 30 = .ok (.iconst 1, 1) := by decide +kernel
theorem dX9_undo_31 : decode cX9_undo 31 = .ok (.isub, 1) := by decide +kernel
theorem dX9_undo_32 : decode cX9_undo 32 = .ok (.putfield 69, 3) := by decide +kernel
theorem dX9_undo_35 : decode cX9_undo 35 = .ok (.aload_n 0, 1) := by decide +kernel
theorem dX9_undo_36 : decode cX9_undo 36 = .ok (.getfield 7, 3) := by decide +kernel
theorem dX9_undo_39 : decode cX9_undo 39 = .ok (.iconst 0, 1) := by decide +kernel
theorem dX9_undo_40 : decode cX9_undo 40 = .ok (.aload_n 0, 1) := by decide +kernel
theorem dX9_undo_41 : decode cX9_undo 41 = .ok (.getfield 19, 3) := by decide +kernel
theorem dX9_undo_44 : decode cX9_undo 44 = .ok (.sipush 1256, 3) := by decide +kernel
theorem dX9_undo_47 : decode cX9_undo 47 = .ok (.aload_n 0, 1) := by decide +kernel
theorem dX9_undo_48 : decode cX9_undo 48 = .ok (.getfield 69, 3) := by decide +kernel
theorem dX9_undo_51 : decode cX9_undo 51 = .ok (.imul, 1) := by decide +kernel
theorem dX9_undo_52 : decode cX9_undo 52 = .ok (.invokestatic 72, 3) := by decide +kernel
theorem dX9_undo_55 : decode cX9_undo 55 = .ok (.aload_n 0, 1) := by decide +kernel
theorem dX9_undo_56 : decode cX9_undo 56 = .ok (.getfield 69, 3) := by decide +kernel
theorem dX9_undo_59 : decode cX9_undo 59 = .ok (.ireturn, 1) := by decide +kernel
theorem dX9_save_0 : decode cX9_save 0 = .ok (.aload_n 0, 1) := by decide +kernel
theorem dX9_save_1 : decode cX9_save 1 = .ok (.iload_n 1, 1) := by decide +kernel
theorem dX9_save_2 : decode cX9_save 2 = .ok (.iconst 0, 1) := by decide +kernel
theorem dX9_save_3 : decode cX9_save 3 = .ok (.iconst 1, 1) := by decide +kernel
theorem dX9_save_4 : decode cX9_save 4 = .ok (.invokestatic 76, 3) := by decide +kernel
theorem dX9_save_7 : decode cX9_save 7 = .ok (.ifCond .eq 7, 3) := by decide +kernel
theorem dX9_save_10 : decode cX9_save 10 = .ok (.iconst 0, 1) := by decide +kernel
theorem dX9_save_11 : decode cX9_save 11 = .ok (.goto 4, 3) := by decide +kernel
theorem dX9_save_14 : decode cX9_save 14 = .ok (.iconst 1, 1) := by decide +kernel
theorem dX9_save_15 : decode cX9_save 15 = .ok (.putfield 66, 3) := by decide +kernel
theorem dX9_save_18 : decode cX9_save 18 = .ok (.aload_n 0, 1) := by decide +kernel
theorem dX9_save_19 : decode cX9_save 19 = .ok (.getfield 66, 3) := by decide +kernel
theorem dX9_save_22 : decode cX9_save 22 = .ok (.ifCond .le 4, 3) := by decide +kernel
theorem dX9_save_25 : decode cX9_save 25 = .ok (.return_, 1) := by decide +kernel
theorem dX9_save_26 : decode cX9_save 26 = .ok (.aload_n 0, 1) := by decide +kernel
theorem dX9_save_27 : decode cX9_save 27 = .ok (.getfield 22, 3) := by decide +kernel
theorem dX9_save_30 : decode cX9_save 30 = .ok (.sipush 1256, 3) := by decide +kernel
theorem dX9_save_33 : decode cX9_save 33 = .ok (.iload_n 1, 1) := by decide +kernel
theorem dX9_save_34 : decode cX9_save 34 = .ok (.imul, 1) := by decide +kernel
theorem dX9_save_35 : decode cX9_save 35 = .ok (.aload_n 0, 1) := by decide +kernel
theorem dX9_save_36 : decode cX9_save 36 = .ok (.getfield 7, 3) := by decide +kernel
theorem dX9_save_39 : decode cX9_save 39 = .ok (.iconst 0, 1) := by decide +kernel
theorem dX9_save_40 : decode cX9_save 40 = .ok (.invokestatic 72, 3) := by decide +kernel
theorem dX9_save_43 : decode cX9_save 43 = .ok (.aload_n 0, 1) := by decide +kernel
theorem dX9_save_44 : decode cX9_save 44 = .ok (.getfield 25, 3) := by decide +kernel
theorem dX9_save_47 : decode cX9_save 47 = .ok (.iload_n 1, 1) := by decide +kernel
theorem dX9_save_48 : decode cX9_save 48 = .ok (.iconst 1, 1) := by decide +kernel
theorem dX9_save_49 : decode cX9_save 49 = .ok (.bastore, 1) := by decide +kernel
theorem dX9_save_50 : decode cX9_save 50 = .ok (.return_, 1) := by decide +kernel
theorem dX9_restore_0 : decode cX9_restore 0 = .ok (.aload_n 0, 1) := by decide +kernel
theorem dX9_restore_1 : decode cX9_restore 1 = .ok (.iload_n 1, 1) := by decide +kernel
theorem dX9_restore_2 : decode cX9_restore 2 = .ok (.iconst 0, 1) := by decide +kernel
theorem dX9_restore_3 : decode cX9_restore 3 = .ok (.iconst 1, 1) := by decide +kernel
theorem dX9_restore_4 : decode cX9_restore 4 = .ok (.invokestatic 76, 3) := by decide +kernel
theorem dX9_restore_7 : decode cX9_restore 7 = .ok (.ifCond .ne 7, 3) := by decide +kernel
theorem dX9_restore_10 : decode cX9_restore 10 = .ok (.iconst 1, 1) := by decide +kernel
theorem dX9_restore_11 : decode cX9_restore 11 = .ok (.goto 17, 3) := by decide +kernel
theorem dX9_restore_14 : decode cX9_restore 14 = .ok (.aload_n 0, 1) := by decide +kernel
theorem dX9_restore_15 : decode cX9_restore 15 = .ok (.getfield 25, 3) := by decide +kernel
theorem dX9_restore_18 : decode cX9_restore 18 = .ok (.iload_n 1, 1) := by decide +kernel
theorem dX9_restore_19 : decode cX9_restore 19 = .ok (.baload, 1) := by decide +kernel
theorem dX9_restore_20 : decode cX9_restore 20 = .ok (.ifCond .eq 7, 3) := by decide +kernel
theorem dX9_restore_23 : decode cX9_restore 23 = .ok (.iconst 0, 1) := by decide +kernel
theorem dX9_restore_24 : decode cX9_restore 24 = .ok (.goto 4, 3) := by decide +kernel
theorem dX9_restore_27 : decode cX9_restore 27 = .ok (.iconst 2, 1) := by decide +kernel
theorem dX9_restore_28 : decode cX9_restore 28 = .ok (.putfield 66, 3) := by decide +kernel
theorem dX9_restore_31 : decode cX9_restore 31 = .ok (.aload_n 0, 1) := by decide +kernel
theorem dX9_restore_32 : decode cX9_restore 32 = .ok (.getfield 66, 3) := by decide +kernel
theorem dX9_restore_35 : decode cX9_restore 35 = .ok (.ifCond .le 5, 3) := by decide +kernel
theorem dX9_restore_38 : decode cX9_restore 38 = .ok (.iconst 0, 1) := by decide +kernel
theorem dX9_restore_39 : decode cX9_restore 39 = .ok (.ireturn, 1) := by decide +kernel
theorem dX9_restore_40 : decode cX9_restore 40 = .ok (.aload_n 0, 1) := by decide +kernel
theorem dX9_restore_41 : decode cX9_restore 41 = .ok (.aload_n 0, 1) := by decide +kernel
theorem dX9_restore_42 : decode cX9_restore 42 = .ok (.getfield 7, 3) := by decide +kernel
theorem dX9_restore_45 : decode cX9_restore 45 = .ok (.invokevirtual 80, 3) := by decide +kernel
theorem dX9_restore_48 : decode cX9_restore 48 = .ok (.aload_n 0, 1) := by decide +kernel
theorem dX9_restore_49 : decode cX9_restore 49 = .ok (.getfield 7, 3) := by decide +kernel
theorem dX9_restore_52 : decode cX9_restore 52 = .ok (.iconst 0, 1) := by decide +kernel
theorem dX9_restore_53 : decode cX9_restore 53 = .ok (.aload_n 0, 1) := by decide +kernel
theorem dX9_restore_54 : decode cX9_restore 54 = .ok (.getfield 22, 3) := by decide +kernel
theorem dX9_restore_57 : decode cX9_restore 57 = .ok (.sipush 1256, 3) := by decide +kernel
theorem dX9_restore_60 : decode cX9_restore 60 = .ok (.iload_n 1, 1) := by decide +kernel
theorem dX9_restore_61 : decode cX9_restore 61 = .ok (.imul, 1) := by decide +kernel
theorem dX9_restore_62 : decode cX9_restore 62 = .ok (.invokestatic 72, 3) := by decide +kernel
theorem dX9_restore_65 : decode cX9_restore 65 = .ok (.aload_n 0, 1) := by decide +kernel
theorem dX9_restore_66 : decode cX9_restore 66 = .ok (.getfield 7, 3) := by decide +kernel
theorem dX9_restore_69 : decode cX9_restore 69 = .ok (.iconst 4, 1) := by decide +kernel
theorem dX9_restore_70 : decode cX9_restore 70 = .ok (.iaload, 1) := by decide +kernel
theorem dX9_restore_71 : decode cX9_restore 71 = .ok (.ireturn, 1) := by decide +kernel
theorem dX9_byteOf_0 : decode cX9_byteOf 0 = .ok (.iload_n 0, 1) := by decide +kernel
theorem dX9_byteOf_1 : decode cX9_byteOf 1 = .ok (.iconst 4, 1) := by decide +kernel
theorem dX9_byteOf_2 : decode cX9_byteOf 2 = .ok (.if_icmp .ge 7, 3) := by decide +kernel
theorem dX9_byteOf_5 : decode cX9_byteOf 5 = .ok (.iload_n 1, 1) := by decide +kernel
theorem dX9_byteOf_6 : decode cX9_byteOf 6 = .ok (.goto 36, 3) := by decide +kernel
theorem dX9_byteOf_9 : decode cX9_byteOf 9 = .ok (.iload_n 0, 1) := by decide +kernel
theorem dX9_byteOf_10 : decode cX9_byteOf 10 = .ok (.bipush 8, 2) := by decide +kernel
theorem dX9_byteOf_12 : decode cX9_byteOf 12 = .ok (.if_icmp .ge 7, 3) := by decide +kernel
theorem dX9_byteOf_15 : decode cX9_byteOf 15 = .ok (.iload_n 2, 1) := by decide +kernel
theorem dX9_byteOf_16 : decode cX9_byteOf 16 = .ok (.goto 26, 3) := by decide +kernel
theorem dX9_byteOf_19 : decode cX9_byteOf 19 = .ok (.iload_n 0, 1) := by decide +kernel
theorem dX9_byteOf_20 : decode cX9_byteOf 20 = .ok (.bipush 12, 2) := by decide +kernel
theorem dX9_byteOf_22 : decode cX9_byteOf 22 = .ok (.if_icmp .ge 7, 3) := by decide +kernel
theorem dX9_byteOf_25 : decode cX9_byteOf 25 = .ok (.iload_n 3, 1) := by decide +kernel
theorem dX9_byteOf_26 : decode cX9_byteOf 26 = .ok (.goto 16, 3) := by decide +kernel
theorem dX9_byteOf_29 : decode cX9_byteOf 29 = .ok (.iload_n 0, 1) := by decide +kernel
theorem dX9_byteOf_30 : decode cX9_byteOf 30 = .ok (.bipush 16, 2) := by decide +kernel
theorem dX9_byteOf_32 : decode cX9_byteOf 32 = .ok (.if_icmp .ge 8, 3) := by decide +kernel
theorem dX9_byteOf_35 : decode cX9_byteOf 35 = .ok (.iload 4, 2) := by decide +kernel
theorem dX9_byteOf_37 : decode cX9_byteOf 37 = .ok (.goto 5, 3) := by decide +kernel
theorem dX9_byteOf_40 : decode cX9_byteOf 40 = .ok (.iload 5, 2) := by decide +kernel
theorem dX9_byteOf_42 : decode cX9_byteOf 42 = .ok (.istore 6, 2) := by decide +kernel
theorem dX9_byteOf_44 : decode cX9_byteOf 44 = .ok (.iload 6, 2) := by decide +kernel
theorem dX9_byteOf_46 : decode cX9_byteOf 46 = .ok (.bipush 24, 2) := by decide +kernel
theorem dX9_byteOf_48 : decode cX9_byteOf 48 = .ok (.bipush 8, 2) := by decide +kernel
theorem dX9_byteOf_50 : decode cX9_byteOf 50 = .ok (.iload_n 0, 1) := by decide +kernel
theorem dX9_byteOf_51 : decode cX9_byteOf 51 = .ok (.iconst 4, 1) := by decide +kernel
theorem dX9_byteOf_52 : decode cX9_byteOf 52 = .ok (.irem, 1) := by decide +kernel
theorem dX9_byteOf_53 : decode cX9_byteOf 53 = .ok (.imul, 1) := by decide +kernel
theorem dX9_byteOf_54 : decode cX9_byteOf 54 = .ok (.isub, 1) := by decide +kernel
theorem dX9_byteOf_55 : decode cX9_byteOf 55 = .ok (.ishr, 1) := by decide +kernel
theorem dX9_byteOf_56 : decode cX9_byteOf 56 = .ok (.sipush 255, 3) := by decide +kernel
theorem dX9_byteOf_59 : decode cX9_byteOf 59 = .ok (.iand, 1) := by decide +kernel
theorem dX9_byteOf_60 : decode cX9_byteOf 60 = .ok (.ireturn, 1) := by decide +kernel
theorem dX9_append_0 : decode cX9_append 0 = .ok (.iconst 0, 1) := by decide +kernel
theorem dX9_append_1 : decode cX9_append 1 = .ok (.istore 6, 2) := by decide +kernel
theorem dX9_append_3 : decode cX9_append 3 = .ok (.iconst 0, 1) := by decide +kernel
theorem dX9_append_4 : decode cX9_append 4 = .ok (.istore 7, 2) := by decide +kernel
theorem dX9_append_6 : decode cX9_append 6 = .ok (.iload 7, 2) := by decide +kernel
theorem dX9_append_8 : decode cX9_append 8 = .ok (.bipush 20, 2) := by decide +kernel
theorem dX9_append_10 : decode cX9_append 10 = .ok (.if_icmp .ge 34, 3) := by decide +kernel
theorem dX9_append_13 : decode cX9_append 13 = .ok (.iload 6, 2) := by decide +kernel
theorem dX9_append_15 : decode cX9_append 15 = .ok (.iload 7, 2) := by decide +kernel
theorem dX9_append_17 : decode cX9_append 17 = .ok (.iload_n 1, 1) := by decide +kernel
theorem dX9_append_18 : decode cX9_append 18 = .ok (.iload_n 2, 1) := by decide +kernel
theorem dX9_append_19 : decode cX9_append 19 = .ok (.iload_n 3, 1) := by decide +kernel
theorem dX9_append_20 : decode cX9_append 20 = .ok (.iload 4, 2) := by decide +kernel
theorem dX9_append_22 : decode cX9_append 22 = .ok (.iload 5, 2) := by decide +kernel
theorem dX9_append_24 : decode cX9_append 24 = .ok (.invokestatic 84, 3) := by decide +kernel
theorem dX9_append_27 : decode cX9_append 27 = .ok (.ifCond .ne 7, 3) := by decide +kernel
theorem dX9_append_30 : decode cX9_append 30 = .ok (.iconst 0, 1) := by decide +kernel
theorem dX9_append_31 : decode cX9_append 31 = .ok (.goto 4, 3) := by decide +kernel
theorem dX9_append_34 : decode cX9_append 34 = .ok (.iconst 1, 1) := by decide +kernel
theorem dX9_append_35 : decode cX9_append 35 = .ok (.iadd, 1) := by decide +kernel
theorem dX9_append_36 : decode cX9_append 36 = .ok (.istore 6, 2) := by decide +kernel
theorem dX9_append_38 : decode cX9_append 38 = .ok (.iinc 7 1, 3) := by decide +kernel
theorem dX9_append_41 : decode cX9_append 41 = .ok (.goto (-35), 3) := by decide +kernel
theorem dX9_append_44 : decode cX9_append 44 = .ok (.aload_n 0, 1) := by decide +kernel
theorem dX9_append_45 : decode cX9_append 45 = .ok (.aload_n 0, 1) := by decide +kernel
theorem dX9_append_46 : decode cX9_append 46 = .ok (.getfield 88, 3) := by decide +kernel
theorem dX9_append_49 : decode cX9_append 49 = .ok (.iload 6, 2) := by decide +kernel
theorem dX9_append_51 : decode cX9_append 51 = .ok (.iadd, 1) := by decide +kernel
theorem dX9_append_52 : decode cX9_append 52 = .ok (.sipush 600, 3) := by decide +kernel
theorem dX9_append_55 : decode cX9_append 55 = .ok (.if_icmp .le 7, 3) := by decide +kernel
theorem dX9_append_58 : decode cX9_append 58 = .ok (.iconst 1, 1) := by decide +kernel
theorem dX9_append_59 : decode cX9_append 59 = .ok (.goto 4, 3) := by decide +kernel
theorem dX9_append_62 : decode cX9_append 62 = .ok (.iconst 0, 1) := by decide +kernel
theorem dX9_append_63 : decode cX9_append 63 = .ok (.putfield 66, 3) := by decide +kernel
theorem dX9_append_66 : decode cX9_append 66 = .ok (.aload_n 0, 1) := by decide +kernel
theorem dX9_append_67 : decode cX9_append 67 = .ok (.getfield 66, 3) := by decide +kernel
theorem dX9_append_70 : decode cX9_append 70 = .ok (.ifCond .le 5, 3) := by decide +kernel
theorem dX9_append_73 : decode cX9_append 73 = .ok (.iconst 0, 1) := by decide +kernel
theorem dX9_append_74 : decode cX9_append 74 = .ok (.ireturn, 1) := by decide +kernel
theorem dX9_append_75 : decode cX9_append 75 = .ok (.iconst 0, 1) := by decide +kernel
theorem dX9_append_76 : decode cX9_append 76 = .ok (.istore 7, 2) := by decide +kernel
theorem dX9_append_78 : decode cX9_append 78 = .ok (.iload 7, 2) := by decide +kernel
theorem dX9_append_80 : decode cX9_append 80 = .ok (.bipush 20, 2) := by decide +kernel
theorem dX9_append_82 : decode cX9_append 82 = .ok (.if_icmp .ge 52, 3) := by decide +kernel
theorem dX9_append_85 : decode cX9_append 85 = .ok (.iload 7, 2) := by decide +kernel
theorem dX9_append_87 : decode cX9_append 87 = .ok (.iload_n 1, 1) := by decide +kernel
theorem dX9_append_88 : decode cX9_append 88 = .ok (.iload_n 2, 1) := by decide +kernel
theorem dX9_append_89 : decode cX9_append 89 = .ok (.iload_n 3, 1) := by decide +kernel
theorem dX9_append_90 : decode cX9_append 90 = .ok (.iload 4, 2) := by decide +kernel
theorem dX9_append_92 : decode cX9_append 92 = .ok (.iload 5, 2) := by decide +kernel
theorem dX9_append_94 : decode cX9_append 94 = .ok (.invokestatic 84, 3) := by decide +kernel
theorem dX9_append_97 : decode cX9_append 97 = .ok (.istore 8, 2) := by decide +kernel
theorem dX9_append_99 : decode cX9_append 99 = .ok (.iload 8, 2) := by decide +kernel
theorem dX9_append_101 : decode cX9_append 101 = .ok (.ifCond .ne 6, 3) := by decide +kernel
theorem dX9_append_104 : decode cX9_append 104 = .ok (.goto 24, 3) := by decide +kernel
theorem dX9_append_107 : decode cX9_append 107 = .ok (.aload_n 0, 1) := by decide +kernel
theorem dX9_append_108 : decode cX9_append 108 = .ok (.getfield 29, 3) := by decide +kernel
theorem dX9_append_111 : decode cX9_append 111 = .ok (.aload_n 0, 1) := by decide +kernel
theorem dX9_append_112 : decode cX9_append 112 = .ok (.getfield 88, 3) := by decide +kernel
theorem dX9_append_115 : decode cX9_append 115 = .ok (.iload 8, 2) := by decide +kernel
theorem dX9_append_117 : decode cX9_append 117 = .ok (.iastore, 1) := by decide +kernel
theorem dX9_append_118 : decode cX9_append 118 = .ok (.aload_n 0, 1) := by decide +kernel
theorem dX9_append_119 : decode cX9_append 119 = .ok (.dup, 1) := by decide +kernel
theorem dX9_append_120 : decode cX9_append 120 = .ok (.getfield 88, 3) := by decide +kernel
theorem dX9_append_123 : decode cX9_append 123 = .ok (.iconst 1, 1) := by decide +kernel
theorem dX9_append_124 : decode cX9_append 124 = .ok (.iadd, 1) := by decide +kernel
theorem dX9_append_125 : decode cX9_append 125 = .ok (.putfield 88, 3) := by decide +kernel
theorem dX9_append_128 : decode cX9_append 128 = .ok (.iinc 7 1, 3) := by decide +kernel
theorem dX9_append_131 : decode cX9_append 131 = .ok (.goto (-53), 3) := by decide +kernel
theorem dX9_append_134 : decode cX9_append 134 = .ok (.aload_n 0, 1) := by decide +kernel
theorem dX9_append_135 : decode cX9_append 135 = .ok (.getfield 88, 3) := by decide +kernel
theorem dX9_append_138 : decode cX9_append 138 = .ok (.ireturn, 1) := by decide +kernel
theorem dX9_see_0 : decode cX9_see 0 = .ok (.iload_n 1, 1) := by decide +kernel
theorem dX9_see_1 : decode cX9_see 1 = .ok (.aload_n 0, 1) := by decide +kernel
theorem dX9_see_2 : decode cX9_see 2 = .ok (.getfield 88, 3) := by decide +kernel
theorem dX9_see_5 : decode cX9_see 5 = .ok (.if_icmp .ge 12, 3) := by decide +kernel
theorem dX9_see_8 : decode cX9_see 8 = .ok (.aload_n 0, 1) := by decide +kernel
theorem dX9_see_9 : decode cX9_see 9 = .ok (.getfield 29, 3) := by decide +kernel
theorem dX9_see_12 : decode cX9_see 12 = .ok (.iload_n 1, 1) := by decide +kernel
theorem dX9_see_13 : decode cX9_see 13 = .ok (.iaload, 1) := by decide +kernel
theorem dX9_see_14 : decode cX9_see 14 = .ok (.goto 4, 3) := by decide +kernel
theorem dX9_see_17 : decode cX9_see 17 = .ok (.iconst (-1), 1) := by decide +kernel
theorem dX9_see_18 : decode cX9_see 18 = .ok (.ireturn, 1) := by decide +kernel
theorem dX9_isLetter_0 : decode cX9_isLetter 0 = .ok (.aload_n 0, 1) := by decide +kernel
theorem dX9_isLetter_1 : decode cX9_isLetter 1 = .ok (.iload_n 1, 1) := by decide +kernel
theorem dX9_isLetter_2 : decode cX9_isLetter 2 = .ok (.invokevirtual 91, 3) := by decide +kernel
theorem dX9_isLetter_5 : decode cX9_isLetter 5 = .ok (.bipush 97, 2) := by decide +kernel
theorem dX9_isLetter_7 : decode cX9_isLetter 7 = .ok (.bipush 122, 2) := by decide +kernel
theorem dX9_isLetter_9 : decode cX9_isLetter 9 = .ok (.invokestatic 76, 3) := by decide +kernel
theorem dX9_isLetter_12 : decode cX9_isLetter 12 = .ok (.ireturn, 1) := by decide +kernel
theorem dX9_isDigit_0 : decode cX9_isDigit 0 = .ok (.aload_n 0, 1) := by decide +kernel
theorem dX9_isDigit_1 : decode cX9_isDigit 1 = .ok (.iload_n 1, 1) := by decide +kernel
theorem dX9_isDigit_2 : decode cX9_isDigit 2 = .ok (.invokevirtual 91, 3) := by decide +kernel
theorem dX9_isDigit_5 : decode cX9_isDigit 5 = .ok (.bipush 48, 2) := by decide +kernel
theorem dX9_isDigit_7 : decode cX9_isDigit 7 = .ok (.bipush 57, 2) := by decide +kernel
theorem dX9_isDigit_9 : decode cX9_isDigit 9 = .ok (.invokestatic 76, 3) := by decide +kernel
theorem dX9_isDigit_12 : decode cX9_isDigit 12 = .ok (.ireturn, 1) := by decide +kernel
theorem dX9_next_0 : decode cX9_next 0 = .ok (.aload_n 0, 1) := by decide +kernel
theorem dX9_next_1 : decode cX9_next 1 = .ok (.aload_n 0, 1) := by decide +kernel
theorem dX9_next_2 : decode cX9_next 2 = .ok (.getfield 95, 3) := by decide +kernel
theorem dX9_next_5 : decode cX9_next 5 = .ok (.putfield 98, 3) := by decide +kernel
theorem dX9_next_8 : decode cX9_next 8 = .ok (.aload_n 0, 1) := by decide +kernel
theorem dX9_next_9 : decode cX9_next 9 = .ok (.aload_n 0, 1) := by decide +kernel
theorem dX9_next_10 : decode cX9_next 10 = .ok (.getfield 98, 3) := by decide +kernel
theorem dX9_next_13 : decode cX9_next 13 = .ok (.invokevirtual 91, 3) := by decide +kernel
theorem dX9_next_16 : decode cX9_next 16 = .ok (.bipush 32, 2) := by decide +kernel
theorem dX9_next_18 : decode cX9_next 18 = .ok (.if_icmp .ne 16, 3) := by decide +kernel
theorem dX9_next_21 : decode cX9_next 21 = .ok (.aload_n 0, 1) := by decide +kernel
theorem dX9_next_22 : decode cX9_next 22 = .ok (.dup, 1) := by decide +kernel
theorem dX9_next_23 : decode cX9_next 23 = .ok (.getfield 98, 3) := by decide +kernel
theorem dX9_next_26 : decode cX9_next 26 = .ok (.iconst 1, 1) := by decide +kernel
theorem dX9_next_27 : decode cX9_next 27 = .ok (.iadd, 1) := by decide +kernel
theorem dX9_next_28 : decode cX9_next 28 = .ok (.putfield 98, 3) := by decide +kernel
theorem dX9_next_31 : decode cX9_next 31 = .ok (.goto (-23), 3) := by decide +kernel
theorem dX9_next_34 : decode cX9_next 34 = .ok (.aload_n 0, 1) := by decide +kernel
theorem dX9_next_35 : decode cX9_next 35 = .ok (.aload_n 0, 1) := by decide +kernel
theorem dX9_next_36 : decode cX9_next 36 = .ok (.getfield 98, 3) := by decide +kernel
theorem dX9_next_39 : decode cX9_next 39 = .ok (.putfield 95, 3) := by decide +kernel
theorem dX9_next_42 : decode cX9_next 42 = .ok (.aload_n 0, 1) := by decide +kernel
theorem dX9_next_43 : decode cX9_next 43 = .ok (.iconst 0, 1) := by decide +kernel
theorem dX9_next_44 : decode cX9_next 44 = .ok (.putfield 101, 3) := by decide +kernel
theorem dX9_next_47 : decode cX9_next 47 = .ok (.aload_n 0, 1) := by decide +kernel
theorem dX9_next_48 : decode cX9_next 48 = .ok (.getfield 98, 3) := by decide +kernel
theorem dX9_next_51 : decode cX9_next 51 = .ok (.aload_n 0, 1) := by decide +kernel
theorem dX9_next_52 : decode cX9_next 52 = .ok (.getfield 88, 3) := by decide +kernel
theorem dX9_next_55 : decode cX9_next 55 = .ok (.if_icmp .lt 11, 3) := by decide +kernel
theorem dX9_next_58 : decode cX9_next 58 = .ok (.aload_n 0, 1) := by decide +kernel
theorem dX9_next_59 : decode cX9_next 59 = .ok (.iconst 3, 1) := by decide +kernel
theorem dX9_next_60 : decode cX9_next 60 = .ok (.putfield 104, 3) := by decide +kernel
theorem dX9_next_63 : decode cX9_next 63 = .ok (.goto 133, 3) := by decide +kernel
theorem dX9_next_66 : decode cX9_next 66 = .ok (.aload_n 0, 1) := by decide +kernel
theorem dX9_next_67 : decode cX9_next 67 = .ok (.aload_n 0, 1) := by decide +kernel
theorem dX9_next_68 : decode cX9_next 68 = .ok (.getfield 98, 3) := by decide +kernel
theorem dX9_next_71 : decode cX9_next 71 = .ok (.invokevirtual 107, 3) := by decide +kernel
theorem dX9_next_74 : decode cX9_next 74 = .ok (.ifCond .eq 35, 3) := by decide +kernel
theorem dX9_next_77 : decode cX9_next 77 = .ok (.aload_n 0, 1) := by decide +kernel
theorem dX9_next_78 : decode cX9_next 78 = .ok (.aload_n 0, 1) := by decide +kernel
theorem dX9_next_79 : decode cX9_next 79 = .ok (.getfield 95, 3) := by decide +kernel
theorem dX9_next_82 : decode cX9_next 82 = .ok (.invokevirtual 107, 3) := by decide +kernel
theorem dX9_next_85 : decode cX9_next 85 = .ok (.ifCond .eq 16, 3) := by decide +kernel
theorem dX9_next_88 : decode cX9_next 88 = .ok (.aload_n 0, 1) := by decide +kernel
theorem dX9_next_89 : decode cX9_next 89 = .ok (.dup, 1) := by decide +kernel
theorem dX9_next_90 : decode cX9_next 90 = .ok (.getfield 95, 3) := by decide +kernel
theorem dX9_next_93 : decode cX9_next 93 = .ok (.iconst 1, 1) := by decide +kernel
theorem dX9_next_94 : decode cX9_next 94 = .ok (.iadd, 1) := by decide +kernel
theorem dX9_next_95 : decode cX9_next 95 = .ok (.putfield 95, 3) := by decide +kernel
theorem dX9_next_98 : decode cX9_next 98 = .ok (.goto (-21), 3) := by decide +kernel
theorem dX9_next_101 : decode cX9_next 101 = .ok (.aload_n 0, 1) := by decide +kernel
theorem dX9_next_102 : decode cX9_next 102 = .ok (.iconst 0, 1) := by decide +kernel
theorem dX9_next_103 : decode cX9_next 103 = .ok (.putfield 104, 3) := by decide +kernel
theorem dX9_next_106 : decode cX9_next 106 = .ok (.goto 90, 3) := by decide +kernel
theorem dX9_next_109 : decode cX9_next 109 = .ok (.aload_n 0, 1) := by decide +kernel
theorem dX9_next_110 : decode cX9_next 110 = .ok (.aload_n 0, 1) := by decide +kernel
theorem dX9_next_111 : decode cX9_next 111 = .ok (.getfield 98, 3) := by decide +kernel
theorem dX9_next_114 : decode cX9_next 114 = .ok (.invokevirtual 111, 3) := by decide +kernel
theorem dX9_next_117 : decode cX9_next 117 = .ok (.ifCond .eq 64, 3) := by decide +kernel
theorem dX9_next_120 : decode cX9_next 120 = .ok (.aload_n 0, 1) := by decide +kernel
theorem dX9_next_121 : decode cX9_next 121 = .ok (.aload_n 0, 1) := by decide +kernel
theorem dX9_next_122 : decode cX9_next 122 = .ok (.getfield 95, 3) := by decide +kernel
theorem dX9_next_125 : decode cX9_next 125 = .ok (.invokevirtual 111, 3) := by decide +kernel
theorem dX9_next_128 : decode cX9_next 128 = .ok (.ifCond .eq 45, 3) := by decide +kernel
theorem dX9_next_131 : decode cX9_next 131 = .ok (.aload_n 0, 1) := by decide +kernel
theorem dX9_next_132 : decode cX9_next 132 = .ok (.sipush 10000, 3) := by decide +kernel
theorem dX9_next_135 : decode cX9_next 135 = .ok (.bipush 10, 2) := by decide +kernel
theorem dX9_next_137 : decode cX9_next 137 = .ok (.aload_n 0, 1) := by decide +kernel
theorem dX9_next_138 : decode cX9_next 138 = .ok (.getfield 101, 3) := by decide +kernel
theorem dX9_next_141 : decode cX9_next 141 = .ok (.imul, 1) := by decide +kernel
theorem dX9_next_142 : decode cX9_next 142 = .ok (.aload_n 0, 1) := by decide +kernel
theorem dX9_next_143 : decode cX9_next 143 = .ok (.aload_n 0, 1) := by decide +kernel
theorem dX9_next_144 : decode cX9_next 144 = .ok (.getfield 95, 3) := by decide +kernel
theorem dX9_next_147 : decode cX9_next 147 = .ok (.invokevirtual 91, 3) := by decide +kernel
theorem dX9_next_150 : decode cX9_next 150 = .ok (.iadd, 1) := by decide +kernel
theorem dX9_next_151 : decode cX9_next 151 = .ok (.bipush 48, 2) := by decide +kernel
theorem dX9_next_153 : decode cX9_next 153 = .ok (.isub, 1) := by decide +kernel
theorem dX9_next_154 : decode cX9_next 154 = .ok (.invokestatic 114, 3) := by decide +kernel
theorem dX9_next_157 : decode cX9_next 157 = .ok (.putfield 101, 3) := by decide +kernel
theorem dX9_next_160 : decode cX9_next 160 = .ok (.aload_n 0, 1) := by decide +kernel
theorem dX9_next_161 : decode cX9_next 161 = .ok (.dup, 1) := by decide +kernel
theorem dX9_next_162 : decode cX9_next 162 = .ok (.getfield 95, 3) := by decide +kernel
theorem dX9_next_165 : decode cX9_next 165 = .ok (.iconst 1, 1) := by decide +kernel
theorem dX9_next_166 : decode cX9_next 166 = .ok (.iadd, 1) := by decide +kernel
theorem dX9_next_167 : decode cX9_next 167 = .ok (.putfield 95, 3) := by decide +kernel
theorem dX9_next_170 : decode cX9_next 170 = .ok (.goto (-50), 3) := by decide +kernel
theorem dX9_next_173 : decode cX9_next 173 = .ok (.aload_n 0, 1) := by decide +kernel
theorem dX9_next_174 : decode cX9_next 174 = .ok (.iconst 1, 1) := by decide +kernel
theorem dX9_next_175 : decode cX9_next 175 = .ok (.putfield 104, 3) := by decide +kernel
theorem dX9_next_178 : decode cX9_next 178 = .ok (.goto 18, 3) := by decide +kernel
theorem dX9_next_181 : decode cX9_next 181 = .ok (.aload_n 0, 1) := by decide +kernel
theorem dX9_next_182 : decode cX9_next 182 = .ok (.dup, 1) := by decide +kernel
theorem dX9_next_183 : decode cX9_next 183 = .ok (.getfield 95, 3) := by decide +kernel
theorem dX9_next_186 : decode cX9_next 186 = .ok (.iconst 1, 1) := by decide +kernel
theorem dX9_next_187 : decode cX9_next 187 = .ok (.iadd, 1) := by decide +kernel
theorem dX9_next_188 : decode cX9_next 188 = .ok (.putfield 95, 3) := by decide +kernel
theorem dX9_next_191 : decode cX9_next 191 = .ok (.aload_n 0, 1) := by decide +kernel
theorem dX9_next_192 : decode cX9_next 192 = .ok (.iconst 2, 1) := by decide +kernel
theorem dX9_next_193 : decode cX9_next 193 = .ok (.putfield 104, 3) := by decide +kernel
theorem dX9_next_196 : decode cX9_next 196 = .ok (.return_, 1) := by decide +kernel
theorem dX9_starts_0 : decode cX9_starts 0 = .ok (.aload_n 0, 1) := by decide +kernel
theorem dX9_starts_1 : decode cX9_starts 1 = .ok (.iconst 0, 1) := by decide +kernel
theorem dX9_starts_2 : decode cX9_starts 2 = .ok (.putfield 95, 3) := by decide +kernel
theorem dX9_starts_5 : decode cX9_starts 5 = .ok (.aload_n 0, 1) := by decide +kernel
theorem dX9_starts_6 : decode cX9_starts 6 = .ok (.iconst 0, 1) := by decide +kernel
theorem dX9_starts_7 : decode cX9_starts 7 = .ok (.putfield 120, 3) := by decide +kernel
theorem dX9_starts_10 : decode cX9_starts 10 = .ok (.aload_n 0, 1) := by decide +kernel
theorem dX9_starts_11 : decode cX9_starts 11 = .ok (.invokevirtual 123, 3) := by decide +kernel
theorem dX9_starts_14 : decode cX9_starts 14 = .ok (.return_, 1) := by decide +kernel
theorem dX9_ends_0 : decode cX9_ends 0 = .ok (.aload_n 0, 1) := by decide +kernel
theorem dX9_ends_1 : decode cX9_ends 1 = .ok (.getfield 120, 3) := by decide +kernel
theorem dX9_ends_4 : decode cX9_ends 4 = .ok (.ifCond .ne 17, 3) := by decide +kernel
theorem dX9_ends_7 : decode cX9_ends 7 = .ok (.aload_n 0, 1) := by decide +kernel
theorem dX9_ends_8 : decode cX9_ends 8 = .ok (.getfield 104, 3) := by decide +kernel
theorem dX9_ends_11 : decode cX9_ends 11 = .ok (.iconst 3, 1) := by decide +kernel
theorem dX9_ends_12 : decode cX9_ends 12 = .ok (.if_icmp .eq 9, 3) := by decide +kernel
theorem dX9_ends_15 : decode cX9_ends 15 = .ok (.aload_n 0, 1) := by decide +kernel
theorem dX9_ends_16 : decode cX9_ends 16 = .ok (.bipush (-2), 2) := by decide +kernel
theorem dX9_ends_18 : decode cX9_ends 18 = .ok (.invokevirtual 126, 3) := by decide +kernel
theorem dX9_ends_21 : decode cX9_ends 21 = .ok (.aload_n 0, 1) := by decide +kernel
theorem dX9_ends_22 : decode cX9_ends 22 = .ok (.aload_n 0, 1) := by decide +kernel
theorem dX9_ends_23 : decode cX9_ends 23 = .ok (.getfield 120, 3) := by decide +kernel
theorem dX9_ends_26 : decode cX9_ends 26 = .ok (.ifCond .ne 7, 3) := by decide +kernel
theorem dX9_ends_29 : decode cX9_ends 29 = .ok (.iconst (-1), 1) := by decide +kernel
theorem dX9_ends_30 : decode cX9_ends 30 = .ok (.goto 7, 3) := by decide +kernel
theorem dX9_ends_33 : decode cX9_ends 33 = .ok (.aload_n 0, 1) := by decide +kernel
theorem dX9_ends_34 : decode cX9_ends 34 = .ok (.getfield 130, 3) := by decide +kernel
theorem dX9_ends_37 : decode cX9_ends 37 = .ok (.putfield 32, 3) := by decide +kernel
theorem dX9_ends_40 : decode cX9_ends 40 = .ok (.aload_n 0, 1) := by decide +kernel
theorem dX9_ends_41 : decode cX9_ends 41 = .ok (.iconst 0, 1) := by decide +kernel
theorem dX9_ends_42 : decode cX9_ends 42 = .ok (.putfield 88, 3) := by decide +kernel
theorem dX9_ends_45 : decode cX9_ends 45 = .ok (.return_, 1) := by decide +kernel
theorem dX9_isWord_0 : decode cX9_isWord 0 = .ok (.aload_n 0, 1) := by decide +kernel
theorem dX9_isWord_1 : decode cX9_isWord 1 = .ok (.getfield 120, 3) := by decide +kernel
theorem dX9_isWord_4 : decode cX9_isWord 4 = .ok (.ifCond .ne 26, 3) := by decide +kernel
theorem dX9_isWord_7 : decode cX9_isWord 7 = .ok (.aload_n 0, 1) := by decide +kernel
theorem dX9_isWord_8 : decode cX9_isWord 8 = .ok (.getfield 104, 3) := by decide +kernel
theorem dX9_isWord_11 : decode cX9_isWord 11 = .ok (.ifCond .ne 19, 3) := by decide +kernel
theorem dX9_isWord_14 : decode cX9_isWord 14 = .ok (.aload_n 0, 1) := by decide +kernel
theorem dX9_isWord_15 : decode cX9_isWord 15 = .ok (.getfield 95, 3) := by decide +kernel
theorem dX9_isWord_18 : decode cX9_isWord 18 = .ok (.aload_n 0, 1) := by decide +kernel
theorem dX9_isWord_19 : decode cX9_isWord 19 = .ok (.getfield 98, 3) := by decide +kernel
theorem dX9_isWord_22 : decode cX9_isWord 22 = .ok (.isub, 1) := by decide +kernel
theorem dX9_isWord_23 : decode cX9_isWord 23 = .ok (.aload_n 1, 1) := by decide +kernel
theorem dX9_isWord_24 : decode cX9_isWord 24 = .ok (.invokevirtual 133, 3) := by decide +kernel
theorem dX9_isWord_27 : decode cX9_isWord 27 = .ok (.if_icmp .eq 5, 3) := by decide +kernel
theorem dX9_isWord_30 : decode cX9_isWord 30 = .ok (.iconst 0, 1) := by decide +kernel
theorem dX9_isWord_31 : decode cX9_isWord 31 = .ok (.ireturn, 1) := by decide +kernel
theorem dX9_isWord_32 : decode cX9_isWord 32 = .ok (.iconst 0, 1) := by decide +kernel
theorem dX9_isWord_33 : decode cX9_isWord 33 = .ok (.istore_n 2, 1) := by decide +kernel
theorem dX9_isWord_34 : decode cX9_isWord 34 = .ok (.iload_n 2, 1) := by decide +kernel
theorem dX9_isWord_35 : decode cX9_isWord 35 = .ok (.aload_n 1, 1) := by decide +kernel
theorem dX9_isWord_36 : decode cX9_isWord 36 = .ok (.invokevirtual 133, 3) := by decide +kernel
theorem dX9_isWord_39 : decode cX9_isWord 39 = .ok (.if_icmp .ge 30, 3) := by decide +kernel
theorem dX9_isWord_42 : decode cX9_isWord 42 = .ok (.aload_n 0, 1) := by decide +kernel
theorem dX9_isWord_43 : decode cX9_isWord 43 = .ok (.getfield 29, 3) := by decide +kernel
theorem dX9_isWord_46 : decode cX9_isWord 46 = .ok (.aload_n 0, 1) := by decide +kernel
theorem dX9_isWord_47 : decode cX9_isWord 47 = .ok (.getfield 98, 3) := by decide +kernel
theorem dX9_isWord_50 : decode cX9_isWord 50 = .ok (.iload_n 2, 1) := by decide +kernel
theorem dX9_isWord_51 : decode cX9_isWord 51 = .ok (.iadd, 1) := by decide +kernel
theorem dX9_isWord_52 : decode cX9_isWord 52 = .ok (.iaload, 1) := by decide +kernel
theorem dX9_isWord_53 : decode cX9_isWord 53 = .ok (.aload_n 1, 1) := by decide +kernel
theorem dX9_isWord_54 : decode cX9_isWord 54 = .ok (.iload_n 2, 1) := by decide +kernel
theorem dX9_isWord_55 : decode cX9_isWord 55 = .ok (.invokevirtual 139, 3) := by decide +kernel
theorem dX9_isWord_58 : decode cX9_isWord 58 = .ok (.if_icmp .eq 5, 3) := by decide +kernel
theorem dX9_isWord_61 : decode cX9_isWord 61 = .ok (.iconst 0, 1) := by decide +kernel
theorem dX9_isWord_62 : decode cX9_isWord 62 = .ok (.ireturn, 1) := by decide +kernel
theorem dX9_isWord_63 : decode cX9_isWord 63 = .ok (.iinc 2 1, 3) := by decide +kernel
theorem dX9_isWord_66 : decode cX9_isWord 66 = .ok (.goto (-32), 3) := by decide +kernel
theorem dX9_isWord_69 : decode cX9_isWord 69 = .ok (.iconst 1, 1) := by decide +kernel
theorem dX9_isWord_70 : decode cX9_isWord 70 = .ok (.ireturn, 1) := by decide +kernel
theorem dX9_fails_0 : decode cX9_fails 0 = .ok (.aload_n 0, 1) := by decide +kernel
theorem dX9_fails_1 : decode cX9_fails 1 = .ok (.getfield 120, 3) := by decide +kernel
theorem dX9_fails_4 : decode cX9_fails 4 = .ok (.ifCond .eq 4, 3) := by decide +kernel
theorem dX9_fails_7 : decode cX9_fails 7 = .ok (.return_, 1) := by decide +kernel
theorem dX9_fails_8 : decode cX9_fails 8 = .ok (.aload_n 0, 1) := by decide +kernel
theorem dX9_fails_9 : decode cX9_fails 9 = .ok (.iload_n 1, 1) := by decide +kernel
theorem dX9_fails_10 : decode cX9_fails 10 = .ok (.putfield 120, 3) := by decide +kernel
theorem dX9_fails_13 : decode cX9_fails 13 = .ok (.aload_n 0, 1) := by decide +kernel
theorem dX9_fails_14 : decode cX9_fails 14 = .ok (.aload_n 0, 1) := by decide +kernel
theorem dX9_fails_15 : decode cX9_fails 15 = .ok (.getfield 98, 3) := by decide +kernel
theorem dX9_fails_18 : decode cX9_fails 18 = .ok (.putfield 130, 3) := by decide +kernel
theorem dX9_fails_21 : decode cX9_fails 21 = .ok (.return_, 1) := by decide +kernel
theorem dX9_must_0 : decode cX9_must 0 = .ok (.iload_n 1, 1) := by decide +kernel
theorem dX9_must_1 : decode cX9_must 1 = .ok (.ifCond .ne 9, 3) := by decide +kernel
theorem dX9_must_4 : decode cX9_must 4 = .ok (.aload_n 0, 1) := by decide +kernel
theorem dX9_must_5 : decode cX9_must 5 = .ok (.bipush (-2), 2) := by decide +kernel
theorem dX9_must_7 : decode cX9_must 7 = .ok (.invokevirtual 126, 3) := by decide +kernel
theorem dX9_must_10 : decode cX9_must 10 = .ok (.aload_n 0, 1) := by decide +kernel
theorem dX9_must_11 : decode cX9_must 11 = .ok (.getfield 120, 3) := by decide +kernel
theorem dX9_must_14 : decode cX9_must 14 = .ok (.ifCond .ne 7, 3) := by decide +kernel
theorem dX9_must_17 : decode cX9_must 17 = .ok (.aload_n 0, 1) := by decide +kernel
theorem dX9_must_18 : decode cX9_must 18 = .ok (.invokevirtual 123, 3) := by decide +kernel
theorem dX9_must_21 : decode cX9_must 21 = .ok (.return_, 1) := by decide +kernel
theorem dX9_mustEnd_0 : decode cX9_mustEnd 0 = .ok (.aload_n 0, 1) := by decide +kernel
theorem dX9_mustEnd_1 : decode cX9_mustEnd 1 = .ok (.aload_n 0, 1) := by decide +kernel
theorem dX9_mustEnd_2 : decode cX9_mustEnd 2 = .ok (.getfield 104, 3) := by decide +kernel
theorem dX9_mustEnd_5 : decode cX9_mustEnd 5 = .ok (.iconst 2, 1) := by decide +kernel
theorem dX9_mustEnd_6 : decode cX9_mustEnd 6 = .ok (.if_icmp .ne 20, 3) := by decide +kernel
theorem dX9_mustEnd_9 : decode cX9_mustEnd 9 = .ok (.aload_n 0, 1) := by decide +kernel
theorem dX9_mustEnd_10 : decode cX9_mustEnd 10 = .ok (.aload_n 0, 1) := by decide +kernel
theorem dX9_mustEnd_11 : decode cX9_mustEnd 11 = .ok (.getfield 98, 3) := by decide +kernel
theorem dX9_mustEnd_14 : decode cX9_mustEnd 14 = .ok (.invokevirtual 91, 3) := by decide +kernel
theorem dX9_mustEnd_17 : decode cX9_mustEnd 17 = .ok (.bipush 59, 2) := by decide +kernel
theorem dX9_mustEnd_19 : decode cX9_mustEnd 19 = .ok (.if_icmp .ne 7, 3) := by decide +kernel
theorem dX9_mustEnd_22 : decode cX9_mustEnd 22 = .ok (.iconst 1, 1) := by decide +kernel
theorem dX9_mustEnd_23 : decode cX9_mustEnd 23 = .ok (.goto 4, 3) := by decide +kernel
theorem dX9_mustEnd_26 : decode cX9_mustEnd 26 = .ok (.iconst 0, 1) := by decide +kernel
theorem dX9_mustEnd_27 : decode cX9_mustEnd 27 = .ok (.invokevirtual 143, 3) := by decide +kernel
theorem dX9_mustEnd_30 : decode cX9_mustEnd 30 = .ok (.return_, 1) := by decide +kernel
theorem dX9_stands_0 : decode cX9_stands 0 = .ok (.aload_n 0, 1) := by decide +kernel
theorem dX9_stands_1 : decode cX9_stands 1 = .ok (.getfield 120, 3) := by decide +kernel
theorem dX9_stands_4 : decode cX9_stands 4 = .ok (.ifCond .ne 17, 3) := by decide +kernel
theorem dX9_stands_7 : decode cX9_stands 7 = .ok (.aload_n 0, 1) := by decide +kernel
theorem dX9_stands_8 : decode cX9_stands 8 = .ok (.getfield 104, 3) := by decide +kernel
theorem dX9_stands_11 : decode cX9_stands 11 = .ok (.iconst 1, 1) := by decide +kernel
theorem dX9_stands_12 : decode cX9_stands 12 = .ok (.if_icmp .eq 9, 3) := by decide +kernel
theorem dX9_stands_15 : decode cX9_stands 15 = .ok (.aload_n 0, 1) := by decide +kernel
theorem dX9_stands_16 : decode cX9_stands 16 = .ok (.bipush (-2), 2) := by decide +kernel
theorem dX9_stands_18 : decode cX9_stands 18 = .ok (.invokevirtual 126, 3) := by decide +kernel
theorem dX9_stands_21 : decode cX9_stands 21 = .ok (.aload_n 0, 1) := by decide +kernel
theorem dX9_stands_22 : decode cX9_stands 22 = .ok (.getfield 120, 3) := by decide +kernel
theorem dX9_stands_25 : decode cX9_stands 25 = .ok (.ifCond .ne 21, 3) := by decide +kernel
theorem dX9_stands_28 : decode cX9_stands 28 = .ok (.aload_n 0, 1) := by decide +kernel
theorem dX9_stands_29 : decode cX9_stands 29 = .ok (.getfield 101, 3) := by decide +kernel
theorem dX9_stands_32 : decode cX9_stands 32 = .ok (.iload_n 1, 1) := by decide +kernel
theorem dX9_stands_33 : decode cX9_stands 33 = .ok (.iload_n 2, 1) := by decide +kernel
theorem dX9_stands_34 : decode cX9_stands 34 = .ok (.invokestatic 76, 3) := by decide +kernel
theorem dX9_stands_37 : decode cX9_stands 37 = .ok (.ifCond .ne 9, 3) := by decide +kernel
theorem dX9_stands_40 : decode cX9_stands 40 = .ok (.aload_n 0, 1) := by decide +kernel
theorem dX9_stands_41 : decode cX9_stands 41 = .ok (.bipush (-3), 2) := by decide +kernel
theorem dX9_stands_43 : decode cX9_stands 43 = .ok (.invokevirtual 126, 3) := by decide +kernel
theorem dX9_stands_46 : decode cX9_stands 46 = .ok (.aload_n 0, 1) := by decide +kernel
theorem dX9_stands_47 : decode cX9_stands 47 = .ok (.getfield 120, 3) := by decide +kernel
theorem dX9_stands_50 : decode cX9_stands 50 = .ok (.ifCond .ne 10, 3) := by decide +kernel
theorem dX9_stands_53 : decode cX9_stands 53 = .ok (.aload_n 0, 1) := by decide +kernel
theorem dX9_stands_54 : decode cX9_stands 54 = .ok (.getfield 101, 3) := by decide +kernel
theorem dX9_stands_57 : decode cX9_stands 57 = .ok (.goto 4, 3) := by decide +kernel
theorem dX9_stands_60 : decode cX9_stands 60 = .ok (.iconst 0, 1) := by decide +kernel
theorem dX9_stands_61 : decode cX9_stands 61 = .ok (.ireturn, 1) := by decide +kernel
theorem dX9_takes_0 : decode cX9_takes 0 = .ok (.aload_n 0, 1) := by decide +kernel
theorem dX9_takes_1 : decode cX9_takes 1 = .ok (.iload_n 1, 1) := by decide +kernel
theorem dX9_takes_2 : decode cX9_takes 2 = .ok (.iload_n 2, 1) := by decide +kernel
theorem dX9_takes_3 : decode cX9_takes 3 = .ok (.invokevirtual 147, 3) := by decide +kernel
theorem dX9_takes_6 : decode cX9_takes 6 = .ok (.istore_n 3, 1) := by decide +kernel
theorem dX9_takes_7 : decode cX9_takes 7 = .ok (.aload_n 0, 1) := by decide +kernel
theorem dX9_takes_8 : decode cX9_takes 8 = .ok (.getfield 120, 3) := by decide +kernel
theorem dX9_takes_11 : decode cX9_takes 11 = .ok (.ifCond .ne 7, 3) := by decide +kernel
theorem dX9_takes_14 : decode cX9_takes 14 = .ok (.aload_n 0, 1) := by decide +kernel
theorem dX9_takes_15 : decode cX9_takes 15 = .ok (.invokevirtual 123, 3) := by decide +kernel
theorem dX9_takes_18 : decode cX9_takes 18 = .ok (.iload_n 3, 1) := by decide +kernel
theorem dX9_takes_19 : decode cX9_takes 19 = .ok (.ireturn, 1) := by decide +kernel
theorem dX9_mustName_0 : decode cX9_mustName 0 = .ok (.aload_n 0, 1) := by decide +kernel
theorem dX9_mustName_1 : decode cX9_mustName 1 = .ok (.getfield 120, 3) := by decide +kernel
theorem dX9_mustName_4 : decode cX9_mustName 4 = .ok (.ifCond .ne 30, 3) := by decide +kernel
theorem dX9_mustName_7 : decode cX9_mustName 7 = .ok (.aload_n 0, 1) := by decide +kernel
theorem dX9_mustName_8 : decode cX9_mustName 8 = .ok (.getfield 104, 3) := by decide +kernel
theorem dX9_mustName_11 : decode cX9_mustName 11 = .ok (.ifCond .ne 17, 3) := by decide +kernel
theorem dX9_mustName_14 : decode cX9_mustName 14 = .ok (.aload_n 0, 1) := by decide +kernel
theorem dX9_mustName_15 : decode cX9_mustName 15 = .ok (.getfield 95, 3) := by decide +kernel
theorem dX9_mustName_18 : decode cX9_mustName 18 = .ok (.aload_n 0, 1) := by decide +kernel
theorem dX9_mustName_19 : decode cX9_mustName 19 = .ok (.getfield 98, 3) := by decide +kernel
theorem dX9_mustName_22 : decode cX9_mustName 22 = .ok (.isub, 1) := by decide +kernel
theorem dX9_mustName_23 : decode cX9_mustName 23 = .ok (.bipush 8, 2) := by decide +kernel
theorem dX9_mustName_25 : decode cX9_mustName 25 = .ok (.if_icmp .le 9, 3) := by decide +kernel
theorem dX9_mustName_28 : decode cX9_mustName 28 = .ok (.aload_n 0, 1) := by decide +kernel
theorem dX9_mustName_29 : decode cX9_mustName 29 = .ok (.bipush (-2), 2) := by decide +kernel
theorem dX9_mustName_31 : decode cX9_mustName 31 = .ok (.invokevirtual 126, 3) := by decide +kernel
theorem dX9_mustName_34 : decode cX9_mustName 34 = .ok (.return_, 1) := by decide +kernel
theorem dX9_isName_0 : decode cX9_isName 0 = .ok (.iconst 0, 1) := by decide +kernel
theorem dX9_isName_1 : decode cX9_isName 1 = .ok (.istore_n 3, 1) := by decide +kernel
theorem dX9_isName_2 : decode cX9_isName 2 = .ok (.iload_n 3, 1) := by decide +kernel
theorem dX9_isName_3 : decode cX9_isName 3 = .ok (.bipush 8, 2) := by decide +kernel
theorem dX9_isName_5 : decode cX9_isName 5 = .ok (.if_icmp .ge 47, 3) := by decide +kernel
theorem dX9_isName_8 : decode cX9_isName 8 = .ok (.aload_n 1, 1) := by decide +kernel
theorem dX9_isName_9 : decode cX9_isName 9 = .ok (.iload_n 2, 1) := by decide +kernel
theorem dX9_isName_10 : decode cX9_isName 10 = .ok (.iload_n 3, 1) := by decide +kernel
theorem dX9_isName_11 : decode cX9_isName 11 = .ok (.iadd, 1) := by decide +kernel
theorem dX9_isName_12 : decode cX9_isName 12 = .ok (.iaload, 1) := by decide +kernel
theorem dX9_isName_13 : decode cX9_isName 13 = .ok (.aload_n 0, 1) := by decide +kernel
theorem dX9_isName_14 : decode cX9_isName 14 = .ok (.getfield 98, 3) := by decide +kernel
theorem dX9_isName_17 : decode cX9_isName 17 = .ok (.iload_n 3, 1) := by decide +kernel
theorem dX9_isName_18 : decode cX9_isName 18 = .ok (.iadd, 1) := by decide +kernel
theorem dX9_isName_19 : decode cX9_isName 19 = .ok (.aload_n 0, 1) := by decide +kernel
theorem dX9_isName_20 : decode cX9_isName 20 = .ok (.getfield 95, 3) := by decide +kernel
theorem dX9_isName_23 : decode cX9_isName 23 = .ok (.if_icmp .ge 17, 3) := by decide +kernel
theorem dX9_isName_26 : decode cX9_isName 26 = .ok (.aload_n 0, 1) := by decide +kernel
theorem dX9_isName_27 : decode cX9_isName 27 = .ok (.getfield 29, 3) := by decide +kernel
theorem dX9_isName_30 : decode cX9_isName 30 = .ok (.aload_n 0, 1) := by decide +kernel
theorem dX9_isName_31 : decode cX9_isName 31 = .ok (.getfield 98, 3) := by decide +kernel
theorem dX9_isName_34 : decode cX9_isName 34 = .ok (.iload_n 3, 1) := by decide +kernel
theorem dX9_isName_35 : decode cX9_isName 35 = .ok (.iadd, 1) := by decide +kernel
theorem dX9_isName_36 : decode cX9_isName 36 = .ok (.iaload, 1) := by decide +kernel
theorem dX9_isName_37 : decode cX9_isName 37 = .ok (.goto 4, 3) := by decide +kernel
theorem dX9_isName_40 : decode cX9_isName 40 = .ok (.iconst 0, 1) := by decide +kernel
theorem dX9_isName_41 : decode cX9_isName 41 = .ok (.if_icmp .eq 5, 3) := by decide +kernel
theorem dX9_isName_44 : decode cX9_isName 44 = .ok (.iconst 0, 1) := by decide +kernel
theorem dX9_isName_45 : decode cX9_isName 45 = .ok (.ireturn, 1) := by decide +kernel
theorem dX9_isName_46 : decode cX9_isName 46 = .ok (.iinc 3 1, 3) := by decide +kernel
theorem dX9_isName_49 : decode cX9_isName 49 = .ok (.goto (-47), 3) := by decide +kernel
theorem dX9_isName_52 : decode cX9_isName 52 = .ok (.iconst 1, 1) := by decide +kernel
theorem dX9_isName_53 : decode cX9_isName 53 = .ok (.ireturn, 1) := by decide +kernel
theorem dX9_putsName_0 : decode cX9_putsName 0 = .ok (.iconst 0, 1) := by decide +kernel
theorem dX9_putsName_1 : decode cX9_putsName 1 = .ok (.istore_n 3, 1) := by decide +kernel
theorem dX9_putsName_2 : decode cX9_putsName 2 = .ok (.iload_n 3, 1) := by decide +kernel
theorem dX9_putsName_3 : decode cX9_putsName 3 = .ok (.bipush 8, 2) := by decide +kernel
theorem dX9_putsName_5 : decode cX9_putsName 5 = .ok (.if_icmp .ge 42, 3) := by decide +kernel
theorem dX9_putsName_8 : decode cX9_putsName 8 = .ok (.aload_n 1, 1) := by decide +kernel
theorem dX9_putsName_9 : decode cX9_putsName 9 = .ok (.iload_n 2, 1) := by decide +kernel
theorem dX9_putsName_10 : decode cX9_putsName 10 = .ok (.iload_n 3, 1) := by decide +kernel
theorem dX9_putsName_11 : decode cX9_putsName 11 = .ok (.iadd, 1) := by decide +kernel
theorem dX9_putsName_12 : decode cX9_putsName 12 = .ok (.aload_n 0, 1) := by decide +kernel
theorem dX9_putsName_13 : decode cX9_putsName 13 = .ok (.getfield 98, 3) := by decide +kernel
theorem dX9_putsName_16 : decode cX9_putsName 16 = .ok (.iload_n 3, 1) := by decide +kernel
theorem dX9_putsName_17 : decode cX9_putsName 17 = .ok (.iadd, 1) := by decide +kernel
theorem dX9_putsName_18 : decode cX9_putsName 18 = .ok (.aload_n 0, 1) := by decide +kernel
theorem dX9_putsName_19 : decode cX9_putsName 19 = .ok (.getfield 95, 3) := by decide +kernel
theorem dX9_putsName_22 : decode cX9_putsName 22 = .ok (.if_icmp .ge 17, 3) := by decide +kernel
theorem dX9_putsName_25 : decode cX9_putsName 25 = .ok (.aload_n 0, 1) := by decide +kernel
theorem dX9_putsName_26 : decode cX9_putsName 26 = .ok (.getfield 29, 3) := by decide +kernel
theorem dX9_putsName_29 : decode cX9_putsName 29 = .ok (.aload_n 0, 1) := by decide +kernel
theorem dX9_putsName_30 : decode cX9_putsName 30 = .ok (.getfield 98, 3) := by decide +kernel
theorem dX9_putsName_33 : decode cX9_putsName 33 = .ok (.iload_n 3, 1) := by decide +kernel
theorem dX9_putsName_34 : decode cX9_putsName 34 = .ok (.iadd, 1) := by decide +kernel
theorem dX9_putsName_35 : decode cX9_putsName 35 = .ok (.iaload, 1) := by decide +kernel
theorem dX9_putsName_36 : decode cX9_putsName 36 = .ok (.goto 4, 3) := by decide +kernel
theorem dX9_putsName_39 : decode cX9_putsName 39 = .ok (.iconst 0, 1) := by decide +kernel
theorem dX9_putsName_40 : decode cX9_putsName 40 = .ok (.iastore, 1) := by decide +kernel
theorem dX9_putsName_41 : decode cX9_putsName 41 = .ok (.iinc 3 1, 3) := by decide +kernel
theorem dX9_putsName_44 : decode cX9_putsName 44 = .ok (.goto (-42), 3) := by decide +kernel
theorem dX9_putsName_47 : decode cX9_putsName 47 = .ok (.return_, 1) := by decide +kernel
theorem dX9_readsShift_0 : decode cX9_readsShift 0 = .ok (.bipush 10, 2) := by decide +kernel
theorem dX9_readsShift_2 : decode cX9_readsShift 2 = .ok (.iconst 3, 1) := by decide +kernel
theorem dX9_readsShift_3 : decode cX9_readsShift 3 = .ok (.aload_n 0, 1) := by decide +kernel
theorem dX9_readsShift_4 : decode cX9_readsShift 4 = .ok (.getfield 7, 3) := by decide +kernel
theorem dX9_readsShift_7 : decode cX9_readsShift 7 = .ok (.bipush 9, 2) := by decide +kernel
theorem dX9_readsShift_9 : decode cX9_readsShift 9 = .ok (.iaload, 1) := by decide +kernel
theorem dX9_readsShift_10 : decode cX9_readsShift 10 = .ok (.imul, 1) := by decide +kernel
theorem dX9_readsShift_11 : decode cX9_readsShift 11 = .ok (.iadd, 1) := by decide +kernel
theorem dX9_readsShift_12 : decode cX9_readsShift 12 = .ok (.istore_n 1, 1) := by decide +kernel
theorem dX9_readsShift_13 : decode cX9_readsShift 13 = .ok (.aload_n 0, 1) := by decide +kernel
theorem dX9_readsShift_14 : decode cX9_readsShift 14 = .ok (.getfield 7, 3) := by decide +kernel
theorem dX9_readsShift_17 : decode cX9_readsShift 17 = .ok (.bipush 9, 2) := by decide +kernel
theorem dX9_readsShift_19 : decode cX9_readsShift 19 = .ok (.iaload, 1) := by decide +kernel
theorem dX9_readsShift_20 : decode cX9_readsShift 20 = .ok (.bipush 8, 2) := by decide +kernel
theorem dX9_readsShift_22 : decode cX9_readsShift 22 = .ok (.if_icmp .ne 9, 3) := by decide +kernel
theorem dX9_readsShift_25 : decode cX9_readsShift 25 = .ok (.aload_n 0, 1) := by decide +kernel
theorem dX9_readsShift_26 : decode cX9_readsShift 26 = .ok (.bipush (-6), 2) := by decide +kernel
theorem dX9_readsShift_28 : decode cX9_readsShift 28 = .ok (.invokevirtual 126, 3) := by decide +kernel
theorem dX9_readsShift_31 : decode cX9_readsShift 31 = .ok (.aload_n 0, 1) := by decide +kernel
theorem dX9_readsShift_32 : decode cX9_readsShift 32 = .ok (.iconst 1, 1) := by decide +kernel
theorem dX9_readsShift_33 : decode cX9_readsShift 33 = .ok (.invokevirtual 143, 3) := by decide +kernel
theorem dX9_readsShift_36 : decode cX9_readsShift 36 = .ok (.aload_n 0, 1) := by decide +kernel
theorem dX9_readsShift_37 : decode cX9_readsShift 37 = .ok (.iconst 0, 1) := by decide +kernel
theorem dX9_readsShift_38 : decode cX9_readsShift 38 = .ok (.sipush 999, 3) := by decide +kernel
theorem dX9_readsShift_41 : decode cX9_readsShift 41 = .ok (.invokevirtual 147, 3) := by decide +kernel
theorem dX9_readsShift_44 : decode cX9_readsShift 44 = .ok (.istore_n 2, 1) := by decide +kernel
theorem dX9_readsShift_45 : decode cX9_readsShift 45 = .ok (.aload_n 0, 1) := by decide +kernel
theorem dX9_readsShift_46 : decode cX9_readsShift 46 = .ok (.getfield 120, 3) := by decide +kernel
theorem dX9_readsShift_49 : decode cX9_readsShift 49 = .ok (.ifCond .ne 18, 3) := by decide +kernel
theorem dX9_readsShift_52 : decode cX9_readsShift 52 = .ok (.aload_n 0, 1) := by decide +kernel
theorem dX9_readsShift_53 : decode cX9_readsShift 53 = .ok (.iload_n 2, 1) := by decide +kernel
theorem dX9_readsShift_54 : decode cX9_readsShift 54 = .ok (.invokevirtual 150, 3) := by decide +kernel
theorem dX9_readsShift_57 : decode cX9_readsShift 57 = .ok (.iconst (-1), 1) := by decide +kernel
theorem dX9_readsShift_58 : decode cX9_readsShift 58 = .ok (.if_icmp .eq 9, 3) := by decide +kernel
theorem dX9_readsShift_61 : decode cX9_readsShift 61 = .ok (.aload_n 0, 1) := by decide +kernel
theorem dX9_readsShift_62 : decode cX9_readsShift 62 = .ok (.bipush (-4), 2) := by decide +kernel
theorem dX9_readsShift_64 : decode cX9_readsShift 64 = .ok (.invokevirtual 126, 3) := by decide +kernel
theorem dX9_readsShift_67 : decode cX9_readsShift 67 = .ok (.aload_n 0, 1) := by decide +kernel
theorem dX9_readsShift_68 : decode cX9_readsShift 68 = .ok (.iconst 1, 1) := by decide +kernel
theorem dX9_readsShift_69 : decode cX9_readsShift 69 = .ok (.invokevirtual 143, 3) := by decide +kernel
theorem dX9_readsShift_72 : decode cX9_readsShift 72 = .ok (.aload_n 0, 1) := by decide +kernel
theorem dX9_readsShift_73 : decode cX9_readsShift 73 = .ok (.iconst 0, 1) := by decide +kernel
theorem dX9_readsShift_74 : decode cX9_readsShift 74 = .ok (.bipush 7, 2) := by decide +kernel
theorem dX9_readsShift_76 : decode cX9_readsShift 76 = .ok (.invokevirtual 153, 3) := by decide +kernel
theorem dX9_readsShift_79 : decode cX9_readsShift 79 = .ok (.istore_n 3, 1) := by decide +kernel
theorem dX9_readsShift_80 : decode cX9_readsShift 80 = .ok (.aload_n 0, 1) := by decide +kernel
theorem dX9_readsShift_81 : decode cX9_readsShift 81 = .ok (.iconst 0, 1) := by decide +kernel
theorem dX9_readsShift_82 : decode cX9_readsShift 82 = .ok (.bipush 9, 2) := by decide +kernel
theorem dX9_readsShift_84 : decode cX9_readsShift 84 = .ok (.invokevirtual 153, 3) := by decide +kernel
theorem dX9_readsShift_87 : decode cX9_readsShift 87 = .ok (.istore 4, 2) := by decide +kernel
theorem dX9_readsShift_89 : decode cX9_readsShift 89 = .ok (.aload_n 0, 1) := by decide +kernel
theorem dX9_readsShift_90 : decode cX9_readsShift 90 = .ok (.invokevirtual 156, 3) := by decide +kernel
theorem dX9_readsShift_93 : decode cX9_readsShift 93 = .ok (.aload_n 0, 1) := by decide +kernel
theorem dX9_readsShift_94 : decode cX9_readsShift 94 = .ok (.getfield 120, 3) := by decide +kernel
theorem dX9_readsShift_97 : decode cX9_readsShift 97 = .ok (.ifCond .eq 4, 3) := by decide +kernel
theorem dX9_readsShift_100 : decode cX9_readsShift 100 = .ok (.return_, 1) := by decide +kernel
theorem dX9_readsShift_101 : decode cX9_readsShift 101 = .ok (.aload_n 0, 1) := by decide +kernel
theorem dX9_readsShift_102 : decode cX9_readsShift 102 = .ok (.getfield 7, 3) := by decide +kernel
theorem dX9_readsShift_105 : decode cX9_readsShift 105 = .ok (.iload_n 1, 1) := by decide +kernel
theorem dX9_readsShift_106 : decode cX9_readsShift 106 = .ok (.iload_n 2, 1) := by decide +kernel
theorem dX9_readsShift_107 : decode cX9_readsShift 107 = .ok (.iastore, 1) := by decide +kernel
theorem dX9_readsShift_108 : decode cX9_readsShift 108 = .ok (.aload_n 0, 1) := by decide +kernel
theorem dX9_readsShift_109 : decode cX9_readsShift 109 = .ok (.getfield 7, 3) := by decide +kernel
theorem dX9_readsShift_112 : decode cX9_readsShift 112 = .ok (.iload_n 1, 1) := by decide +kernel
theorem dX9_readsShift_113 : decode cX9_readsShift 113 = .ok (.iconst 1, 1) := by decide +kernel
theorem dX9_readsShift_114 : decode cX9_readsShift 114 = .ok (.iadd, 1) := by decide +kernel
theorem dX9_readsShift_115 : decode cX9_readsShift 115 = .ok (.iload_n 3, 1) := by decide +kernel
theorem dX9_readsShift_116 : decode cX9_readsShift 116 = .ok (.iastore, 1) := by decide +kernel
theorem dX9_readsShift_117 : decode cX9_readsShift 117 = .ok (.aload_n 0, 1) := by decide +kernel
theorem dX9_readsShift_118 : decode cX9_readsShift 118 = .ok (.getfield 7, 3) := by decide +kernel
theorem dX9_readsShift_121 : decode cX9_readsShift 121 = .ok (.iload_n 1, 1) := by decide +kernel
theorem dX9_readsShift_122 : decode cX9_readsShift 122 = .ok (.iconst 2, 1) := by decide +kernel
theorem dX9_readsShift_123 : decode cX9_readsShift 123 = .ok (.iadd, 1) := by decide +kernel
theorem dX9_readsShift_124 : decode cX9_readsShift 124 = .ok (.iload 4, 2) := by decide +kernel
theorem dX9_readsShift_126 : decode cX9_readsShift 126 = .ok (.iastore, 1) := by decide +kernel
theorem dX9_readsShift_127 : decode cX9_readsShift 127 = .ok (.aload_n 0, 1) := by decide +kernel
theorem dX9_readsShift_128 : decode cX9_readsShift 128 = .ok (.getfield 7, 3) := by decide +kernel
theorem dX9_readsShift_131 : decode cX9_readsShift 131 = .ok (.bipush 9, 2) := by decide +kernel
theorem dX9_readsShift_133 : decode cX9_readsShift 133 = .ok (.dup2, 1) := by decide +kernel
theorem dX9_readsShift_134 : decode cX9_readsShift 134 = .ok (.iaload, 1) := by decide +kernel
theorem dX9_readsShift_135 : decode cX9_readsShift 135 = .ok (.iconst 1, 1) := by decide +kernel
theorem dX9_readsShift_136 : decode cX9_readsShift 136 = .ok (.iadd, 1) := by decide +kernel
theorem dX9_readsShift_137 : decode cX9_readsShift 137 = .ok (.iastore, 1) := by decide +kernel
theorem dX9_readsShift_138 : decode cX9_readsShift 138 = .ok (.return_, 1) := by decide +kernel
theorem dX9_readsFleet_0 : decode cX9_readsFleet 0 = .ok (.aload_n 0, 1) := by decide +kernel
theorem dX9_readsFleet_1 : decode cX9_readsFleet 1 = .ok (.getfield 7, 3) := by decide +kernel
theorem dX9_readsFleet_4 : decode cX9_readsFleet 4 = .ok (.iconst 2, 1) := by decide +kernel
theorem dX9_readsFleet_5 : decode cX9_readsFleet 5 = .ok (.iaload, 1) := by decide +kernel
theorem dX9_readsFleet_6 : decode cX9_readsFleet 6 = .ok (.istore_n 1, 1) := by decide +kernel
theorem dX9_readsFleet_7 : decode cX9_readsFleet 7 = .ok (.iload_n 1, 1) := by decide +kernel
theorem dX9_readsFleet_8 : decode cX9_readsFleet 8 = .ok (.iconst 4, 1) := by decide +kernel
theorem dX9_readsFleet_9 : decode cX9_readsFleet 9 = .ok (.if_icmp .ne 9, 3) := by decide +kernel
theorem dX9_readsFleet_12 : decode cX9_readsFleet 12 = .ok (.aload_n 0, 1) := by decide +kernel
theorem dX9_readsFleet_13 : decode cX9_readsFleet 13 = .ok (.bipush (-6), 2) := by decide +kernel
theorem dX9_readsFleet_15 : decode cX9_readsFleet 15 = .ok (.invokevirtual 126, 3) := by decide +kernel
theorem dX9_readsFleet_18 : decode cX9_readsFleet 18 = .ok (.aload_n 0, 1) := by decide +kernel
theorem dX9_readsFleet_19 : decode cX9_readsFleet 19 = .ok (.iconst 1, 1) := by decide +kernel
theorem dX9_readsFleet_20 : decode cX9_readsFleet 20 = .ok (.invokevirtual 143, 3) := by decide +kernel
theorem dX9_readsFleet_23 : decode cX9_readsFleet 23 = .ok (.aload_n 0, 1) := by decide +kernel
theorem dX9_readsFleet_24 : decode cX9_readsFleet 24 = .ok (.invokevirtual 159, 3) := by decide +kernel
theorem dX9_readsFleet_27 : decode cX9_readsFleet 27 = .ok (.iconst 0, 1) := by decide +kernel
theorem dX9_readsFleet_28 : decode cX9_readsFleet 28 = .ok (.istore_n 2, 1) := by decide +kernel
theorem dX9_readsFleet_29 : decode cX9_readsFleet 29 = .ok (.iload_n 2, 1) := by decide +kernel
theorem dX9_readsFleet_30 : decode cX9_readsFleet 30 = .ok (.iload_n 1, 1) := by decide +kernel
theorem dX9_readsFleet_31 : decode cX9_readsFleet 31 = .ok (.if_icmp .ge 37, 3) := by decide +kernel
theorem dX9_readsFleet_34 : decode cX9_readsFleet 34 = .ok (.aload_n 0, 1) := by decide +kernel
theorem dX9_readsFleet_35 : decode cX9_readsFleet 35 = .ok (.getfield 120, 3) := by decide +kernel
theorem dX9_readsFleet_38 : decode cX9_readsFleet 38 = .ok (.ifCond .ne 24, 3) := by decide +kernel
theorem dX9_readsFleet_41 : decode cX9_readsFleet 41 = .ok (.aload_n 0, 1) := by decide +kernel
theorem dX9_readsFleet_42 : decode cX9_readsFleet 42 = .ok (.aload_n 0, 1) := by decide +kernel
theorem dX9_readsFleet_43 : decode cX9_readsFleet 43 = .ok (.getfield 36, 3) := by decide +kernel
theorem dX9_readsFleet_46 : decode cX9_readsFleet 46 = .ok (.bipush 8, 2) := by decide +kernel
theorem dX9_readsFleet_48 : decode cX9_readsFleet 48 = .ok (.iload_n 2, 1) := by decide +kernel
theorem dX9_readsFleet_49 : decode cX9_readsFleet 49 = .ok (.imul, 1) := by decide +kernel
theorem dX9_readsFleet_50 : decode cX9_readsFleet 50 = .ok (.invokevirtual 162, 3) := by decide +kernel
theorem dX9_readsFleet_53 : decode cX9_readsFleet 53 = .ok (.ifCond .eq 9, 3) := by decide +kernel
theorem dX9_readsFleet_56 : decode cX9_readsFleet 56 = .ok (.aload_n 0, 1) := by decide +kernel
theorem dX9_readsFleet_57 : decode cX9_readsFleet 57 = .ok (.bipush (-4), 2) := by decide +kernel
theorem dX9_readsFleet_59 : decode cX9_readsFleet 59 = .ok (.invokevirtual 126, 3) := by decide +kernel
theorem dX9_readsFleet_62 : decode cX9_readsFleet 62 = .ok (.iinc 2 1, 3) := by decide +kernel
theorem dX9_readsFleet_65 : decode cX9_readsFleet 65 = .ok (.goto (-36), 3) := by decide +kernel
theorem dX9_readsFleet_68 : decode cX9_readsFleet 68 = .ok (.aload_n 0, 1) := by decide +kernel
theorem dX9_readsFleet_69 : decode cX9_readsFleet 69 = .ok (.getfield 120, 3) := by decide +kernel
theorem dX9_readsFleet_72 : decode cX9_readsFleet 72 = .ok (.ifCond .eq 4, 3) := by decide +kernel
theorem dX9_readsFleet_75 : decode cX9_readsFleet 75 = .ok (.return_, 1) := by decide +kernel
theorem dX9_readsFleet_76 : decode cX9_readsFleet 76 = .ok (.aload_n 0, 1) := by decide +kernel
theorem dX9_readsFleet_77 : decode cX9_readsFleet 77 = .ok (.aload_n 0, 1) := by decide +kernel
theorem dX9_readsFleet_78 : decode cX9_readsFleet 78 = .ok (.getfield 36, 3) := by decide +kernel
theorem dX9_readsFleet_81 : decode cX9_readsFleet 81 = .ok (.bipush 8, 2) := by decide +kernel
theorem dX9_readsFleet_83 : decode cX9_readsFleet 83 = .ok (.iload_n 1, 1) := by decide +kernel
theorem dX9_readsFleet_84 : decode cX9_readsFleet 84 = .ok (.imul, 1) := by decide +kernel
theorem dX9_readsFleet_85 : decode cX9_readsFleet 85 = .ok (.invokevirtual 166, 3) := by decide +kernel
theorem dX9_readsFleet_88 : decode cX9_readsFleet 88 = .ok (.aload_n 0, 1) := by decide +kernel
theorem dX9_readsFleet_89 : decode cX9_readsFleet 89 = .ok (.invokevirtual 123, 3) := by decide +kernel
theorem dX9_readsFleet_92 : decode cX9_readsFleet 92 = .ok (.aload_n 0, 1) := by decide +kernel
theorem dX9_readsFleet_93 : decode cX9_readsFleet 93 = .ok (.invokevirtual 156, 3) := by decide +kernel
theorem dX9_readsFleet_96 : decode cX9_readsFleet 96 = .ok (.aload_n 0, 1) := by decide +kernel
theorem dX9_readsFleet_97 : decode cX9_readsFleet 97 = .ok (.getfield 7, 3) := by decide +kernel
theorem dX9_readsFleet_100 : decode cX9_readsFleet 100 = .ok (.iconst 2, 1) := by decide +kernel
theorem dX9_readsFleet_101 : decode cX9_readsFleet 101 = .ok (.dup2, 1) := by decide +kernel
theorem dX9_readsFleet_102 : decode cX9_readsFleet 102 = .ok (.iaload, 1) := by decide +kernel
theorem dX9_readsFleet_103 : decode cX9_readsFleet 103 = .ok (.iconst 1, 1) := by decide +kernel
theorem dX9_readsFleet_104 : decode cX9_readsFleet 104 = .ok (.iadd, 1) := by decide +kernel
theorem dX9_readsFleet_105 : decode cX9_readsFleet 105 = .ok (.iastore, 1) := by decide +kernel
theorem dX9_readsFleet_106 : decode cX9_readsFleet 106 = .ok (.aload_n 0, 1) := by decide +kernel
theorem dX9_readsFleet_107 : decode cX9_readsFleet 107 = .ok (.ldc 170, 2) := by decide +kernel
theorem dX9_readsFleet_109 : decode cX9_readsFleet 109 = .ok (.invokevirtual 172, 3) := by decide +kernel
theorem dX9_readsFleet_112 : decode cX9_readsFleet 112 = .ok (.ifCond .eq 11, 3) := by decide +kernel
theorem dX9_readsFleet_115 : decode cX9_readsFleet 115 = .ok (.aload_n 0, 1) := by decide +kernel
theorem dX9_readsFleet_116 : decode cX9_readsFleet 116 = .ok (.iload_n 1, 1) := by decide +kernel
theorem dX9_readsFleet_117 : decode cX9_readsFleet 117 = .ok (.invokevirtual 176, 3) := by decide +kernel
theorem dX9_readsFleet_120 : decode cX9_readsFleet 120 = .ok (.goto (-14), 3) := by decide +kernel
theorem dX9_readsFleet_123 : decode cX9_readsFleet 123 = .ok (.return_, 1) := by decide +kernel
theorem dX9_option_0 : decode cX9_option 0 = .ok (.aload_n 0, 1) := by decide +kernel
theorem dX9_option_1 : decode cX9_option 1 = .ok (.ldc 179, 2) := by decide +kernel
theorem dX9_option_3 : decode cX9_option 3 = .ok (.invokevirtual 172, 3) := by decide +kernel
theorem dX9_option_6 : decode cX9_option 6 = .ok (.ifCond .eq 7, 3) := by decide +kernel
theorem dX9_option_9 : decode cX9_option 9 = .ok (.iconst 4, 1) := by decide +kernel
theorem dX9_option_10 : decode cX9_option 10 = .ok (.goto 45, 3) := by decide +kernel
theorem dX9_option_13 : decode cX9_option 13 = .ok (.aload_n 0, 1) := by decide +kernel
theorem dX9_option_14 : decode cX9_option 14 = .ok (.ldc 181, 2) := by decide +kernel
theorem dX9_option_16 : decode cX9_option 16 = .ok (.invokevirtual 172, 3) := by decide +kernel
theorem dX9_option_19 : decode cX9_option 19 = .ok (.ifCond .eq 7, 3) := by decide +kernel
theorem dX9_option_22 : decode cX9_option 22 = .ok (.iconst 5, 1) := by decide +kernel
theorem dX9_option_23 : decode cX9_option 23 = .ok (.goto 32, 3) := by decide +kernel
theorem dX9_option_26 : decode cX9_option 26 = .ok (.aload_n 0, 1) := by decide +kernel
theorem dX9_option_27 : decode cX9_option 27 = .ok (.ldc 183, 2) := by decide +kernel
theorem dX9_option_29 : decode cX9_option 29 = .ok (.invokevirtual 172, 3) := by decide +kernel
theorem dX9_option_32 : decode cX9_option 32 = .ok (.ifCond .eq 8, 3) := by decide +kernel
theorem dX9_option_35 : decode cX9_option 35 = .ok (.bipush 6, 2) := by decide +kernel
theorem dX9_option_37 : decode cX9_option 37 = .ok (.goto 18, 3) := by decide +kernel
theorem dX9_option_40 : decode cX9_option 40 = .ok (.aload_n 0, 1) := by decide +kernel
theorem dX9_option_41 : decode cX9_option 41 = .ok (.ldc 185, 2) := by decide +kernel
theorem dX9_option_43 : decode cX9_option 43 = .ok (.invokevirtual 172, 3) := by decide +kernel
theorem dX9_option_46 : decode cX9_option 46 = .ok (.ifCond .eq 8, 3) := by decide +kernel
theorem dX9_option_49 : decode cX9_option 49 = .ok (.bipush 7, 2) := by decide +kernel
theorem dX9_option_51 : decode cX9_option 51 = .ok (.goto 4, 3) := by decide +kernel
theorem dX9_option_54 : decode cX9_option 54 = .ok (.iconst (-1), 1) := by decide +kernel
theorem dX9_option_55 : decode cX9_option 55 = .ok (.ireturn, 1) := by decide +kernel
theorem dX9_readsShip_0 : decode cX9_readsShip 0 = .ok (.aload_n 0, 1) := by decide +kernel
theorem dX9_readsShip_1 : decode cX9_readsShip 1 = .ok (.getfield 7, 3) := by decide +kernel
theorem dX9_readsShip_4 : decode cX9_readsShip 4 = .ok (.iconst 3, 1) := by decide +kernel
theorem dX9_readsShip_5 : decode cX9_readsShip 5 = .ok (.iaload, 1) := by decide +kernel
theorem dX9_readsShip_6 : decode cX9_readsShip 6 = .ok (.istore_n 2, 1) := by decide +kernel
theorem dX9_readsShip_7 : decode cX9_readsShip 7 = .ok (.iload_n 2, 1) := by decide +kernel
theorem dX9_readsShip_8 : decode cX9_readsShip 8 = .ok (.bipush 12, 2) := by decide +kernel
theorem dX9_readsShip_10 : decode cX9_readsShip 10 = .ok (.if_icmp .ne 9, 3) := by decide +kernel
theorem dX9_readsShip_13 : decode cX9_readsShip 13 = .ok (.aload_n 0, 1) := by decide +kernel
theorem dX9_readsShip_14 : decode cX9_readsShip 14 = .ok (.bipush (-6), 2) := by decide +kernel
theorem dX9_readsShip_16 : decode cX9_readsShip 16 = .ok (.invokevirtual 126, 3) := by decide +kernel
theorem dX9_readsShip_19 : decode cX9_readsShip 19 = .ok (.aload_n 0, 1) := by decide +kernel
theorem dX9_readsShip_20 : decode cX9_readsShip 20 = .ok (.iconst 1, 1) := by decide +kernel
theorem dX9_readsShip_21 : decode cX9_readsShip 21 = .ok (.invokevirtual 143, 3) := by decide +kernel
theorem dX9_readsShip_24 : decode cX9_readsShip 24 = .ok (.aload_n 0, 1) := by decide +kernel
theorem dX9_readsShip_25 : decode cX9_readsShip 25 = .ok (.invokevirtual 159, 3) := by decide +kernel
theorem dX9_readsShip_28 : decode cX9_readsShip 28 = .ok (.iconst 0, 1) := by decide +kernel
theorem dX9_readsShip_29 : decode cX9_readsShip 29 = .ok (.istore_n 3, 1) := by decide +kernel
theorem dX9_readsShip_30 : decode cX9_readsShip 30 = .ok (.iload_n 3, 1) := by decide +kernel
theorem dX9_readsShip_31 : decode cX9_readsShip 31 = .ok (.iload_n 2, 1) := by decide +kernel
theorem dX9_readsShip_32 : decode cX9_readsShip 32 = .ok (.if_icmp .ge 43, 3) := by decide +kernel
theorem dX9_readsShip_35 : decode cX9_readsShip 35 = .ok (.aload_n 0, 1) := by decide +kernel
theorem dX9_readsShip_36 : decode cX9_readsShip 36 = .ok (.getfield 120, 3) := by decide +kernel
theorem dX9_readsShip_39 : decode cX9_readsShip 39 = .ok (.ifCond .ne 30, 3) := by decide +kernel
theorem dX9_readsShip_42 : decode cX9_readsShip 42 = .ok (.aload_n 0, 1) := by decide +kernel
theorem dX9_readsShip_43 : decode cX9_readsShip 43 = .ok (.aload_n 0, 1) := by decide +kernel
theorem dX9_readsShip_44 : decode cX9_readsShip 44 = .ok (.getfield 7, 3) := by decide +kernel
theorem dX9_readsShip_47 : decode cX9_readsShip 47 = .ok (.bipush 46, 2) := by decide +kernel
theorem dX9_readsShip_49 : decode cX9_readsShip 49 = .ok (.bipush 25, 2) := by decide +kernel
theorem dX9_readsShip_51 : decode cX9_readsShip 51 = .ok (.iload_n 3, 1) := by decide +kernel
theorem dX9_readsShip_52 : decode cX9_readsShip 52 = .ok (.imul, 1) := by decide +kernel
theorem dX9_readsShip_53 : decode cX9_readsShip 53 = .ok (.iadd, 1) := by decide +kernel
theorem dX9_readsShip_54 : decode cX9_readsShip 54 = .ok (.bipush 17, 2) := by decide +kernel
theorem dX9_readsShip_56 : decode cX9_readsShip 56 = .ok (.iadd, 1) := by decide +kernel
theorem dX9_readsShip_57 : decode cX9_readsShip 57 = .ok (.invokevirtual 162, 3) := by decide +kernel
theorem dX9_readsShip_60 : decode cX9_readsShip 60 = .ok (.ifCond .eq 9, 3) := by decide +kernel
theorem dX9_readsShip_63 : decode cX9_readsShip 63 = .ok (.aload_n 0, 1) := by decide +kernel
theorem dX9_readsShip_64 : decode cX9_readsShip 64 = .ok (.bipush (-4), 2) := by decide +kernel
theorem dX9_readsShip_66 : decode cX9_readsShip 66 = .ok (.invokevirtual 126, 3) := by decide +kernel
theorem dX9_readsShip_69 : decode cX9_readsShip 69 = .ok (.iinc 3 1, 3) := by decide +kernel
theorem dX9_readsShip_72 : decode cX9_readsShip 72 = .ok (.goto (-42), 3) := by decide +kernel
theorem dX9_readsShip_75 : decode cX9_readsShip 75 = .ok (.aload_n 0, 1) := by decide +kernel
theorem dX9_readsShip_76 : decode cX9_readsShip 76 = .ok (.getfield 120, 3) := by decide +kernel
theorem dX9_readsShip_79 : decode cX9_readsShip 79 = .ok (.ifCond .eq 4, 3) := by decide +kernel
theorem dX9_readsShip_82 : decode cX9_readsShip 82 = .ok (.return_, 1) := by decide +kernel
theorem dX9_readsShip_83 : decode cX9_readsShip 83 = .ok (.bipush 46, 2) := by decide +kernel
theorem dX9_readsShip_85 : decode cX9_readsShip 85 = .ok (.bipush 25, 2) := by decide +kernel
theorem dX9_readsShip_87 : decode cX9_readsShip 87 = .ok (.iload_n 2, 1) := by decide +kernel
theorem dX9_readsShip_88 : decode cX9_readsShip 88 = .ok (.imul, 1) := by decide +kernel
theorem dX9_readsShip_89 : decode cX9_readsShip 89 = .ok (.iadd, 1) := by decide +kernel
theorem dX9_readsShip_90 : decode cX9_readsShip 90 = .ok (.istore_n 3, 1) := by decide +kernel
theorem dX9_readsShip_91 : decode cX9_readsShip 91 = .ok (.aload_n 0, 1) := by decide +kernel
theorem dX9_readsShip_92 : decode cX9_readsShip 92 = .ok (.aload_n 0, 1) := by decide +kernel
theorem dX9_readsShip_93 : decode cX9_readsShip 93 = .ok (.getfield 7, 3) := by decide +kernel
theorem dX9_readsShip_96 : decode cX9_readsShip 96 = .ok (.iload_n 3, 1) := by decide +kernel
theorem dX9_readsShip_97 : decode cX9_readsShip 97 = .ok (.bipush 17, 2) := by decide +kernel
theorem dX9_readsShip_99 : decode cX9_readsShip 99 = .ok (.iadd, 1) := by decide +kernel
theorem dX9_readsShip_100 : decode cX9_readsShip 100 = .ok (.invokevirtual 166, 3) := by decide +kernel
theorem dX9_readsShip_103 : decode cX9_readsShip 103 = .ok (.aload_n 0, 1) := by decide +kernel
theorem dX9_readsShip_104 : decode cX9_readsShip 104 = .ok (.invokevirtual 123, 3) := by decide +kernel
theorem dX9_readsShip_107 : decode cX9_readsShip 107 = .ok (.aload_n 0, 1) := by decide +kernel
theorem dX9_readsShip_108 : decode cX9_readsShip 108 = .ok (.getfield 7, 3) := by decide +kernel
theorem dX9_readsShip_111 : decode cX9_readsShip 111 = .ok (.iload_n 3, 1) := by decide +kernel
theorem dX9_readsShip_112 : decode cX9_readsShip 112 = .ok (.iload_n 1, 1) := by decide +kernel
theorem dX9_readsShip_113 : decode cX9_readsShip 113 = .ok (.iastore, 1) := by decide +kernel
theorem dX9_readsShip_114 : decode cX9_readsShip 114 = .ok (.aload_n 0, 1) := by decide +kernel
theorem dX9_readsShip_115 : decode cX9_readsShip 115 = .ok (.iconst 0, 1) := by decide +kernel
theorem dX9_readsShip_116 : decode cX9_readsShip 116 = .ok (.aload_n 0, 1) := by decide +kernel
theorem dX9_readsShip_117 : decode cX9_readsShip 117 = .ok (.getfield 7, 3) := by decide +kernel
theorem dX9_readsShip_120 : decode cX9_readsShip 120 = .ok (.iconst 0, 1) := by decide +kernel
theorem dX9_readsShip_121 : decode cX9_readsShip 121 = .ok (.iaload, 1) := by decide +kernel
theorem dX9_readsShip_122 : decode cX9_readsShip 122 = .ok (.iconst 1, 1) := by decide +kernel
theorem dX9_readsShip_123 : decode cX9_readsShip 123 = .ok (.isub, 1) := by decide +kernel
theorem dX9_readsShip_124 : decode cX9_readsShip 124 = .ok (.invokevirtual 153, 3) := by decide +kernel
theorem dX9_readsShip_127 : decode cX9_readsShip 127 = .ok (.istore 4, 2) := by decide +kernel
theorem dX9_readsShip_129 : decode cX9_readsShip 129 = .ok (.aload_n 0, 1) := by decide +kernel
theorem dX9_readsShip_130 : decode cX9_readsShip 130 = .ok (.iconst 0, 1) := by decide +kernel
theorem dX9_readsShip_131 : decode cX9_readsShip 131 = .ok (.aload_n 0, 1) := by decide +kernel
theorem dX9_readsShip_132 : decode cX9_readsShip 132 = .ok (.getfield 7, 3) := by decide +kernel
theorem dX9_readsShip_135 : decode cX9_readsShip 135 = .ok (.iconst 1, 1) := by decide +kernel
theorem dX9_readsShip_136 : decode cX9_readsShip 136 = .ok (.iaload, 1) := by decide +kernel
theorem dX9_readsShip_137 : decode cX9_readsShip 137 = .ok (.iconst 1, 1) := by decide +kernel
theorem dX9_readsShip_138 : decode cX9_readsShip 138 = .ok (.isub, 1) := by decide +kernel
theorem dX9_readsShip_139 : decode cX9_readsShip 139 = .ok (.invokevirtual 153, 3) := by decide +kernel
theorem dX9_readsShip_142 : decode cX9_readsShip 142 = .ok (.istore 5, 2) := by decide +kernel
theorem dX9_readsShip_144 : decode cX9_readsShip 144 = .ok (.aload_n 0, 1) := by decide +kernel
theorem dX9_readsShip_145 : decode cX9_readsShip 145 = .ok (.iconst 0, 1) := by decide +kernel
theorem dX9_readsShip_146 : decode cX9_readsShip 146 = .ok (.bipush 7, 2) := by decide +kernel
theorem dX9_readsShip_148 : decode cX9_readsShip 148 = .ok (.invokevirtual 147, 3) := by decide +kernel
theorem dX9_readsShip_151 : decode cX9_readsShip 151 = .ok (.istore 6, 2) := by decide +kernel
theorem dX9_readsShip_153 : decode cX9_readsShip 153 = .ok (.aload_n 0, 1) := by decide +kernel
theorem dX9_readsShip_154 : decode cX9_readsShip 154 = .ok (.getfield 120, 3) := by decide +kernel
theorem dX9_readsShip_157 : decode cX9_readsShip 157 = .ok (.ifCond .ne 21, 3) := by decide +kernel
theorem dX9_readsShip_160 : decode cX9_readsShip 160 = .ok (.aload_n 0, 1) := by decide +kernel
theorem dX9_readsShip_161 : decode cX9_readsShip 161 = .ok (.iload 4, 2) := by decide +kernel
theorem dX9_readsShip_163 : decode cX9_readsShip 163 = .ok (.iload 5, 2) := by decide +kernel
theorem dX9_readsShip_165 : decode cX9_readsShip 165 = .ok (.invokevirtual 187, 3) := by decide +kernel
theorem dX9_readsShip_168 : decode cX9_readsShip 168 = .ok (.iconst (-1), 1) := by decide +kernel
theorem dX9_readsShip_169 : decode cX9_readsShip 169 = .ok (.if_icmp .eq 9, 3) := by decide +kernel
theorem dX9_readsShip_172 : decode cX9_readsShip 172 = .ok (.aload_n 0, 1) := by decide +kernel
theorem dX9_readsShip_173 : decode cX9_readsShip 173 = .ok (.bipush (-5), 2) := by decide +kernel
theorem dX9_readsShip_175 : decode cX9_readsShip 175 = .ok (.invokevirtual 126, 3) := by decide +kernel
theorem dX9_readsShip_178 : decode cX9_readsShip 178 = .ok (.aload_n 0, 1) := by decide +kernel
theorem dX9_readsShip_179 : decode cX9_readsShip 179 = .ok (.iconst 1, 1) := by decide +kernel
theorem dX9_readsShip_180 : decode cX9_readsShip 180 = .ok (.invokevirtual 143, 3) := by decide +kernel
theorem dX9_readsShip_183 : decode cX9_readsShip 183 = .ok (.aload_n 0, 1) := by decide +kernel
theorem dX9_readsShip_184 : decode cX9_readsShip 184 = .ok (.getfield 120, 3) := by decide +kernel
theorem dX9_readsShip_187 : decode cX9_readsShip 187 = .ok (.ifCond .eq 4, 3) := by decide +kernel
theorem dX9_readsShip_190 : decode cX9_readsShip 190 = .ok (.return_, 1) := by decide +kernel
theorem dX9_readsShip_191 : decode cX9_readsShip 191 = .ok (.aload_n 0, 1) := by decide +kernel
theorem dX9_readsShip_192 : decode cX9_readsShip 192 = .ok (.getfield 7, 3) := by decide +kernel
theorem dX9_readsShip_195 : decode cX9_readsShip 195 = .ok (.iload_n 3, 1) := by decide +kernel
theorem dX9_readsShip_196 : decode cX9_readsShip 196 = .ok (.iconst 1, 1) := by decide +kernel
theorem dX9_readsShip_197 : decode cX9_readsShip 197 = .ok (.iadd, 1) := by decide +kernel
theorem dX9_readsShip_198 : decode cX9_readsShip 198 = .ok (.iload 4, 2) := by decide +kernel
theorem dX9_readsShip_200 : decode cX9_readsShip 200 = .ok (.iastore, 1) := by decide +kernel
theorem dX9_readsShip_201 : decode cX9_readsShip 201 = .ok (.aload_n 0, 1) := by decide +kernel
theorem dX9_readsShip_202 : decode cX9_readsShip 202 = .ok (.getfield 7, 3) := by decide +kernel
theorem dX9_readsShip_205 : decode cX9_readsShip 205 = .ok (.iload_n 3, 1) := by decide +kernel
theorem dX9_readsShip_206 : decode cX9_readsShip 206 = .ok (.iconst 2, 1) := by decide +kernel
theorem dX9_readsShip_207 : decode cX9_readsShip 207 = .ok (.iadd, 1) := by decide +kernel
theorem dX9_readsShip_208 : decode cX9_readsShip 208 = .ok (.iload 5, 2) := by decide +kernel
theorem dX9_readsShip_210 : decode cX9_readsShip 210 = .ok (.iastore, 1) := by decide +kernel
theorem dX9_readsShip_211 : decode cX9_readsShip 211 = .ok (.aload_n 0, 1) := by decide +kernel
theorem dX9_readsShip_212 : decode cX9_readsShip 212 = .ok (.getfield 7, 3) := by decide +kernel
theorem dX9_readsShip_215 : decode cX9_readsShip 215 = .ok (.iload_n 3, 1) := by decide +kernel
theorem dX9_readsShip_216 : decode cX9_readsShip 216 = .ok (.iconst 3, 1) := by decide +kernel
theorem dX9_readsShip_217 : decode cX9_readsShip 217 = .ok (.iadd, 1) := by decide +kernel
theorem dX9_readsShip_218 : decode cX9_readsShip 218 = .ok (.iload 6, 2) := by decide +kernel
theorem dX9_readsShip_220 : decode cX9_readsShip 220 = .ok (.iastore, 1) := by decide +kernel
theorem dX9_readsShip_221 : decode cX9_readsShip 221 = .ok (.aload_n 0, 1) := by decide +kernel
theorem dX9_readsShip_222 : decode cX9_readsShip 222 = .ok (.getfield 7, 3) := by decide +kernel
theorem dX9_readsShip_225 : decode cX9_readsShip 225 = .ok (.iload_n 3, 1) := by decide +kernel
theorem dX9_readsShip_226 : decode cX9_readsShip 226 = .ok (.iconst 4, 1) := by decide +kernel
theorem dX9_readsShip_227 : decode cX9_readsShip 227 = .ok (.iadd, 1) := by decide +kernel
theorem dX9_readsShip_228 : decode cX9_readsShip 228 = .ok (.bipush 20, 2) := by decide +kernel
theorem dX9_readsShip_230 : decode cX9_readsShip 230 = .ok (.iastore, 1) := by decide +kernel
theorem dX9_readsShip_231 : decode cX9_readsShip 231 = .ok (.aload_n 0, 1) := by decide +kernel
theorem dX9_readsShip_232 : decode cX9_readsShip 232 = .ok (.getfield 7, 3) := by decide +kernel
theorem dX9_readsShip_235 : decode cX9_readsShip 235 = .ok (.iload_n 3, 1) := by decide +kernel
theorem dX9_readsShip_236 : decode cX9_readsShip 236 = .ok (.iconst 5, 1) := by decide +kernel
theorem dX9_readsShip_237 : decode cX9_readsShip 237 = .ok (.iadd, 1) := by decide +kernel
theorem dX9_readsShip_238 : decode cX9_readsShip 238 = .ok (.iconst 3, 1) := by decide +kernel
theorem dX9_readsShip_239 : decode cX9_readsShip 239 = .ok (.iastore, 1) := by decide +kernel
theorem dX9_readsShip_240 : decode cX9_readsShip 240 = .ok (.aload_n 0, 1) := by decide +kernel
theorem dX9_readsShip_241 : decode cX9_readsShip 241 = .ok (.getfield 7, 3) := by decide +kernel
theorem dX9_readsShip_244 : decode cX9_readsShip 244 = .ok (.iload_n 3, 1) := by decide +kernel
theorem dX9_readsShip_245 : decode cX9_readsShip 245 = .ok (.bipush 6, 2) := by decide +kernel
theorem dX9_readsShip_247 : decode cX9_readsShip 247 = .ok (.iadd, 1) := by decide +kernel
theorem dX9_readsShip_248 : decode cX9_readsShip 248 = .ok (.iconst 5, 1) := by decide +kernel
theorem dX9_readsShip_249 : decode cX9_readsShip 249 = .ok (.iastore, 1) := by decide +kernel
theorem dX9_readsShip_250 : decode cX9_readsShip 250 = .ok (.aload_n 0, 1) := by decide +kernel
theorem dX9_readsShip_251 : decode cX9_readsShip 251 = .ok (.getfield 7, 3) := by decide +kernel
theorem dX9_readsShip_254 : decode cX9_readsShip 254 = .ok (.iload_n 3, 1) := by decide +kernel
theorem dX9_readsShip_255 : decode cX9_readsShip 255 = .ok (.bipush 7, 2) := by decide +kernel
theorem dX9_readsShip_257 : decode cX9_readsShip 257 = .ok (.iadd, 1) := by decide +kernel
theorem dX9_readsShip_258 : decode cX9_readsShip 258 = .ok (.iconst 1, 1) := by decide +kernel
theorem dX9_readsShip_259 : decode cX9_readsShip 259 = .ok (.iastore, 1) := by decide +kernel
theorem dX9_readsShip_260 : decode cX9_readsShip 260 = .ok (.aload_n 0, 1) := by decide +kernel
theorem dX9_readsShip_261 : decode cX9_readsShip 261 = .ok (.getfield 7, 3) := by decide +kernel
theorem dX9_readsShip_264 : decode cX9_readsShip 264 = .ok (.iload_n 3, 1) := by decide +kernel
theorem dX9_readsShip_265 : decode cX9_readsShip 265 = .ok (.bipush 9, 2) := by decide +kernel
theorem dX9_readsShip_267 : decode cX9_readsShip 267 = .ok (.iadd, 1) := by decide +kernel
theorem dX9_readsShip_268 : decode cX9_readsShip 268 = .ok (.iconst 4, 1) := by decide +kernel
theorem dX9_readsShip_269 : decode cX9_readsShip 269 = .ok (.iastore, 1) := by decide +kernel
theorem dX9_readsShip_270 : decode cX9_readsShip 270 = .ok (.aload_n 0, 1) := by decide +kernel
theorem dX9_readsShip_271 : decode cX9_readsShip 271 = .ok (.getfield 7, 3) := by decide +kernel
theorem dX9_readsShip_274 : decode cX9_readsShip 274 = .ok (.iload_n 3, 1) := by decide +kernel
theorem dX9_readsShip_275 : decode cX9_readsShip 275 = .ok (.bipush 10, 2) := by decide +kernel
theorem dX9_readsShip_277 : decode cX9_readsShip 277 = .ok (.iadd, 1) := by decide +kernel
theorem dX9_readsShip_278 : decode cX9_readsShip 278 = .ok (.iconst (-1), 1) := by decide +kernel
theorem dX9_readsShip_279 : decode cX9_readsShip 279 = .ok (.iastore, 1) := by decide +kernel
theorem dX9_readsShip_280 : decode cX9_readsShip 280 = .ok (.iconst 0, 1) := by decide +kernel
theorem dX9_readsShip_281 : decode cX9_readsShip 281 = .ok (.istore 7, 2) := by decide +kernel
theorem dX9_readsShip_283 : decode cX9_readsShip 283 = .ok (.iload 7, 2) := by decide +kernel
theorem dX9_readsShip_285 : decode cX9_readsShip 285 = .ok (.bipush 6, 2) := by decide +kernel
theorem dX9_readsShip_287 : decode cX9_readsShip 287 = .ok (.if_icmp .ge 22, 3) := by decide +kernel
theorem dX9_readsShip_290 : decode cX9_readsShip 290 = .ok (.aload_n 0, 1) := by decide +kernel
theorem dX9_readsShip_291 : decode cX9_readsShip 291 = .ok (.getfield 7, 3) := by decide +kernel
theorem dX9_readsShip_294 : decode cX9_readsShip 294 = .ok (.iload_n 3, 1) := by decide +kernel
theorem dX9_readsShip_295 : decode cX9_readsShip 295 = .ok (.bipush 11, 2) := by decide +kernel
theorem dX9_readsShip_297 : decode cX9_readsShip 297 = .ok (.iadd, 1) := by decide +kernel
theorem dX9_readsShip_298 : decode cX9_readsShip 298 = .ok (.iload 7, 2) := by decide +kernel
theorem dX9_readsShip_300 : decode cX9_readsShip 300 = .ok (.iadd, 1) := by decide +kernel
theorem dX9_readsShip_301 : decode cX9_readsShip 301 = .ok (.iconst 1, 1) := by decide +kernel
theorem dX9_readsShip_302 : decode cX9_readsShip 302 = .ok (.iastore, 1) := by decide +kernel
theorem dX9_readsShip_303 : decode cX9_readsShip 303 = .ok (.iinc 7 1, 3) := by decide +kernel
theorem dX9_readsShip_306 : decode cX9_readsShip 306 = .ok (.goto (-23), 3) := by decide +kernel
theorem dX9_readsShip_309 : decode cX9_readsShip 309 = .ok (.iconst 0, 1) := by decide +kernel
theorem dX9_readsShip_310 : decode cX9_readsShip 310 = .ok (.istore 7, 2) := by decide +kernel
theorem dX9_readsShip_312 : decode cX9_readsShip 312 = .ok (.aload_n 0, 1) := by decide +kernel
theorem dX9_readsShip_313 : decode cX9_readsShip 313 = .ok (.invokevirtual 190, 3) := by decide +kernel
theorem dX9_readsShip_316 : decode cX9_readsShip 316 = .ok (.istore 8, 2) := by decide +kernel
theorem dX9_readsShip_318 : decode cX9_readsShip 318 = .ok (.iload 8, 2) := by decide +kernel
theorem dX9_readsShip_320 : decode cX9_readsShip 320 = .ok (.iconst (-1), 1) := by decide +kernel
theorem dX9_readsShip_321 : decode cX9_readsShip 321 = .ok (.if_icmp .eq 92, 3) := by decide +kernel
theorem dX9_readsShip_324 : decode cX9_readsShip 324 = .ok (.iload 7, 2) := by decide +kernel
theorem dX9_readsShip_326 : decode cX9_readsShip 326 = .ok (.iload 8, 2) := by decide +kernel
theorem dX9_readsShip_328 : decode cX9_readsShip 328 = .ok (.ishr, 1) := by decide +kernel
theorem dX9_readsShip_329 : decode cX9_readsShip 329 = .ok (.iconst 1, 1) := by decide +kernel
theorem dX9_readsShip_330 : decode cX9_readsShip 330 = .ok (.iand, 1) := by decide +kernel
theorem dX9_readsShip_331 : decode cX9_readsShip 331 = .ok (.iconst 1, 1) := by decide +kernel
theorem dX9_readsShip_332 : decode cX9_readsShip 332 = .ok (.if_icmp .ne 9, 3) := by decide +kernel
theorem dX9_readsShip_335 : decode cX9_readsShip 335 = .ok (.aload_n 0, 1) := by decide +kernel
theorem dX9_readsShip_336 : decode cX9_readsShip 336 = .ok (.bipush (-4), 2) := by decide +kernel
theorem dX9_readsShip_338 : decode cX9_readsShip 338 = .ok (.invokevirtual 126, 3) := by decide +kernel
theorem dX9_readsShip_341 : decode cX9_readsShip 341 = .ok (.aload_n 0, 1) := by decide +kernel
theorem dX9_readsShip_342 : decode cX9_readsShip 342 = .ok (.iconst 1, 1) := by decide +kernel
theorem dX9_readsShip_343 : decode cX9_readsShip 343 = .ok (.invokevirtual 143, 3) := by decide +kernel
theorem dX9_readsShip_346 : decode cX9_readsShip 346 = .ok (.iload 7, 2) := by decide +kernel
theorem dX9_readsShip_348 : decode cX9_readsShip 348 = .ok (.iconst 1, 1) := by decide +kernel
theorem dX9_readsShip_349 : decode cX9_readsShip 349 = .ok (.iload 8, 2) := by decide +kernel
theorem dX9_readsShip_351 : decode cX9_readsShip 351 = .ok (.ishl, 1) := by decide +kernel
theorem dX9_readsShip_352 : decode cX9_readsShip 352 = .ok (.ior, 1) := by decide +kernel
theorem dX9_readsShip_353 : decode cX9_readsShip 353 = .ok (.istore 7, 2) := by decide +kernel
theorem dX9_readsShip_355 : decode cX9_readsShip 355 = .ok (.aload_n 0, 1) := by decide +kernel
theorem dX9_readsShip_356 : decode cX9_readsShip 356 = .ok (.getfield 7, 3) := by decide +kernel
theorem dX9_readsShip_359 : decode cX9_readsShip 359 = .ok (.iload_n 3, 1) := by decide +kernel
theorem dX9_readsShip_360 : decode cX9_readsShip 360 = .ok (.iload 8, 2) := by decide +kernel
theorem dX9_readsShip_362 : decode cX9_readsShip 362 = .ok (.iadd, 1) := by decide +kernel
theorem dX9_readsShip_363 : decode cX9_readsShip 363 = .ok (.aload_n 0, 1) := by decide +kernel
theorem dX9_readsShip_364 : decode cX9_readsShip 364 = .ok (.iload 8, 2) := by decide +kernel
theorem dX9_readsShip_366 : decode cX9_readsShip 366 = .ok (.bipush 7, 2) := by decide +kernel
theorem dX9_readsShip_368 : decode cX9_readsShip 368 = .ok (.if_icmp .ne 7, 3) := by decide +kernel
theorem dX9_readsShip_371 : decode cX9_readsShip 371 = .ok (.iconst 0, 1) := by decide +kernel
theorem dX9_readsShip_372 : decode cX9_readsShip 372 = .ok (.goto 4, 3) := by decide +kernel
theorem dX9_readsShip_375 : decode cX9_readsShip 375 = .ok (.iconst 1, 1) := by decide +kernel
theorem dX9_readsShip_376 : decode cX9_readsShip 376 = .ok (.iload 8, 2) := by decide +kernel
theorem dX9_readsShip_378 : decode cX9_readsShip 378 = .ok (.iconst 4, 1) := by decide +kernel
theorem dX9_readsShip_379 : decode cX9_readsShip 379 = .ok (.if_icmp .ne 8, 3) := by decide +kernel
theorem dX9_readsShip_382 : decode cX9_readsShip 382 = .ok (.bipush 99, 2) := by decide +kernel
theorem dX9_readsShip_384 : decode cX9_readsShip 384 = .ok (.goto 16, 3) := by decide +kernel
theorem dX9_readsShip_387 : decode cX9_readsShip 387 = .ok (.iload 8, 2) := by decide +kernel
theorem dX9_readsShip_389 : decode cX9_readsShip 389 = .ok (.bipush 7, 2) := by decide +kernel
theorem dX9_readsShip_391 : decode cX9_readsShip 391 = .ok (.if_icmp .ne 7, 3) := by decide +kernel
theorem dX9_readsShip_394 : decode cX9_readsShip 394 = .ok (.iconst 3, 1) := by decide +kernel
theorem dX9_readsShip_395 : decode cX9_readsShip 395 = .ok (.goto 5, 3) := by decide +kernel
theorem dX9_readsShip_398 : decode cX9_readsShip 398 = .ok (.bipush 9, 2) := by decide +kernel
theorem dX9_readsShip_400 : decode cX9_readsShip 400 = .ok (.invokevirtual 153, 3) := by decide +kernel
theorem dX9_readsShip_403 : decode cX9_readsShip 403 = .ok (.iastore, 1) := by decide +kernel
theorem dX9_readsShip_404 : decode cX9_readsShip 404 = .ok (.aload_n 0, 1) := by decide +kernel
theorem dX9_readsShip_405 : decode cX9_readsShip 405 = .ok (.invokevirtual 190, 3) := by decide +kernel
theorem dX9_readsShip_408 : decode cX9_readsShip 408 = .ok (.istore 8, 2) := by decide +kernel
theorem dX9_readsShip_410 : decode cX9_readsShip 410 = .ok (.goto (-92), 3) := by decide +kernel
theorem dX9_readsShip_413 : decode cX9_readsShip 413 = .ok (.aload_n 0, 1) := by decide +kernel
theorem dX9_readsShip_414 : decode cX9_readsShip 414 = .ok (.invokevirtual 156, 3) := by decide +kernel
theorem dX9_readsShip_417 : decode cX9_readsShip 417 = .ok (.aload_n 0, 1) := by decide +kernel
theorem dX9_readsShip_418 : decode cX9_readsShip 418 = .ok (.getfield 7, 3) := by decide +kernel
theorem dX9_readsShip_421 : decode cX9_readsShip 421 = .ok (.iconst 3, 1) := by decide +kernel
theorem dX9_readsShip_422 : decode cX9_readsShip 422 = .ok (.dup2, 1) := by decide +kernel
theorem dX9_readsShip_423 : decode cX9_readsShip 423 = .ok (.iaload, 1) := by decide +kernel
theorem dX9_readsShip_424 : decode cX9_readsShip 424 = .ok (.iconst 1, 1) := by decide +kernel
theorem dX9_readsShip_425 : decode cX9_readsShip 425 = .ok (.iadd, 1) := by decide +kernel
theorem dX9_readsShip_426 : decode cX9_readsShip 426 = .ok (.iastore, 1) := by decide +kernel
theorem dX9_readsShip_427 : decode cX9_readsShip 427 = .ok (.return_, 1) := by decide +kernel
theorem dX9_load_0 : decode cX9_load 0 = .ok (.aload_n 0, 1) := by decide +kernel
theorem dX9_load_1 : decode cX9_load 1 = .ok (.iconst 0, 1) := by decide +kernel
theorem dX9_load_2 : decode cX9_load 2 = .ok (.putfield 66, 3) := by decide +kernel
theorem dX9_load_5 : decode cX9_load 5 = .ok (.aload_n 0, 1) := by decide +kernel
theorem dX9_load_6 : decode cX9_load 6 = .ok (.getfield 13, 3) := by decide +kernel
theorem dX9_load_9 : decode cX9_load 9 = .ok (.iconst 0, 1) := by decide +kernel
theorem dX9_load_10 : decode cX9_load 10 = .ok (.aload_n 0, 1) := by decide +kernel
theorem dX9_load_11 : decode cX9_load 11 = .ok (.getfield 7, 3) := by decide +kernel
theorem dX9_load_14 : decode cX9_load 14 = .ok (.iconst 0, 1) := by decide +kernel
theorem dX9_load_15 : decode cX9_load 15 = .ok (.invokestatic 72, 3) := by decide +kernel
theorem dX9_load_18 : decode cX9_load 18 = .ok (.aload_n 0, 1) := by decide +kernel
theorem dX9_load_19 : decode cX9_load 19 = .ok (.invokevirtual 63, 3) := by decide +kernel
theorem dX9_load_22 : decode cX9_load 22 = .ok (.aload_n 0, 1) := by decide +kernel
theorem dX9_load_23 : decode cX9_load 23 = .ok (.invokevirtual 193, 3) := by decide +kernel
theorem dX9_load_26 : decode cX9_load 26 = .ok (.aload_n 0, 1) := by decide +kernel
theorem dX9_load_27 : decode cX9_load 27 = .ok (.aload_n 0, 1) := by decide +kernel
theorem dX9_load_28 : decode cX9_load 28 = .ok (.ldc 196, 2) := by decide +kernel
theorem dX9_load_30 : decode cX9_load 30 = .ok (.invokevirtual 172, 3) := by decide +kernel
theorem dX9_load_33 : decode cX9_load 33 = .ok (.invokevirtual 143, 3) := by decide +kernel
theorem dX9_load_36 : decode cX9_load 36 = .ok (.aload_n 0, 1) := by decide +kernel
theorem dX9_load_37 : decode cX9_load 37 = .ok (.getfield 7, 3) := by decide +kernel
theorem dX9_load_40 : decode cX9_load 40 = .ok (.iconst 0, 1) := by decide +kernel
theorem dX9_load_41 : decode cX9_load 41 = .ok (.aload_n 0, 1) := by decide +kernel
theorem dX9_load_42 : decode cX9_load 42 = .ok (.iconst 4, 1) := by decide +kernel
theorem dX9_load_43 : decode cX9_load 43 = .ok (.bipush 30, 2) := by decide +kernel
theorem dX9_load_45 : decode cX9_load 45 = .ok (.invokevirtual 153, 3) := by decide +kernel
theorem dX9_load_48 : decode cX9_load 48 = .ok (.iastore, 1) := by decide +kernel
theorem dX9_load_49 : decode cX9_load 49 = .ok (.aload_n 0, 1) := by decide +kernel
theorem dX9_load_50 : decode cX9_load 50 = .ok (.getfield 7, 3) := by decide +kernel
theorem dX9_load_53 : decode cX9_load 53 = .ok (.iconst 1, 1) := by decide +kernel
theorem dX9_load_54 : decode cX9_load 54 = .ok (.aload_n 0, 1) := by decide +kernel
theorem dX9_load_55 : decode cX9_load 55 = .ok (.iconst 4, 1) := by decide +kernel
theorem dX9_load_56 : decode cX9_load 56 = .ok (.bipush 30, 2) := by decide +kernel
theorem dX9_load_58 : decode cX9_load 58 = .ok (.invokevirtual 153, 3) := by decide +kernel
theorem dX9_load_61 : decode cX9_load 61 = .ok (.iastore, 1) := by decide +kernel
theorem dX9_load_62 : decode cX9_load 62 = .ok (.aload_n 0, 1) := by decide +kernel
theorem dX9_load_63 : decode cX9_load 63 = .ok (.invokevirtual 156, 3) := by decide +kernel
theorem dX9_load_66 : decode cX9_load 66 = .ok (.aload_n 0, 1) := by decide +kernel
theorem dX9_load_67 : decode cX9_load 67 = .ok (.ldc 198, 2) := by decide +kernel
theorem dX9_load_69 : decode cX9_load 69 = .ok (.invokevirtual 172, 3) := by decide +kernel
theorem dX9_load_72 : decode cX9_load 72 = .ok (.ifCond .eq 38, 3) := by decide +kernel
theorem dX9_load_75 : decode cX9_load 75 = .ok (.aload_n 0, 1) := by decide +kernel
theorem dX9_load_76 : decode cX9_load 76 = .ok (.invokevirtual 123, 3) := by decide +kernel
theorem dX9_load_79 : decode cX9_load 79 = .ok (.aload_n 0, 1) := by decide +kernel
theorem dX9_load_80 : decode cX9_load 80 = .ok (.getfield 7, 3) := by decide +kernel
theorem dX9_load_83 : decode cX9_load 83 = .ok (.iconst 5, 1) := by decide +kernel
theorem dX9_load_84 : decode cX9_load 84 = .ok (.aload_n 0, 1) := by decide +kernel
theorem dX9_load_85 : decode cX9_load 85 = .ok (.iconst 0, 1) := by decide +kernel
theorem dX9_load_86 : decode cX9_load 86 = .ok (.bipush 7, 2) := by decide +kernel
theorem dX9_load_88 : decode cX9_load 88 = .ok (.invokevirtual 153, 3) := by decide +kernel
theorem dX9_load_91 : decode cX9_load 91 = .ok (.iastore, 1) := by decide +kernel
theorem dX9_load_92 : decode cX9_load 92 = .ok (.aload_n 0, 1) := by decide +kernel
theorem dX9_load_93 : decode cX9_load 93 = .ok (.getfield 7, 3) := by decide +kernel
theorem dX9_load_96 : decode cX9_load 96 = .ok (.bipush 6, 2) := by decide +kernel
theorem dX9_load_98 : decode cX9_load 98 = .ok (.aload_n 0, 1) := by decide +kernel
theorem dX9_load_99 : decode cX9_load 99 = .ok (.iconst 0, 1) := by decide +kernel
theorem dX9_load_100 : decode cX9_load 100 = .ok (.bipush 9, 2) := by decide +kernel
theorem dX9_load_102 : decode cX9_load 102 = .ok (.invokevirtual 153, 3) := by decide +kernel
theorem dX9_load_105 : decode cX9_load 105 = .ok (.iastore, 1) := by decide +kernel
theorem dX9_load_106 : decode cX9_load 106 = .ok (.aload_n 0, 1) := by decide +kernel
theorem dX9_load_107 : decode cX9_load 107 = .ok (.invokevirtual 156, 3) := by decide +kernel
theorem dX9_load_110 : decode cX9_load 110 = .ok (.aload_n 0, 1) := by decide +kernel
theorem dX9_load_111 : decode cX9_load 111 = .ok (.ldc 200, 2) := by decide +kernel
theorem dX9_load_113 : decode cX9_load 113 = .ok (.invokevirtual 172, 3) := by decide +kernel
theorem dX9_load_116 : decode cX9_load 116 = .ok (.ifCond .eq 10, 3) := by decide +kernel
theorem dX9_load_119 : decode cX9_load 119 = .ok (.aload_n 0, 1) := by decide +kernel
theorem dX9_load_120 : decode cX9_load 120 = .ok (.invokevirtual 202, 3) := by decide +kernel
theorem dX9_load_123 : decode cX9_load 123 = .ok (.goto (-13), 3) := by decide +kernel
theorem dX9_load_126 : decode cX9_load 126 = .ok (.aload_n 0, 1) := by decide +kernel
theorem dX9_load_127 : decode cX9_load 127 = .ok (.ldc 205, 2) := by decide +kernel
theorem dX9_load_129 : decode cX9_load 129 = .ok (.invokevirtual 172, 3) := by decide +kernel
theorem dX9_load_132 : decode cX9_load 132 = .ok (.ifCond .ne 9, 3) := by decide +kernel
theorem dX9_load_135 : decode cX9_load 135 = .ok (.aload_n 0, 1) := by decide +kernel
theorem dX9_load_136 : decode cX9_load 136 = .ok (.bipush (-2), 2) := by decide +kernel
theorem dX9_load_138 : decode cX9_load 138 = .ok (.invokevirtual 126, 3) := by decide +kernel
theorem dX9_load_141 : decode cX9_load 141 = .ok (.aload_n 0, 1) := by decide +kernel
theorem dX9_load_142 : decode cX9_load 142 = .ok (.ldc 205, 2) := by decide +kernel
theorem dX9_load_144 : decode cX9_load 144 = .ok (.invokevirtual 172, 3) := by decide +kernel
theorem dX9_load_147 : decode cX9_load 147 = .ok (.ifCond .eq 10, 3) := by decide +kernel
theorem dX9_load_150 : decode cX9_load 150 = .ok (.aload_n 0, 1) := by decide +kernel
theorem dX9_load_151 : decode cX9_load 151 = .ok (.invokevirtual 207, 3) := by decide +kernel
theorem dX9_load_154 : decode cX9_load 154 = .ok (.goto (-13), 3) := by decide +kernel
theorem dX9_load_157 : decode cX9_load 157 = .ok (.aload_n 0, 1) := by decide +kernel
theorem dX9_load_158 : decode cX9_load 158 = .ok (.invokevirtual 210, 3) := by decide +kernel
theorem dX9_load_161 : decode cX9_load 161 = .ok (.aload_n 0, 1) := by decide +kernel
theorem dX9_load_162 : decode cX9_load 162 = .ok (.getfield 120, 3) := by decide +kernel
theorem dX9_load_165 : decode cX9_load 165 = .ok (.ifCond .eq 16, 3) := by decide +kernel
theorem dX9_load_168 : decode cX9_load 168 = .ok (.aload_n 0, 1) := by decide +kernel
theorem dX9_load_169 : decode cX9_load 169 = .ok (.getfield 7, 3) := by decide +kernel
theorem dX9_load_172 : decode cX9_load 172 = .ok (.iconst 0, 1) := by decide +kernel
theorem dX9_load_173 : decode cX9_load 173 = .ok (.aload_n 0, 1) := by decide +kernel
theorem dX9_load_174 : decode cX9_load 174 = .ok (.getfield 13, 3) := by decide +kernel
theorem dX9_load_177 : decode cX9_load 177 = .ok (.iconst 0, 1) := by decide +kernel
theorem dX9_load_178 : decode cX9_load 178 = .ok (.invokestatic 72, 3) := by decide +kernel
theorem dX9_load_181 : decode cX9_load 181 = .ok (.aload_n 0, 1) := by decide +kernel
theorem dX9_load_182 : decode cX9_load 182 = .ok (.getfield 120, 3) := by decide +kernel
theorem dX9_load_185 : decode cX9_load 185 = .ok (.ifCond .eq 8, 3) := by decide +kernel
theorem dX9_load_188 : decode cX9_load 188 = .ok (.aload_n 0, 1) := by decide +kernel
theorem dX9_load_189 : decode cX9_load 189 = .ok (.getfield 120, 3) := by decide +kernel
theorem dX9_load_192 : decode cX9_load 192 = .ok (.ireturn, 1) := by decide +kernel
theorem dX9_load_193 : decode cX9_load 193 = .ok (.aload_n 0, 1) := by decide +kernel
theorem dX9_load_194 : decode cX9_load 194 = .ok (.aload_n 0, 1) := by decide +kernel
theorem dX9_load_195 : decode cX9_load 195 = .ok (.getfield 13, 3) := by decide +kernel
theorem dX9_load_198 : decode cX9_load 198 = .ok (.invokevirtual 80, 3) := by decide +kernel
theorem dX9_load_201 : decode cX9_load 201 = .ok (.aload_n 0, 1) := by decide +kernel
theorem dX9_load_202 : decode cX9_load 202 = .ok (.getfield 7, 3) := by decide +kernel
theorem dX9_load_205 : decode cX9_load 205 = .ok (.iconst 3, 1) := by decide +kernel
theorem dX9_load_206 : decode cX9_load 206 = .ok (.iaload, 1) := by decide +kernel
theorem dX9_load_207 : decode cX9_load 207 = .ok (.ireturn, 1) := by decide +kernel
theorem dX9_errorPosition_0 : decode cX9_errorPosition 0 = .ok (.aload_n 0, 1) := by decide +kernel
theorem dX9_errorPosition_1 : decode cX9_errorPosition 1 = .ok (.iconst 0, 1) := by decide +kernel
theorem dX9_errorPosition_2 : decode cX9_errorPosition 2 = .ok (.putfield 66, 3) := by decide +kernel
theorem dX9_errorPosition_5 : decode cX9_errorPosition 5 = .ok (.aload_n 0, 1) := by decide +kernel
theorem dX9_errorPosition_6 : decode cX9_errorPosition 6 = .ok (.getfield 32, 3) := by decide +kernel
theorem dX9_errorPosition_9 : decode cX9_errorPosition 9 = .ok (.ireturn, 1) := by decide +kernel
theorem dX9_of_0 : decode cX9_of 0 = .ok (.aload_n 0, 1) := by decide +kernel
theorem dX9_of_1 : decode cX9_of 1 = .ok (.getfield 7, 3) := by decide +kernel
theorem dX9_of_4 : decode cX9_of 4 = .ok (.bipush 46, 2) := by decide +kernel
theorem dX9_of_6 : decode cX9_of 6 = .ok (.bipush 25, 2) := by decide +kernel
theorem dX9_of_8 : decode cX9_of 8 = .ok (.iload_n 1, 1) := by decide +kernel
theorem dX9_of_9 : decode cX9_of 9 = .ok (.imul, 1) := by decide +kernel
theorem dX9_of_10 : decode cX9_of 10 = .ok (.iadd, 1) := by decide +kernel
theorem dX9_of_11 : decode cX9_of 11 = .ok (.iload_n 2, 1) := by decide +kernel
theorem dX9_of_12 : decode cX9_of 12 = .ok (.iadd, 1) := by decide +kernel
theorem dX9_of_13 : decode cX9_of 13 = .ok (.iaload, 1) := by decide +kernel
theorem dX9_of_14 : decode cX9_of 14 = .ok (.ireturn, 1) := by decide +kernel
theorem dX9_sets_0 : decode cX9_sets 0 = .ok (.aload_n 0, 1) := by decide +kernel
theorem dX9_sets_1 : decode cX9_sets 1 = .ok (.getfield 7, 3) := by decide +kernel
theorem dX9_sets_4 : decode cX9_sets 4 = .ok (.bipush 46, 2) := by decide +kernel
theorem dX9_sets_6 : decode cX9_sets 6 = .ok (.bipush 25, 2) := by decide +kernel
theorem dX9_sets_8 : decode cX9_sets 8 = .ok (.iload_n 1, 1) := by decide +kernel
theorem dX9_sets_9 : decode cX9_sets 9 = .ok (.imul, 1) := by decide +kernel
theorem dX9_sets_10 : decode cX9_sets 10 = .ok (.iadd, 1) := by decide +kernel
theorem dX9_sets_11 : decode cX9_sets 11 = .ok (.iload_n 2, 1) := by decide +kernel
theorem dX9_sets_12 : decode cX9_sets 12 = .ok (.iadd, 1) := by decide +kernel
theorem dX9_sets_13 : decode cX9_sets 13 = .ok (.iload_n 3, 1) := by decide +kernel
theorem dX9_sets_14 : decode cX9_sets 14 = .ok (.iastore, 1) := by decide +kernel
theorem dX9_sets_15 : decode cX9_sets 15 = .ok (.return_, 1) := by decide +kernel
theorem dX9_isShip_0 : decode cX9_isShip 0 = .ok (.iload_n 1, 1) := by decide +kernel
theorem dX9_isShip_1 : decode cX9_isShip 1 = .ok (.iconst 0, 1) := by decide +kernel
theorem dX9_isShip_2 : decode cX9_isShip 2 = .ok (.aload_n 0, 1) := by decide +kernel
theorem dX9_isShip_3 : decode cX9_isShip 3 = .ok (.getfield 7, 3) := by decide +kernel
theorem dX9_isShip_6 : decode cX9_isShip 6 = .ok (.iconst 3, 1) := by decide +kernel
theorem dX9_isShip_7 : decode cX9_isShip 7 = .ok (.iaload, 1) := by decide +kernel
theorem dX9_isShip_8 : decode cX9_isShip 8 = .ok (.iconst 1, 1) := by decide +kernel
theorem dX9_isShip_9 : decode cX9_isShip 9 = .ok (.isub, 1) := by decide +kernel
theorem dX9_isShip_10 : decode cX9_isShip 10 = .ok (.invokestatic 76, 3) := by decide +kernel
theorem dX9_isShip_13 : decode cX9_isShip 13 = .ok (.ireturn, 1) := by decide +kernel
theorem dX9_isFleet_0 : decode cX9_isFleet 0 = .ok (.iload_n 1, 1) := by decide +kernel
theorem dX9_isFleet_1 : decode cX9_isFleet 1 = .ok (.iconst 0, 1) := by decide +kernel
theorem dX9_isFleet_2 : decode cX9_isFleet 2 = .ok (.aload_n 0, 1) := by decide +kernel
theorem dX9_isFleet_3 : decode cX9_isFleet 3 = .ok (.getfield 7, 3) := by decide +kernel
theorem dX9_isFleet_6 : decode cX9_isFleet 6 = .ok (.iconst 2, 1) := by decide +kernel
theorem dX9_isFleet_7 : decode cX9_isFleet 7 = .ok (.iaload, 1) := by decide +kernel
theorem dX9_isFleet_8 : decode cX9_isFleet 8 = .ok (.iconst 1, 1) := by decide +kernel
theorem dX9_isFleet_9 : decode cX9_isFleet 9 = .ok (.isub, 1) := by decide +kernel
theorem dX9_isFleet_10 : decode cX9_isFleet 10 = .ok (.invokestatic 76, 3) := by decide +kernel
theorem dX9_isFleet_13 : decode cX9_isFleet 13 = .ok (.ireturn, 1) := by decide +kernel
theorem dX9_sails_0 : decode cX9_sails 0 = .ok (.aload_n 0, 1) := by decide +kernel
theorem dX9_sails_1 : decode cX9_sails 1 = .ok (.iload_n 1, 1) := by decide +kernel
theorem dX9_sails_2 : decode cX9_sails 2 = .ok (.bipush 10, 2) := by decide +kernel
theorem dX9_sails_4 : decode cX9_sails 4 = .ok (.invokevirtual 213, 3) := by decide +kernel
theorem dX9_sails_7 : decode cX9_sails 7 = .ok (.iconst (-1), 1) := by decide +kernel
theorem dX9_sails_8 : decode cX9_sails 8 = .ok (.if_icmp .ne 7, 3) := by decide +kernel
theorem dX9_sails_11 : decode cX9_sails 11 = .ok (.iconst 1, 1) := by decide +kernel
theorem dX9_sails_12 : decode cX9_sails 12 = .ok (.goto 4, 3) := by decide +kernel
theorem dX9_sails_15 : decode cX9_sails 15 = .ok (.iconst 0, 1) := by decide +kernel
theorem dX9_sails_16 : decode cX9_sails 16 = .ok (.ireturn, 1) := by decide +kernel
theorem dX9_sailsFor_0 : decode cX9_sailsFor 0 = .ok (.aload_n 0, 1) := by decide +kernel
theorem dX9_sailsFor_1 : decode cX9_sailsFor 1 = .ok (.iload_n 1, 1) := by decide +kernel
theorem dX9_sailsFor_2 : decode cX9_sailsFor 2 = .ok (.invokevirtual 216, 3) := by decide +kernel
theorem dX9_sailsFor_5 : decode cX9_sailsFor 5 = .ok (.ifCond .eq 17, 3) := by decide +kernel
theorem dX9_sailsFor_8 : decode cX9_sailsFor 8 = .ok (.aload_n 0, 1) := by decide +kernel
theorem dX9_sailsFor_9 : decode cX9_sailsFor 9 = .ok (.iload_n 1, 1) := by decide +kernel
theorem dX9_sailsFor_10 : decode cX9_sailsFor 10 = .ok (.iconst 0, 1) := by decide +kernel
theorem dX9_sailsFor_11 : decode cX9_sailsFor 11 = .ok (.invokevirtual 213, 3) := by decide +kernel
theorem dX9_sailsFor_14 : decode cX9_sailsFor 14 = .ok (.iload_n 2, 1) := by decide +kernel
theorem dX9_sailsFor_15 : decode cX9_sailsFor 15 = .ok (.if_icmp .ne 7, 3) := by decide +kernel
theorem dX9_sailsFor_18 : decode cX9_sailsFor 18 = .ok (.iconst 1, 1) := by decide +kernel
theorem dX9_sailsFor_19 : decode cX9_sailsFor 19 = .ok (.goto 4, 3) := by decide +kernel
theorem dX9_sailsFor_22 : decode cX9_sailsFor 22 = .ok (.iconst 0, 1) := by decide +kernel
theorem dX9_sailsFor_23 : decode cX9_sailsFor 23 = .ok (.ireturn, 1) := by decide +kernel
theorem dX9_shipAt_0 : decode cX9_shipAt 0 = .ok (.iconst 0, 1) := by decide +kernel
theorem dX9_shipAt_1 : decode cX9_shipAt 1 = .ok (.istore_n 3, 1) := by decide +kernel
theorem dX9_shipAt_2 : decode cX9_shipAt 2 = .ok (.iload_n 3, 1) := by decide +kernel
theorem dX9_shipAt_3 : decode cX9_shipAt 3 = .ok (.aload_n 0, 1) := by decide +kernel
theorem dX9_shipAt_4 : decode cX9_shipAt 4 = .ok (.getfield 7, 3) := by decide +kernel
theorem dX9_shipAt_7 : decode cX9_shipAt 7 = .ok (.iconst 3, 1) := by decide +kernel
theorem dX9_shipAt_8 : decode cX9_shipAt 8 = .ok (.iaload, 1) := by decide +kernel
theorem dX9_shipAt_9 : decode cX9_shipAt 9 = .ok (.if_icmp .ge 39, 3) := by decide +kernel
theorem dX9_shipAt_12 : decode cX9_shipAt 12 = .ok (.aload_n 0, 1) := by decide +kernel
theorem dX9_shipAt_13 : decode cX9_shipAt 13 = .ok (.iload_n 3, 1) := by decide +kernel
theorem dX9_shipAt_14 : decode cX9_shipAt 14 = .ok (.invokevirtual 216, 3) := by decide +kernel
theorem dX9_shipAt_17 : decode cX9_shipAt 17 = .ok (.ifCond .eq 25, 3) := by decide +kernel
theorem dX9_shipAt_20 : decode cX9_shipAt 20 = .ok (.aload_n 0, 1) := by decide +kernel
theorem dX9_shipAt_21 : decode cX9_shipAt 21 = .ok (.iload_n 3, 1) := by decide +kernel
theorem dX9_shipAt_22 : decode cX9_shipAt 22 = .ok (.iconst 1, 1) := by decide +kernel
theorem dX9_shipAt_23 : decode cX9_shipAt 23 = .ok (.invokevirtual 213, 3) := by decide +kernel
theorem dX9_shipAt_26 : decode cX9_shipAt 26 = .ok (.iload_n 1, 1) := by decide +kernel
theorem dX9_shipAt_27 : decode cX9_shipAt 27 = .ok (.if_icmp .ne 15, 3) := by decide +kernel
theorem dX9_shipAt_30 : decode cX9_shipAt 30 = .ok (.aload_n 0, 1) := by decide +kernel
theorem dX9_shipAt_31 : decode cX9_shipAt 31 = .ok (.iload_n 3, 1) := by decide +kernel
theorem dX9_shipAt_32 : decode cX9_shipAt 32 = .ok (.iconst 2, 1) := by decide +kernel
theorem dX9_shipAt_33 : decode cX9_shipAt 33 = .ok (.invokevirtual 213, 3) := by decide +kernel
theorem dX9_shipAt_36 : decode cX9_shipAt 36 = .ok (.iload_n 2, 1) := by decide +kernel
theorem dX9_shipAt_37 : decode cX9_shipAt 37 = .ok (.if_icmp .ne 5, 3) := by decide +kernel
theorem dX9_shipAt_40 : decode cX9_shipAt 40 = .ok (.iload_n 3, 1) := by decide +kernel
theorem dX9_shipAt_41 : decode cX9_shipAt 41 = .ok (.ireturn, 1) := by decide +kernel
theorem dX9_shipAt_42 : decode cX9_shipAt 42 = .ok (.iinc 3 1, 3) := by decide +kernel
theorem dX9_shipAt_45 : decode cX9_shipAt 45 = .ok (.goto (-43), 3) := by decide +kernel
theorem dX9_shipAt_48 : decode cX9_shipAt 48 = .ok (.iconst (-1), 1) := by decide +kernel
theorem dX9_shipAt_49 : decode cX9_shipAt 49 = .ok (.ireturn, 1) := by decide +kernel
theorem dX9_angle_0 : decode cX9_angle 0 = .ok (.iload_n 0, 1) := by decide +kernel
theorem dX9_angle_1 : decode cX9_angle 1 = .ok (.iload_n 1, 1) := by decide +kernel
theorem dX9_angle_2 : decode cX9_angle 2 = .ok (.isub, 1) := by decide +kernel
theorem dX9_angle_3 : decode cX9_angle 3 = .ok (.bipush 8, 2) := by decide +kernel
theorem dX9_angle_5 : decode cX9_angle 5 = .ok (.invokestatic 219, 3) := by decide +kernel
theorem dX9_angle_8 : decode cX9_angle 8 = .ok (.istore_n 2, 1) := by decide +kernel
theorem dX9_angle_9 : decode cX9_angle 9 = .ok (.iload_n 2, 1) := by decide +kernel
theorem dX9_angle_10 : decode cX9_angle 10 = .ok (.bipush 8, 2) := by decide +kernel
theorem dX9_angle_12 : decode cX9_angle 12 = .ok (.iload_n 2, 1) := by decide +kernel
theorem dX9_angle_13 : decode cX9_angle 13 = .ok (.isub, 1) := by decide +kernel
theorem dX9_angle_14 : decode cX9_angle 14 = .ok (.invokestatic 114, 3) := by decide +kernel
theorem dX9_angle_17 : decode cX9_angle 17 = .ok (.ireturn, 1) := by decide +kernel
theorem dX9_factor_0 : decode cX9_factor 0 = .ok (.iload_n 0, 1) := by decide +kernel
theorem dX9_factor_1 : decode cX9_factor 1 = .ok (.tableswitch 37 0 3 #[31, 33, 37, 35], 31) := by decide +kernel
theorem dX9_factor_32 : decode cX9_factor 32 = .ok (.iconst 0, 1) := by decide +kernel
theorem dX9_factor_33 : decode cX9_factor 33 = .ok (.ireturn, 1) := by decide +kernel
theorem dX9_factor_34 : decode cX9_factor 34 = .ok (.iconst 1, 1) := by decide +kernel
theorem dX9_factor_35 : decode cX9_factor 35 = .ok (.ireturn, 1) := by decide +kernel
theorem dX9_factor_36 : decode cX9_factor 36 = .ok (.iconst 4, 1) := by decide +kernel
theorem dX9_factor_37 : decode cX9_factor 37 = .ok (.ireturn, 1) := by decide +kernel
theorem dX9_factor_38 : decode cX9_factor 38 = .ok (.iconst 3, 1) := by decide +kernel
theorem dX9_factor_39 : decode cX9_factor 39 = .ok (.ireturn, 1) := by decide +kernel
theorem dX9_hurt_0 : decode cX9_hurt 0 = .ok (.iload_n 0, 1) := by decide +kernel
theorem dX9_hurt_1 : decode cX9_hurt 1 = .ok (.iconst 2, 1) := by decide +kernel
theorem dX9_hurt_2 : decode cX9_hurt 2 = .ok (.if_icmp .ge 7, 3) := by decide +kernel
theorem dX9_hurt_5 : decode cX9_hurt 5 = .ok (.iconst 1, 1) := by decide +kernel
theorem dX9_hurt_6 : decode cX9_hurt 6 = .ok (.goto 13, 3) := by decide +kernel
theorem dX9_hurt_9 : decode cX9_hurt 9 = .ok (.iload_n 0, 1) := by decide +kernel
theorem dX9_hurt_10 : decode cX9_hurt 10 = .ok (.iconst 2, 1) := by decide +kernel
theorem dX9_hurt_11 : decode cX9_hurt 11 = .ok (.if_icmp .ne 7, 3) := by decide +kernel
theorem dX9_hurt_14 : decode cX9_hurt 14 = .ok (.iconst 3, 1) := by decide +kernel
theorem dX9_hurt_15 : decode cX9_hurt 15 = .ok (.goto 4, 3) := by decide +kernel
theorem dX9_hurt_18 : decode cX9_hurt 18 = .ok (.iconst 2, 1) := by decide +kernel
theorem dX9_hurt_19 : decode cX9_hurt 19 = .ok (.ireturn, 1) := by decide +kernel
theorem dX9_gainOf_0 : decode cX9_gainOf 0 = .ok (.aload_n 0, 1) := by decide +kernel
theorem dX9_gainOf_1 : decode cX9_gainOf 1 = .ok (.iload_n 1, 1) := by decide +kernel
theorem dX9_gainOf_2 : decode cX9_gainOf 2 = .ok (.bipush 6, 2) := by decide +kernel
theorem dX9_gainOf_4 : decode cX9_gainOf 4 = .ok (.invokevirtual 213, 3) := by decide +kernel
theorem dX9_gainOf_7 : decode cX9_gainOf 7 = .ok (.aload_n 0, 1) := by decide +kernel
theorem dX9_gainOf_8 : decode cX9_gainOf 8 = .ok (.getfield 7, 3) := by decide +kernel
theorem dX9_gainOf_11 : decode cX9_gainOf 11 = .ok (.bipush 6, 2) := by decide +kernel
theorem dX9_gainOf_13 : decode cX9_gainOf 13 = .ok (.iaload, 1) := by decide +kernel
theorem dX9_gainOf_14 : decode cX9_gainOf 14 = .ok (.imul, 1) := by decide +kernel
theorem dX9_gainOf_15 : decode cX9_gainOf 15 = .ok (.iload_n 2, 1) := by decide +kernel
theorem dX9_gainOf_16 : decode cX9_gainOf 16 = .ok (.aload_n 0, 1) := by decide +kernel
theorem dX9_gainOf_17 : decode cX9_gainOf 17 = .ok (.getfield 7, 3) := by decide +kernel
theorem dX9_gainOf_20 : decode cX9_gainOf 20 = .ok (.iconst 5, 1) := by decide +kernel
theorem dX9_gainOf_21 : decode cX9_gainOf 21 = .ok (.iaload, 1) := by decide +kernel
theorem dX9_gainOf_22 : decode cX9_gainOf 22 = .ok (.invokestatic 222, 3) := by decide +kernel
theorem dX9_gainOf_25 : decode cX9_gainOf 25 = .ok (.invokestatic 225, 3) := by decide +kernel
theorem dX9_gainOf_28 : decode cX9_gainOf 28 = .ok (.imul, 1) := by decide +kernel
theorem dX9_gainOf_29 : decode cX9_gainOf 29 = .ok (.ireturn, 1) := by decide +kernel
theorem dX9_shiftOf_0 : decode cX9_shiftOf 0 = .ok (.iconst 0, 1) := by decide +kernel
theorem dX9_shiftOf_1 : decode cX9_shiftOf 1 = .ok (.istore_n 2, 1) := by decide +kernel
theorem dX9_shiftOf_2 : decode cX9_shiftOf 2 = .ok (.iload_n 2, 1) := by decide +kernel
theorem dX9_shiftOf_3 : decode cX9_shiftOf 3 = .ok (.aload_n 0, 1) := by decide +kernel
theorem dX9_shiftOf_4 : decode cX9_shiftOf 4 = .ok (.getfield 7, 3) := by decide +kernel
theorem dX9_shiftOf_7 : decode cX9_shiftOf 7 = .ok (.bipush 9, 2) := by decide +kernel
theorem dX9_shiftOf_9 : decode cX9_shiftOf 9 = .ok (.iaload, 1) := by decide +kernel
theorem dX9_shiftOf_10 : decode cX9_shiftOf 10 = .ok (.if_icmp .ge 31, 3) := by decide +kernel
theorem dX9_shiftOf_13 : decode cX9_shiftOf 13 = .ok (.aload_n 0, 1) := by decide +kernel
theorem dX9_shiftOf_14 : decode cX9_shiftOf 14 = .ok (.getfield 7, 3) := by decide +kernel
theorem dX9_shiftOf_17 : decode cX9_shiftOf 17 = .ok (.bipush 10, 2) := by decide +kernel
theorem dX9_shiftOf_19 : decode cX9_shiftOf 19 = .ok (.iconst 3, 1) := by decide +kernel
theorem dX9_shiftOf_20 : decode cX9_shiftOf 20 = .ok (.iload_n 2, 1) := by decide +kernel
theorem dX9_shiftOf_21 : decode cX9_shiftOf 21 = .ok (.imul, 1) := by decide +kernel
theorem dX9_shiftOf_22 : decode cX9_shiftOf 22 = .ok (.iadd, 1) := by decide +kernel
theorem dX9_shiftOf_23 : decode cX9_shiftOf 23 = .ok (.iaload, 1) := by decide +kernel
theorem dX9_shiftOf_24 : decode cX9_shiftOf 24 = .ok (.iload_n 1, 1) := by decide +kernel
theorem dX9_shiftOf_25 : decode cX9_shiftOf 25 = .ok (.if_icmp .ne 10, 3) := by decide +kernel
theorem dX9_shiftOf_28 : decode cX9_shiftOf 28 = .ok (.bipush 10, 2) := by decide +kernel
theorem dX9_shiftOf_30 : decode cX9_shiftOf 30 = .ok (.iconst 3, 1) := by decide +kernel
theorem dX9_shiftOf_31 : decode cX9_shiftOf 31 = .ok (.iload_n 2, 1) := by decide +kernel
theorem dX9_shiftOf_32 : decode cX9_shiftOf 32 = .ok (.imul, 1) := by decide +kernel
theorem dX9_shiftOf_33 : decode cX9_shiftOf 33 = .ok (.iadd, 1) := by decide +kernel
theorem dX9_shiftOf_34 : decode cX9_shiftOf 34 = .ok (.ireturn, 1) := by decide +kernel
theorem dX9_shiftOf_35 : decode cX9_shiftOf 35 = .ok (.iinc 2 1, 3) := by decide +kernel
theorem dX9_shiftOf_38 : decode cX9_shiftOf 38 = .ok (.goto (-36), 3) := by decide +kernel
theorem dX9_shiftOf_41 : decode cX9_shiftOf 41 = .ok (.iconst (-1), 1) := by decide +kernel
theorem dX9_shiftOf_42 : decode cX9_shiftOf 42 = .ok (.ireturn, 1) := by decide +kernel
theorem dX9_shifts_0 : decode cX9_shifts 0 = .ok (.aload_n 0, 1) := by decide +kernel
theorem dX9_shifts_1 : decode cX9_shifts 1 = .ok (.aload_n 0, 1) := by decide +kernel
theorem dX9_shifts_2 : decode cX9_shifts 2 = .ok (.getfield 7, 3) := by decide +kernel
theorem dX9_shifts_5 : decode cX9_shifts 5 = .ok (.iconst 4, 1) := by decide +kernel
theorem dX9_shifts_6 : decode cX9_shifts 6 = .ok (.iaload, 1) := by decide +kernel
theorem dX9_shifts_7 : decode cX9_shifts 7 = .ok (.invokevirtual 150, 3) := by decide +kernel
theorem dX9_shifts_10 : decode cX9_shifts 10 = .ok (.istore_n 1, 1) := by decide +kernel
theorem dX9_shifts_11 : decode cX9_shifts 11 = .ok (.iload_n 1, 1) := by decide +kernel
theorem dX9_shifts_12 : decode cX9_shifts 12 = .ok (.iconst (-1), 1) := by decide +kernel
theorem dX9_shifts_13 : decode cX9_shifts 13 = .ok (.if_icmp .ne 4, 3) := by decide +kernel
theorem dX9_shifts_16 : decode cX9_shifts 16 = .ok (.return_, 1) := by decide +kernel
theorem dX9_shifts_17 : decode cX9_shifts 17 = .ok (.aload_n 0, 1) := by decide +kernel
theorem dX9_shifts_18 : decode cX9_shifts 18 = .ok (.getfield 7, 3) := by decide +kernel
theorem dX9_shifts_21 : decode cX9_shifts 21 = .ok (.iconst 5, 1) := by decide +kernel
theorem dX9_shifts_22 : decode cX9_shifts 22 = .ok (.aload_n 0, 1) := by decide +kernel
theorem dX9_shifts_23 : decode cX9_shifts 23 = .ok (.getfield 7, 3) := by decide +kernel
theorem dX9_shifts_26 : decode cX9_shifts 26 = .ok (.iload_n 1, 1) := by decide +kernel
theorem dX9_shifts_27 : decode cX9_shifts 27 = .ok (.iconst 1, 1) := by decide +kernel
theorem dX9_shifts_28 : decode cX9_shifts 28 = .ok (.iadd, 1) := by decide +kernel
theorem dX9_shifts_29 : decode cX9_shifts 29 = .ok (.iaload, 1) := by decide +kernel
theorem dX9_shifts_30 : decode cX9_shifts 30 = .ok (.iastore, 1) := by decide +kernel
theorem dX9_shifts_31 : decode cX9_shifts 31 = .ok (.aload_n 0, 1) := by decide +kernel
theorem dX9_shifts_32 : decode cX9_shifts 32 = .ok (.getfield 7, 3) := by decide +kernel
theorem dX9_shifts_35 : decode cX9_shifts 35 = .ok (.bipush 6, 2) := by decide +kernel
theorem dX9_shifts_37 : decode cX9_shifts 37 = .ok (.aload_n 0, 1) := by decide +kernel
theorem dX9_shifts_38 : decode cX9_shifts 38 = .ok (.getfield 7, 3) := by decide +kernel
theorem dX9_shifts_41 : decode cX9_shifts 41 = .ok (.iload_n 1, 1) := by decide +kernel
theorem dX9_shifts_42 : decode cX9_shifts 42 = .ok (.iconst 2, 1) := by decide +kernel
theorem dX9_shifts_43 : decode cX9_shifts 43 = .ok (.iadd, 1) := by decide +kernel
theorem dX9_shifts_44 : decode cX9_shifts 44 = .ok (.iaload, 1) := by decide +kernel
theorem dX9_shifts_45 : decode cX9_shifts 45 = .ok (.iastore, 1) := by decide +kernel
theorem dX9_shifts_46 : decode cX9_shifts 46 = .ok (.return_, 1) := by decide +kernel
theorem dX9_columnWay_0 : decode cX9_columnWay 0 = .ok (.iload_n 0, 1) := by decide +kernel
theorem dX9_columnWay_1 : decode cX9_columnWay 1 = .ok (.iconst 4, 1) := by decide +kernel
theorem dX9_columnWay_2 : decode cX9_columnWay 2 = .ok (.irem, 1) := by decide +kernel
theorem dX9_columnWay_3 : decode cX9_columnWay 3 = .ok (.ifCond .ne 7, 3) := by decide +kernel
theorem dX9_columnWay_6 : decode cX9_columnWay 6 = .ok (.iconst 0, 1) := by decide +kernel
theorem dX9_columnWay_7 : decode cX9_columnWay 7 = .ok (.goto 13, 3) := by decide +kernel
theorem dX9_columnWay_10 : decode cX9_columnWay 10 = .ok (.iload_n 0, 1) := by decide +kernel
theorem dX9_columnWay_11 : decode cX9_columnWay 11 = .ok (.iconst 4, 1) := by decide +kernel
theorem dX9_columnWay_12 : decode cX9_columnWay 12 = .ok (.if_icmp .ge 7, 3) := by decide +kernel
theorem dX9_columnWay_15 : decode cX9_columnWay 15 = .ok (.iconst 1, 1) := by decide +kernel
theorem dX9_columnWay_16 : decode cX9_columnWay 16 = .ok (.goto 4, 3) := by decide +kernel
theorem dX9_columnWay_19 : decode cX9_columnWay 19 = .ok (.iconst (-1), 1) := by decide +kernel
theorem dX9_columnWay_20 : decode cX9_columnWay 20 = .ok (.ireturn, 1) := by decide +kernel
theorem dX9_rowWay_0 : decode cX9_rowWay 0 = .ok (.iload_n 0, 1) := by decide +kernel
theorem dX9_rowWay_1 : decode cX9_rowWay 1 = .ok (.iconst 4, 1) := by decide +kernel
theorem dX9_rowWay_2 : decode cX9_rowWay 2 = .ok (.irem, 1) := by decide +kernel
theorem dX9_rowWay_3 : decode cX9_rowWay 3 = .ok (.iconst 2, 1) := by decide +kernel
theorem dX9_rowWay_4 : decode cX9_rowWay 4 = .ok (.if_icmp .ne 7, 3) := by decide +kernel
theorem dX9_rowWay_7 : decode cX9_rowWay 7 = .ok (.iconst 0, 1) := by decide +kernel
theorem dX9_rowWay_8 : decode cX9_rowWay 8 = .ok (.goto 17, 3) := by decide +kernel
theorem dX9_rowWay_11 : decode cX9_rowWay 11 = .ok (.iload_n 0, 1) := by decide +kernel
theorem dX9_rowWay_12 : decode cX9_rowWay 12 = .ok (.iconst 3, 1) := by decide +kernel
theorem dX9_rowWay_13 : decode cX9_rowWay 13 = .ok (.iconst 5, 1) := by decide +kernel
theorem dX9_rowWay_14 : decode cX9_rowWay 14 = .ok (.invokestatic 76, 3) := by decide +kernel
theorem dX9_rowWay_17 : decode cX9_rowWay 17 = .ok (.ifCond .eq 7, 3) := by decide +kernel
theorem dX9_rowWay_20 : decode cX9_rowWay 20 = .ok (.iconst 1, 1) := by decide +kernel
theorem dX9_rowWay_21 : decode cX9_rowWay 21 = .ok (.goto 4, 3) := by decide +kernel
theorem dX9_rowWay_24 : decode cX9_rowWay 24 = .ok (.iconst (-1), 1) := by decide +kernel
theorem dX9_rowWay_25 : decode cX9_rowWay 25 = .ok (.ireturn, 1) := by decide +kernel
theorem dX9_goes_0 : decode cX9_goes 0 = .ok (.aload_n 0, 1) := by decide +kernel
theorem dX9_goes_1 : decode cX9_goes 1 = .ok (.iload_n 1, 1) := by decide +kernel
theorem dX9_goes_2 : decode cX9_goes 2 = .ok (.bipush 9, 2) := by decide +kernel
theorem dX9_goes_4 : decode cX9_goes 4 = .ok (.iconst 4, 1) := by decide +kernel
theorem dX9_goes_5 : decode cX9_goes 5 = .ok (.aload_n 0, 1) := by decide +kernel
theorem dX9_goes_6 : decode cX9_goes 6 = .ok (.iload_n 1, 1) := by decide +kernel
theorem dX9_goes_7 : decode cX9_goes 7 = .ok (.bipush 9, 2) := by decide +kernel
theorem dX9_goes_9 : decode cX9_goes 9 = .ok (.invokevirtual 213, 3) := by decide +kernel
theorem dX9_goes_12 : decode cX9_goes 12 = .ok (.iconst 1, 1) := by decide +kernel
theorem dX9_goes_13 : decode cX9_goes 13 = .ok (.iadd, 1) := by decide +kernel
theorem dX9_goes_14 : decode cX9_goes 14 = .ok (.invokestatic 114, 3) := by decide +kernel
theorem dX9_goes_17 : decode cX9_goes 17 = .ok (.invokevirtual 228, 3) := by decide +kernel
theorem dX9_goes_20 : decode cX9_goes 20 = .ok (.iload_n 2, 1) := by decide +kernel
theorem dX9_goes_21 : decode cX9_goes 21 = .ok (.iconst 2, 1) := by decide +kernel
theorem dX9_goes_22 : decode cX9_goes 22 = .ok (.if_icmp .eq 8, 3) := by decide +kernel
theorem dX9_goes_25 : decode cX9_goes 25 = .ok (.iload_n 2, 1) := by decide +kernel
theorem dX9_goes_26 : decode cX9_goes 26 = .ok (.iconst 3, 1) := by decide +kernel
theorem dX9_goes_27 : decode cX9_goes 27 = .ok (.if_icmp .ne 55, 3) := by decide +kernel
theorem dX9_goes_30 : decode cX9_goes 30 = .ok (.aload_n 0, 1) := by decide +kernel
theorem dX9_goes_31 : decode cX9_goes 31 = .ok (.iload_n 1, 1) := by decide +kernel
theorem dX9_goes_32 : decode cX9_goes 32 = .ok (.bipush 9, 2) := by decide +kernel
theorem dX9_goes_34 : decode cX9_goes 34 = .ok (.invokevirtual 213, 3) := by decide +kernel
theorem dX9_goes_37 : decode cX9_goes 37 = .ok (.aload_n 0, 1) := by decide +kernel
theorem dX9_goes_38 : decode cX9_goes 38 = .ok (.iload_n 1, 1) := by decide +kernel
theorem dX9_goes_39 : decode cX9_goes 39 = .ok (.bipush 7, 2) := by decide +kernel
theorem dX9_goes_41 : decode cX9_goes 41 = .ok (.invokevirtual 213, 3) := by decide +kernel
theorem dX9_goes_44 : decode cX9_goes 44 = .ok (.if_icmp .le 38, 3) := by decide +kernel
theorem dX9_goes_47 : decode cX9_goes 47 = .ok (.aload_n 0, 1) := by decide +kernel
theorem dX9_goes_48 : decode cX9_goes 48 = .ok (.iload_n 1, 1) := by decide +kernel
theorem dX9_goes_49 : decode cX9_goes 49 = .ok (.iconst 3, 1) := by decide +kernel
theorem dX9_goes_50 : decode cX9_goes 50 = .ok (.aload_n 0, 1) := by decide +kernel
theorem dX9_goes_51 : decode cX9_goes 51 = .ok (.iload_n 1, 1) := by decide +kernel
theorem dX9_goes_52 : decode cX9_goes 52 = .ok (.iconst 3, 1) := by decide +kernel
theorem dX9_goes_53 : decode cX9_goes 53 = .ok (.invokevirtual 213, 3) := by decide +kernel
theorem dX9_goes_56 : decode cX9_goes 56 = .ok (.iload_n 2, 1) := by decide +kernel
theorem dX9_goes_57 : decode cX9_goes 57 = .ok (.iconst 2, 1) := by decide +kernel
theorem dX9_goes_58 : decode cX9_goes 58 = .ok (.if_icmp .ne 8, 3) := by decide +kernel
theorem dX9_goes_61 : decode cX9_goes 61 = .ok (.bipush 7, 2) := by decide +kernel
theorem dX9_goes_63 : decode cX9_goes 63 = .ok (.goto 4, 3) := by decide +kernel
theorem dX9_goes_66 : decode cX9_goes 66 = .ok (.iconst 1, 1) := by decide +kernel
theorem dX9_goes_67 : decode cX9_goes 67 = .ok (.iadd, 1) := by decide +kernel
theorem dX9_goes_68 : decode cX9_goes 68 = .ok (.bipush 8, 2) := by decide +kernel
theorem dX9_goes_70 : decode cX9_goes 70 = .ok (.irem, 1) := by decide +kernel
theorem dX9_goes_71 : decode cX9_goes 71 = .ok (.invokevirtual 228, 3) := by decide +kernel
theorem dX9_goes_74 : decode cX9_goes 74 = .ok (.aload_n 0, 1) := by decide +kernel
theorem dX9_goes_75 : decode cX9_goes 75 = .ok (.iload_n 1, 1) := by decide +kernel
theorem dX9_goes_76 : decode cX9_goes 76 = .ok (.bipush 9, 2) := by decide +kernel
theorem dX9_goes_78 : decode cX9_goes 78 = .ok (.iconst 0, 1) := by decide +kernel
theorem dX9_goes_79 : decode cX9_goes 79 = .ok (.invokevirtual 228, 3) := by decide +kernel
theorem dX9_goes_82 : decode cX9_goes 82 = .ok (.iload_n 2, 1) := by decide +kernel
theorem dX9_goes_83 : decode cX9_goes 83 = .ok (.iconst 4, 1) := by decide +kernel
theorem dX9_goes_84 : decode cX9_goes 84 = .ok (.if_icmp .ne 5, 3) := by decide +kernel
theorem dX9_goes_87 : decode cX9_goes 87 = .ok (.iconst 0, 1) := by decide +kernel
theorem dX9_goes_88 : decode cX9_goes 88 = .ok (.ireturn, 1) := by decide +kernel
theorem dX9_goes_89 : decode cX9_goes 89 = .ok (.aload_n 0, 1) := by decide +kernel
theorem dX9_goes_90 : decode cX9_goes 90 = .ok (.iload_n 1, 1) := by decide +kernel
theorem dX9_goes_91 : decode cX9_goes 91 = .ok (.bipush 8, 2) := by decide +kernel
theorem dX9_goes_93 : decode cX9_goes 93 = .ok (.sipush 180, 3) := by decide +kernel
theorem dX9_goes_96 : decode cX9_goes 96 = .ok (.aload_n 0, 1) := by decide +kernel
theorem dX9_goes_97 : decode cX9_goes 97 = .ok (.iload_n 1, 1) := by decide +kernel
theorem dX9_goes_98 : decode cX9_goes 98 = .ok (.bipush 8, 2) := by decide +kernel
theorem dX9_goes_100 : decode cX9_goes 100 = .ok (.invokevirtual 213, 3) := by decide +kernel
theorem dX9_goes_103 : decode cX9_goes 103 = .ok (.aload_n 0, 1) := by decide +kernel
theorem dX9_goes_104 : decode cX9_goes 104 = .ok (.iload_n 1, 1) := by decide +kernel
theorem dX9_goes_105 : decode cX9_goes 105 = .ok (.aload_n 0, 1) := by decide +kernel
theorem dX9_goes_106 : decode cX9_goes 106 = .ok (.iload_n 1, 1) := by decide +kernel
theorem dX9_goes_107 : decode cX9_goes 107 = .ok (.iconst 3, 1) := by decide +kernel
theorem dX9_goes_108 : decode cX9_goes 108 = .ok (.invokevirtual 213, 3) := by decide +kernel
theorem dX9_goes_111 : decode cX9_goes 111 = .ok (.invokevirtual 232, 3) := by decide +kernel
theorem dX9_goes_114 : decode cX9_goes 114 = .ok (.iadd, 1) := by decide +kernel
theorem dX9_goes_115 : decode cX9_goes 115 = .ok (.invokestatic 114, 3) := by decide +kernel
theorem dX9_goes_118 : decode cX9_goes 118 = .ok (.invokevirtual 228, 3) := by decide +kernel
theorem dX9_goes_121 : decode cX9_goes 121 = .ok (.aload_n 0, 1) := by decide +kernel
theorem dX9_goes_122 : decode cX9_goes 122 = .ok (.iload_n 1, 1) := by decide +kernel
theorem dX9_goes_123 : decode cX9_goes 123 = .ok (.bipush 8, 2) := by decide +kernel
theorem dX9_goes_125 : decode cX9_goes 125 = .ok (.invokevirtual 213, 3) := by decide +kernel
theorem dX9_goes_128 : decode cX9_goes 128 = .ok (.bipush 90, 2) := by decide +kernel
theorem dX9_goes_130 : decode cX9_goes 130 = .ok (.if_icmp .ge 5, 3) := by decide +kernel
theorem dX9_goes_133 : decode cX9_goes 133 = .ok (.iconst 0, 1) := by decide +kernel
theorem dX9_goes_134 : decode cX9_goes 134 = .ok (.ireturn, 1) := by decide +kernel
theorem dX9_goes_135 : decode cX9_goes 135 = .ok (.aload_n 0, 1) := by decide +kernel
theorem dX9_goes_136 : decode cX9_goes 136 = .ok (.getfield 42, 3) := by decide +kernel
theorem dX9_goes_139 : decode cX9_goes 139 = .ok (.iload_n 1, 1) := by decide +kernel
theorem dX9_goes_140 : decode cX9_goes 140 = .ok (.aload_n 0, 1) := by decide +kernel
theorem dX9_goes_141 : decode cX9_goes 141 = .ok (.iload_n 1, 1) := by decide +kernel
theorem dX9_goes_142 : decode cX9_goes 142 = .ok (.iconst 1, 1) := by decide +kernel
theorem dX9_goes_143 : decode cX9_goes 143 = .ok (.invokevirtual 213, 3) := by decide +kernel
theorem dX9_goes_146 : decode cX9_goes 146 = .ok (.aload_n 0, 1) := by decide +kernel
theorem dX9_goes_147 : decode cX9_goes 147 = .ok (.iload_n 1, 1) := by decide +kernel
theorem dX9_goes_148 : decode cX9_goes 148 = .ok (.iconst 3, 1) := by decide +kernel
theorem dX9_goes_149 : decode cX9_goes 149 = .ok (.invokevirtual 213, 3) := by decide +kernel
theorem dX9_goes_152 : decode cX9_goes 152 = .ok (.invokestatic 235, 3) := by decide +kernel
theorem dX9_goes_155 : decode cX9_goes 155 = .ok (.iadd, 1) := by decide +kernel
theorem dX9_goes_156 : decode cX9_goes 156 = .ok (.iastore, 1) := by decide +kernel
theorem dX9_goes_157 : decode cX9_goes 157 = .ok (.aload_n 0, 1) := by decide +kernel
theorem dX9_goes_158 : decode cX9_goes 158 = .ok (.getfield 45, 3) := by decide +kernel
theorem dX9_goes_161 : decode cX9_goes 161 = .ok (.iload_n 1, 1) := by decide +kernel
theorem dX9_goes_162 : decode cX9_goes 162 = .ok (.aload_n 0, 1) := by decide +kernel
theorem dX9_goes_163 : decode cX9_goes 163 = .ok (.iload_n 1, 1) := by decide +kernel
theorem dX9_goes_164 : decode cX9_goes 164 = .ok (.iconst 2, 1) := by decide +kernel
theorem dX9_goes_165 : decode cX9_goes 165 = .ok (.invokevirtual 213, 3) := by decide +kernel
theorem dX9_goes_168 : decode cX9_goes 168 = .ok (.aload_n 0, 1) := by decide +kernel
theorem dX9_goes_169 : decode cX9_goes 169 = .ok (.iload_n 1, 1) := by decide +kernel
theorem dX9_goes_170 : decode cX9_goes 170 = .ok (.iconst 3, 1) := by decide +kernel
theorem dX9_goes_171 : decode cX9_goes 171 = .ok (.invokevirtual 213, 3) := by decide +kernel
theorem dX9_goes_174 : decode cX9_goes 174 = .ok (.invokestatic 238, 3) := by decide +kernel
theorem dX9_goes_177 : decode cX9_goes 177 = .ok (.iadd, 1) := by decide +kernel
theorem dX9_goes_178 : decode cX9_goes 178 = .ok (.iastore, 1) := by decide +kernel
theorem dX9_goes_179 : decode cX9_goes 179 = .ok (.aload_n 0, 1) := by decide +kernel
theorem dX9_goes_180 : decode cX9_goes 180 = .ok (.getfield 42, 3) := by decide +kernel
theorem dX9_goes_183 : decode cX9_goes 183 = .ok (.iload_n 1, 1) := by decide +kernel
theorem dX9_goes_184 : decode cX9_goes 184 = .ok (.iaload, 1) := by decide +kernel
theorem dX9_goes_185 : decode cX9_goes 185 = .ok (.iconst 0, 1) := by decide +kernel
theorem dX9_goes_186 : decode cX9_goes 186 = .ok (.aload_n 0, 1) := by decide +kernel
theorem dX9_goes_187 : decode cX9_goes 187 = .ok (.getfield 7, 3) := by decide +kernel
theorem dX9_goes_190 : decode cX9_goes 190 = .ok (.iconst 0, 1) := by decide +kernel
theorem dX9_goes_191 : decode cX9_goes 191 = .ok (.iaload, 1) := by decide +kernel
theorem dX9_goes_192 : decode cX9_goes 192 = .ok (.iconst 1, 1) := by decide +kernel
theorem dX9_goes_193 : decode cX9_goes 193 = .ok (.isub, 1) := by decide +kernel
theorem dX9_goes_194 : decode cX9_goes 194 = .ok (.invokestatic 76, 3) := by decide +kernel
theorem dX9_goes_197 : decode cX9_goes 197 = .ok (.ifCond .eq 26, 3) := by decide +kernel
theorem dX9_goes_200 : decode cX9_goes 200 = .ok (.aload_n 0, 1) := by decide +kernel
theorem dX9_goes_201 : decode cX9_goes 201 = .ok (.getfield 45, 3) := by decide +kernel
theorem dX9_goes_204 : decode cX9_goes 204 = .ok (.iload_n 1, 1) := by decide +kernel
theorem dX9_goes_205 : decode cX9_goes 205 = .ok (.iaload, 1) := by decide +kernel
theorem dX9_goes_206 : decode cX9_goes 206 = .ok (.iconst 0, 1) := by decide +kernel
theorem dX9_goes_207 : decode cX9_goes 207 = .ok (.aload_n 0, 1) := by decide +kernel
theorem dX9_goes_208 : decode cX9_goes 208 = .ok (.getfield 7, 3) := by decide +kernel
theorem dX9_goes_211 : decode cX9_goes 211 = .ok (.iconst 1, 1) := by decide +kernel
theorem dX9_goes_212 : decode cX9_goes 212 = .ok (.iaload, 1) := by decide +kernel
theorem dX9_goes_213 : decode cX9_goes 213 = .ok (.iconst 1, 1) := by decide +kernel
theorem dX9_goes_214 : decode cX9_goes 214 = .ok (.isub, 1) := by decide +kernel
theorem dX9_goes_215 : decode cX9_goes 215 = .ok (.invokestatic 76, 3) := by decide +kernel
theorem dX9_goes_218 : decode cX9_goes 218 = .ok (.ifCond .eq 5, 3) := by decide +kernel
theorem dX9_goes_221 : decode cX9_goes 221 = .ok (.iconst 1, 1) := by decide +kernel
theorem dX9_goes_222 : decode cX9_goes 222 = .ok (.ireturn, 1) := by decide +kernel
theorem dX9_goes_223 : decode cX9_goes 223 = .ok (.aload_n 0, 1) := by decide +kernel
theorem dX9_goes_224 : decode cX9_goes 224 = .ok (.iload_n 1, 1) := by decide +kernel
theorem dX9_goes_225 : decode cX9_goes 225 = .ok (.bipush 8, 2) := by decide +kernel
theorem dX9_goes_227 : decode cX9_goes 227 = .ok (.iconst 0, 1) := by decide +kernel
theorem dX9_goes_228 : decode cX9_goes 228 = .ok (.invokevirtual 228, 3) := by decide +kernel
theorem dX9_goes_231 : decode cX9_goes 231 = .ok (.iconst 0, 1) := by decide +kernel
theorem dX9_goes_232 : decode cX9_goes 232 = .ok (.ireturn, 1) := by decide +kernel
theorem dX9_goesWhere_0 : decode cX9_goesWhere 0 = .ok (.aload_n 0, 1) := by decide +kernel
theorem dX9_goesWhere_1 : decode cX9_goesWhere 1 = .ok (.getfield 39, 3) := by decide +kernel
theorem dX9_goesWhere_4 : decode cX9_goesWhere 4 = .ok (.iload_n 1, 1) := by decide +kernel
theorem dX9_goesWhere_5 : decode cX9_goesWhere 5 = .ok (.baload, 1) := by decide +kernel
theorem dX9_goesWhere_6 : decode cX9_goesWhere 6 = .ok (.ifCond .eq 37, 3) := by decide +kernel
theorem dX9_goesWhere_9 : decode cX9_goesWhere 9 = .ok (.aload_n 0, 1) := by decide +kernel
theorem dX9_goesWhere_10 : decode cX9_goesWhere 10 = .ok (.getfield 42, 3) := by decide +kernel
theorem dX9_goesWhere_13 : decode cX9_goesWhere 13 = .ok (.iload_n 1, 1) := by decide +kernel
theorem dX9_goesWhere_14 : decode cX9_goesWhere 14 = .ok (.iaload, 1) := by decide +kernel
theorem dX9_goesWhere_15 : decode cX9_goesWhere 15 = .ok (.aload_n 0, 1) := by decide +kernel
theorem dX9_goesWhere_16 : decode cX9_goesWhere 16 = .ok (.iload_n 2, 1) := by decide +kernel
theorem dX9_goesWhere_17 : decode cX9_goesWhere 17 = .ok (.iconst 1, 1) := by decide +kernel
theorem dX9_goesWhere_18 : decode cX9_goesWhere 18 = .ok (.invokevirtual 213, 3) := by decide +kernel
theorem dX9_goesWhere_21 : decode cX9_goesWhere 21 = .ok (.if_icmp .ne 22, 3) := by decide +kernel
theorem dX9_goesWhere_24 : decode cX9_goesWhere 24 = .ok (.aload_n 0, 1) := by decide +kernel
theorem dX9_goesWhere_25 : decode cX9_goesWhere 25 = .ok (.getfield 45, 3) := by decide +kernel
theorem dX9_goesWhere_28 : decode cX9_goesWhere 28 = .ok (.iload_n 1, 1) := by decide +kernel
theorem dX9_goesWhere_29 : decode cX9_goesWhere 29 = .ok (.iaload, 1) := by decide +kernel
theorem dX9_goesWhere_30 : decode cX9_goesWhere 30 = .ok (.aload_n 0, 1) := by decide +kernel
theorem dX9_goesWhere_31 : decode cX9_goesWhere 31 = .ok (.iload_n 2, 1) := by decide +kernel
theorem dX9_goesWhere_32 : decode cX9_goesWhere 32 = .ok (.iconst 2, 1) := by decide +kernel
theorem dX9_goesWhere_33 : decode cX9_goesWhere 33 = .ok (.invokevirtual 213, 3) := by decide +kernel
theorem dX9_goesWhere_36 : decode cX9_goesWhere 36 = .ok (.if_icmp .ne 7, 3) := by decide +kernel
theorem dX9_goesWhere_39 : decode cX9_goesWhere 39 = .ok (.iconst 1, 1) := by decide +kernel
theorem dX9_goesWhere_40 : decode cX9_goesWhere 40 = .ok (.goto 4, 3) := by decide +kernel
theorem dX9_goesWhere_43 : decode cX9_goesWhere 43 = .ok (.iconst 0, 1) := by decide +kernel
theorem dX9_goesWhere_44 : decode cX9_goesWhere 44 = .ok (.ireturn, 1) := by decide +kernel
theorem dX9_goToOne_0 : decode cX9_goToOne 0 = .ok (.aload_n 0, 1) := by decide +kernel
theorem dX9_goToOne_1 : decode cX9_goToOne 1 = .ok (.getfield 39, 3) := by decide +kernel
theorem dX9_goToOne_4 : decode cX9_goToOne 4 = .ok (.iload_n 1, 1) := by decide +kernel
theorem dX9_goToOne_5 : decode cX9_goToOne 5 = .ok (.baload, 1) := by decide +kernel
theorem dX9_goToOne_6 : decode cX9_goToOne 6 = .ok (.ifCond .eq 46, 3) := by decide +kernel
theorem dX9_goToOne_9 : decode cX9_goToOne 9 = .ok (.aload_n 0, 1) := by decide +kernel
theorem dX9_goToOne_10 : decode cX9_goToOne 10 = .ok (.getfield 39, 3) := by decide +kernel
theorem dX9_goToOne_13 : decode cX9_goToOne 13 = .ok (.iload_n 2, 1) := by decide +kernel
theorem dX9_goToOne_14 : decode cX9_goToOne 14 = .ok (.baload, 1) := by decide +kernel
theorem dX9_goToOne_15 : decode cX9_goToOne 15 = .ok (.ifCond .eq 37, 3) := by decide +kernel
theorem dX9_goToOne_18 : decode cX9_goToOne 18 = .ok (.aload_n 0, 1) := by decide +kernel
theorem dX9_goToOne_19 : decode cX9_goToOne 19 = .ok (.getfield 42, 3) := by decide +kernel
theorem dX9_goToOne_22 : decode cX9_goToOne 22 = .ok (.iload_n 1, 1) := by decide +kernel
theorem dX9_goToOne_23 : decode cX9_goToOne 23 = .ok (.iaload, 1) := by decide +kernel
theorem dX9_goToOne_24 : decode cX9_goToOne 24 = .ok (.aload_n 0, 1) := by decide +kernel
theorem dX9_goToOne_25 : decode cX9_goToOne 25 = .ok (.getfield 42, 3) := by decide +kernel
theorem dX9_goToOne_28 : decode cX9_goToOne 28 = .ok (.iload_n 2, 1) := by decide +kernel
theorem dX9_goToOne_29 : decode cX9_goToOne 29 = .ok (.iaload, 1) := by decide +kernel
theorem dX9_goToOne_30 : decode cX9_goToOne 30 = .ok (.if_icmp .ne 22, 3) := by decide +kernel
theorem dX9_goToOne_33 : decode cX9_goToOne 33 = .ok (.aload_n 0, 1) := by decide +kernel
theorem dX9_goToOne_34 : decode cX9_goToOne 34 = .ok (.getfield 45, 3) := by decide +kernel
theorem dX9_goToOne_37 : decode cX9_goToOne 37 = .ok (.iload_n 1, 1) := by decide +kernel
theorem dX9_goToOne_38 : decode cX9_goToOne 38 = .ok (.iaload, 1) := by decide +kernel
theorem dX9_goToOne_39 : decode cX9_goToOne 39 = .ok (.aload_n 0, 1) := by decide +kernel
theorem dX9_goToOne_40 : decode cX9_goToOne 40 = .ok (.getfield 45, 3) := by decide +kernel
theorem dX9_goToOne_43 : decode cX9_goToOne 43 = .ok (.iload_n 2, 1) := by decide +kernel
theorem dX9_goToOne_44 : decode cX9_goToOne 44 = .ok (.iaload, 1) := by decide +kernel
theorem dX9_goToOne_45 : decode cX9_goToOne 45 = .ok (.if_icmp .ne 7, 3) := by decide +kernel
theorem dX9_goToOne_48 : decode cX9_goToOne 48 = .ok (.iconst 1, 1) := by decide +kernel
theorem dX9_goToOne_49 : decode cX9_goToOne 49 = .ok (.goto 4, 3) := by decide +kernel
theorem dX9_goToOne_52 : decode cX9_goToOne 52 = .ok (.iconst 0, 1) := by decide +kernel
theorem dX9_goToOne_53 : decode cX9_goToOne 53 = .ok (.ireturn, 1) := by decide +kernel
theorem dX9_clash_0 : decode cX9_clash 0 = .ok (.aload_n 0, 1) := by decide +kernel
theorem dX9_clash_1 : decode cX9_clash 1 = .ok (.iload_n 1, 1) := by decide +kernel
theorem dX9_clash_2 : decode cX9_clash 2 = .ok (.invokevirtual 216, 3) := by decide +kernel
theorem dX9_clash_5 : decode cX9_clash 5 = .ok (.ifCond .eq 11, 3) := by decide +kernel
theorem dX9_clash_8 : decode cX9_clash 8 = .ok (.aload_n 0, 1) := by decide +kernel
theorem dX9_clash_9 : decode cX9_clash 9 = .ok (.iload_n 2, 1) := by decide +kernel
theorem dX9_clash_10 : decode cX9_clash 10 = .ok (.invokevirtual 216, 3) := by decide +kernel
theorem dX9_clash_13 : decode cX9_clash 13 = .ok (.ifCond .ne 5, 3) := by decide +kernel
theorem dX9_clash_16 : decode cX9_clash 16 = .ok (.iconst 0, 1) := by decide +kernel
theorem dX9_clash_17 : decode cX9_clash 17 = .ok (.ireturn, 1) := by decide +kernel
theorem dX9_clash_18 : decode cX9_clash 18 = .ok (.aload_n 0, 1) := by decide +kernel
theorem dX9_clash_19 : decode cX9_clash 19 = .ok (.iload_n 1, 1) := by decide +kernel
theorem dX9_clash_20 : decode cX9_clash 20 = .ok (.iload_n 2, 1) := by decide +kernel
theorem dX9_clash_21 : decode cX9_clash 21 = .ok (.invokevirtual 241, 3) := by decide +kernel
theorem dX9_clash_24 : decode cX9_clash 24 = .ok (.ifCond .eq 5, 3) := by decide +kernel
theorem dX9_clash_27 : decode cX9_clash 27 = .ok (.iconst 1, 1) := by decide +kernel
theorem dX9_clash_28 : decode cX9_clash 28 = .ok (.ireturn, 1) := by decide +kernel
theorem dX9_clash_29 : decode cX9_clash 29 = .ok (.aload_n 0, 1) := by decide +kernel
theorem dX9_clash_30 : decode cX9_clash 30 = .ok (.getfield 39, 3) := by decide +kernel
theorem dX9_clash_33 : decode cX9_clash 33 = .ok (.iload_n 1, 1) := by decide +kernel
theorem dX9_clash_34 : decode cX9_clash 34 = .ok (.baload, 1) := by decide +kernel
theorem dX9_clash_35 : decode cX9_clash 35 = .ok (.ifCond .eq 36, 3) := by decide +kernel
theorem dX9_clash_38 : decode cX9_clash 38 = .ok (.aload_n 0, 1) := by decide +kernel
theorem dX9_clash_39 : decode cX9_clash 39 = .ok (.getfield 39, 3) := by decide +kernel
theorem dX9_clash_42 : decode cX9_clash 42 = .ok (.iload_n 2, 1) := by decide +kernel
theorem dX9_clash_43 : decode cX9_clash 43 = .ok (.baload, 1) := by decide +kernel
theorem dX9_clash_44 : decode cX9_clash 44 = .ok (.ifCond .eq 27, 3) := by decide +kernel
theorem dX9_clash_47 : decode cX9_clash 47 = .ok (.aload_n 0, 1) := by decide +kernel
theorem dX9_clash_48 : decode cX9_clash 48 = .ok (.iload_n 1, 1) := by decide +kernel
theorem dX9_clash_49 : decode cX9_clash 49 = .ok (.iload_n 2, 1) := by decide +kernel
theorem dX9_clash_50 : decode cX9_clash 50 = .ok (.invokevirtual 245, 3) := by decide +kernel
theorem dX9_clash_53 : decode cX9_clash 53 = .ok (.ifCond .eq 16, 3) := by decide +kernel
theorem dX9_clash_56 : decode cX9_clash 56 = .ok (.aload_n 0, 1) := by decide +kernel
theorem dX9_clash_57 : decode cX9_clash 57 = .ok (.iload_n 2, 1) := by decide +kernel
theorem dX9_clash_58 : decode cX9_clash 58 = .ok (.iload_n 1, 1) := by decide +kernel
theorem dX9_clash_59 : decode cX9_clash 59 = .ok (.invokevirtual 245, 3) := by decide +kernel
theorem dX9_clash_62 : decode cX9_clash 62 = .ok (.ifCond .eq 7, 3) := by decide +kernel
theorem dX9_clash_65 : decode cX9_clash 65 = .ok (.iconst 1, 1) := by decide +kernel
theorem dX9_clash_66 : decode cX9_clash 66 = .ok (.goto 4, 3) := by decide +kernel
theorem dX9_clash_69 : decode cX9_clash 69 = .ok (.iconst 0, 1) := by decide +kernel
theorem dX9_clash_70 : decode cX9_clash 70 = .ok (.ireturn, 1) := by decide +kernel
theorem dX9_clash_71 : decode cX9_clash 71 = .ok (.aload_n 0, 1) := by decide +kernel
theorem dX9_clash_72 : decode cX9_clash 72 = .ok (.iload_n 1, 1) := by decide +kernel
theorem dX9_clash_73 : decode cX9_clash 73 = .ok (.iload_n 2, 1) := by decide +kernel
theorem dX9_clash_74 : decode cX9_clash 74 = .ok (.invokevirtual 245, 3) := by decide +kernel
theorem dX9_clash_77 : decode cX9_clash 77 = .ok (.ifCond .ne 12, 3) := by decide +kernel
theorem dX9_clash_80 : decode cX9_clash 80 = .ok (.aload_n 0, 1) := by decide +kernel
theorem dX9_clash_81 : decode cX9_clash 81 = .ok (.iload_n 2, 1) := by decide +kernel
theorem dX9_clash_82 : decode cX9_clash 82 = .ok (.iload_n 1, 1) := by decide +kernel
theorem dX9_clash_83 : decode cX9_clash 83 = .ok (.invokevirtual 245, 3) := by decide +kernel
theorem dX9_clash_86 : decode cX9_clash 86 = .ok (.ifCond .eq 7, 3) := by decide +kernel
theorem dX9_clash_89 : decode cX9_clash 89 = .ok (.iconst 1, 1) := by decide +kernel
theorem dX9_clash_90 : decode cX9_clash 90 = .ok (.goto 4, 3) := by decide +kernel
theorem dX9_clash_93 : decode cX9_clash 93 = .ok (.iconst 0, 1) := by decide +kernel
theorem dX9_clash_94 : decode cX9_clash 94 = .ok (.ireturn, 1) := by decide +kernel
theorem dX9_firstClash_0 : decode cX9_firstClash 0 = .ok (.iconst 0, 1) := by decide +kernel
theorem dX9_firstClash_1 : decode cX9_firstClash 1 = .ok (.istore_n 1, 1) := by decide +kernel
theorem dX9_firstClash_2 : decode cX9_firstClash 2 = .ok (.iload_n 1, 1) := by decide +kernel
theorem dX9_firstClash_3 : decode cX9_firstClash 3 = .ok (.aload_n 0, 1) := by decide +kernel
theorem dX9_firstClash_4 : decode cX9_firstClash 4 = .ok (.getfield 7, 3) := by decide +kernel
theorem dX9_firstClash_7 : decode cX9_firstClash 7 = .ok (.iconst 3, 1) := by decide +kernel
theorem dX9_firstClash_8 : decode cX9_firstClash 8 = .ok (.iaload, 1) := by decide +kernel
theorem dX9_firstClash_9 : decode cX9_firstClash 9 = .ok (.if_icmp .ge 45, 3) := by decide +kernel
theorem dX9_firstClash_12 : decode cX9_firstClash 12 = .ok (.iload_n 1, 1) := by decide +kernel
theorem dX9_firstClash_13 : decode cX9_firstClash 13 = .ok (.iconst 1, 1) := by decide +kernel
theorem dX9_firstClash_14 : decode cX9_firstClash 14 = .ok (.iadd, 1) := by decide +kernel
theorem dX9_firstClash_15 : decode cX9_firstClash 15 = .ok (.istore_n 2, 1) := by decide +kernel
theorem dX9_firstClash_16 : decode cX9_firstClash 16 = .ok (.iload_n 2, 1) := by decide +kernel
theorem dX9_firstClash_17 : decode cX9_firstClash 17 = .ok (.aload_n 0, 1) := by decide +kernel
theorem dX9_firstClash_18 : decode cX9_firstClash 18 = .ok (.getfield 7, 3) := by decide +kernel
theorem dX9_firstClash_21 : decode cX9_firstClash 21 = .ok (.iconst 3, 1) := by decide +kernel
theorem dX9_firstClash_22 : decode cX9_firstClash 22 = .ok (.iaload, 1) := by decide +kernel
theorem dX9_firstClash_23 : decode cX9_firstClash 23 = .ok (.if_icmp .ge 25, 3) := by decide +kernel
theorem dX9_firstClash_26 : decode cX9_firstClash 26 = .ok (.aload_n 0, 1) := by decide +kernel
theorem dX9_firstClash_27 : decode cX9_firstClash 27 = .ok (.iload_n 1, 1) := by decide +kernel
theorem dX9_firstClash_28 : decode cX9_firstClash 28 = .ok (.iload_n 2, 1) := by decide +kernel
theorem dX9_firstClash_29 : decode cX9_firstClash 29 = .ok (.invokevirtual 248, 3) := by decide +kernel
theorem dX9_firstClash_32 : decode cX9_firstClash 32 = .ok (.ifCond .eq 10, 3) := by decide +kernel
theorem dX9_firstClash_35 : decode cX9_firstClash 35 = .ok (.bipush 12, 2) := by decide +kernel
theorem dX9_firstClash_37 : decode cX9_firstClash 37 = .ok (.iload_n 1, 1) := by decide +kernel
theorem dX9_firstClash_38 : decode cX9_firstClash 38 = .ok (.imul, 1) := by decide +kernel
theorem dX9_firstClash_39 : decode cX9_firstClash 39 = .ok (.iload_n 2, 1) := by decide +kernel
theorem dX9_firstClash_40 : decode cX9_firstClash 40 = .ok (.iadd, 1) := by decide +kernel
theorem dX9_firstClash_41 : decode cX9_firstClash 41 = .ok (.ireturn, 1) := by decide +kernel
theorem dX9_firstClash_42 : decode cX9_firstClash 42 = .ok (.iinc 2 1, 3) := by decide +kernel
theorem dX9_firstClash_45 : decode cX9_firstClash 45 = .ok (.goto (-29), 3) := by decide +kernel
theorem dX9_firstClash_48 : decode cX9_firstClash 48 = .ok (.iinc 1 1, 3) := by decide +kernel
theorem dX9_firstClash_51 : decode cX9_firstClash 51 = .ok (.goto (-49), 3) := by decide +kernel
theorem dX9_firstClash_54 : decode cX9_firstClash 54 = .ok (.iconst (-1), 1) := by decide +kernel
theorem dX9_firstClash_55 : decode cX9_firstClash 55 = .ok (.ireturn, 1) := by decide +kernel
theorem dX9_lossOf_0 : decode cX9_lossOf 0 = .ok (.aload_n 0, 1) := by decide +kernel
theorem dX9_lossOf_1 : decode cX9_lossOf 1 = .ok (.iload_n 1, 1) := by decide +kernel
theorem dX9_lossOf_2 : decode cX9_lossOf 2 = .ok (.iconst 3, 1) := by decide +kernel
theorem dX9_lossOf_3 : decode cX9_lossOf 3 = .ok (.invokevirtual 213, 3) := by decide +kernel
theorem dX9_lossOf_6 : decode cX9_lossOf 6 = .ok (.aload_n 0, 1) := by decide +kernel
theorem dX9_lossOf_7 : decode cX9_lossOf 7 = .ok (.iload_n 2, 1) := by decide +kernel
theorem dX9_lossOf_8 : decode cX9_lossOf 8 = .ok (.iconst 3, 1) := by decide +kernel
theorem dX9_lossOf_9 : decode cX9_lossOf 9 = .ok (.invokevirtual 213, 3) := by decide +kernel
theorem dX9_lossOf_12 : decode cX9_lossOf 12 = .ok (.invokestatic 222, 3) := by decide +kernel
theorem dX9_lossOf_15 : decode cX9_lossOf 15 = .ok (.invokestatic 251, 3) := by decide +kernel
theorem dX9_lossOf_18 : decode cX9_lossOf 18 = .ok (.istore_n 3, 1) := by decide +kernel
theorem dX9_lossOf_19 : decode cX9_lossOf 19 = .ok (.aload_n 0, 1) := by decide +kernel
theorem dX9_lossOf_20 : decode cX9_lossOf 20 = .ok (.getfield 39, 3) := by decide +kernel
theorem dX9_lossOf_23 : decode cX9_lossOf 23 = .ok (.iload_n 2, 1) := by decide +kernel
theorem dX9_lossOf_24 : decode cX9_lossOf 24 = .ok (.baload, 1) := by decide +kernel
theorem dX9_lossOf_25 : decode cX9_lossOf 25 = .ok (.ifCond .eq 14, 3) := by decide +kernel
theorem dX9_lossOf_28 : decode cX9_lossOf 28 = .ok (.aload_n 0, 1) := by decide +kernel
theorem dX9_lossOf_29 : decode cX9_lossOf 29 = .ok (.iload_n 2, 1) := by decide +kernel
theorem dX9_lossOf_30 : decode cX9_lossOf 30 = .ok (.iconst 5, 1) := by decide +kernel
theorem dX9_lossOf_31 : decode cX9_lossOf 31 = .ok (.invokevirtual 213, 3) := by decide +kernel
theorem dX9_lossOf_34 : decode cX9_lossOf 34 = .ok (.iload_n 3, 1) := by decide +kernel
theorem dX9_lossOf_35 : decode cX9_lossOf 35 = .ok (.imul, 1) := by decide +kernel
theorem dX9_lossOf_36 : decode cX9_lossOf 36 = .ok (.goto 4, 3) := by decide +kernel
theorem dX9_lossOf_39 : decode cX9_lossOf 39 = .ok (.iconst 0, 1) := by decide +kernel
theorem dX9_lossOf_40 : decode cX9_lossOf 40 = .ok (.aload_n 0, 1) := by decide +kernel
theorem dX9_lossOf_41 : decode cX9_lossOf 41 = .ok (.getfield 39, 3) := by decide +kernel
theorem dX9_lossOf_44 : decode cX9_lossOf 44 = .ok (.iload_n 1, 1) := by decide +kernel
theorem dX9_lossOf_45 : decode cX9_lossOf 45 = .ok (.baload, 1) := by decide +kernel
theorem dX9_lossOf_46 : decode cX9_lossOf 46 = .ok (.ifCond .eq 14, 3) := by decide +kernel
theorem dX9_lossOf_49 : decode cX9_lossOf 49 = .ok (.aload_n 0, 1) := by decide +kernel
theorem dX9_lossOf_50 : decode cX9_lossOf 50 = .ok (.iload_n 2, 1) := by decide +kernel
theorem dX9_lossOf_51 : decode cX9_lossOf 51 = .ok (.iconst 5, 1) := by decide +kernel
theorem dX9_lossOf_52 : decode cX9_lossOf 52 = .ok (.invokevirtual 213, 3) := by decide +kernel
theorem dX9_lossOf_55 : decode cX9_lossOf 55 = .ok (.iconst 2, 1) := by decide +kernel
theorem dX9_lossOf_56 : decode cX9_lossOf 56 = .ok (.idiv, 1) := by decide +kernel
theorem dX9_lossOf_57 : decode cX9_lossOf 57 = .ok (.goto 4, 3) := by decide +kernel
theorem dX9_lossOf_60 : decode cX9_lossOf 60 = .ok (.iconst 0, 1) := by decide +kernel
theorem dX9_lossOf_61 : decode cX9_lossOf 61 = .ok (.iadd, 1) := by decide +kernel
theorem dX9_lossOf_62 : decode cX9_lossOf 62 = .ok (.ireturn, 1) := by decide +kernel
theorem dX9_strikes_0 : decode cX9_strikes 0 = .ok (.aload_n 0, 1) := by decide +kernel
theorem dX9_strikes_1 : decode cX9_strikes 1 = .ok (.iload_n 1, 1) := by decide +kernel
theorem dX9_strikes_2 : decode cX9_strikes 2 = .ok (.iload_n 2, 1) := by decide +kernel
theorem dX9_strikes_3 : decode cX9_strikes 3 = .ok (.invokevirtual 254, 3) := by decide +kernel
theorem dX9_strikes_6 : decode cX9_strikes 6 = .ok (.istore 4, 2) := by decide +kernel
theorem dX9_strikes_8 : decode cX9_strikes 8 = .ok (.aload_n 0, 1) := by decide +kernel
theorem dX9_strikes_9 : decode cX9_strikes 9 = .ok (.iload_n 2, 1) := by decide +kernel
theorem dX9_strikes_10 : decode cX9_strikes 10 = .ok (.iload_n 1, 1) := by decide +kernel
theorem dX9_strikes_11 : decode cX9_strikes 11 = .ok (.invokevirtual 254, 3) := by decide +kernel
theorem dX9_strikes_14 : decode cX9_strikes 14 = .ok (.istore 5, 2) := by decide +kernel
theorem dX9_strikes_16 : decode cX9_strikes 16 = .ok (.aload_n 0, 1) := by decide +kernel
theorem dX9_strikes_17 : decode cX9_strikes 17 = .ok (.iload_n 1, 1) := by decide +kernel
theorem dX9_strikes_18 : decode cX9_strikes 18 = .ok (.iconst 4, 1) := by decide +kernel
theorem dX9_strikes_19 : decode cX9_strikes 19 = .ok (.aload_n 0, 1) := by decide +kernel
theorem dX9_strikes_20 : decode cX9_strikes 20 = .ok (.iload_n 1, 1) := by decide +kernel
theorem dX9_strikes_21 : decode cX9_strikes 21 = .ok (.iconst 4, 1) := by decide +kernel
theorem dX9_strikes_22 : decode cX9_strikes 22 = .ok (.invokevirtual 213, 3) := by decide +kernel
theorem dX9_strikes_25 : decode cX9_strikes 25 = .ok (.iload 4, 2) := by decide +kernel
theorem dX9_strikes_27 : decode cX9_strikes 27 = .ok (.isub, 1) := by decide +kernel
theorem dX9_strikes_28 : decode cX9_strikes 28 = .ok (.invokevirtual 228, 3) := by decide +kernel
theorem dX9_strikes_31 : decode cX9_strikes 31 = .ok (.aload_n 0, 1) := by decide +kernel
theorem dX9_strikes_32 : decode cX9_strikes 32 = .ok (.iload_n 2, 1) := by decide +kernel
theorem dX9_strikes_33 : decode cX9_strikes 33 = .ok (.iconst 4, 1) := by decide +kernel
theorem dX9_strikes_34 : decode cX9_strikes 34 = .ok (.aload_n 0, 1) := by decide +kernel
theorem dX9_strikes_35 : decode cX9_strikes 35 = .ok (.iload_n 2, 1) := by decide +kernel
theorem dX9_strikes_36 : decode cX9_strikes 36 = .ok (.iconst 4, 1) := by decide +kernel
theorem dX9_strikes_37 : decode cX9_strikes 37 = .ok (.invokevirtual 213, 3) := by decide +kernel
theorem dX9_strikes_40 : decode cX9_strikes 40 = .ok (.iload 5, 2) := by decide +kernel
theorem dX9_strikes_42 : decode cX9_strikes 42 = .ok (.isub, 1) := by decide +kernel
theorem dX9_strikes_43 : decode cX9_strikes 43 = .ok (.invokevirtual 228, 3) := by decide +kernel
theorem dX9_strikes_46 : decode cX9_strikes 46 = .ok (.aload_n 0, 1) := by decide +kernel
theorem dX9_strikes_47 : decode cX9_strikes 47 = .ok (.iload_n 1, 1) := by decide +kernel
theorem dX9_strikes_48 : decode cX9_strikes 48 = .ok (.bipush 8, 2) := by decide +kernel
theorem dX9_strikes_50 : decode cX9_strikes 50 = .ok (.iconst 0, 1) := by decide +kernel
theorem dX9_strikes_51 : decode cX9_strikes 51 = .ok (.invokevirtual 228, 3) := by decide +kernel
theorem dX9_strikes_54 : decode cX9_strikes 54 = .ok (.aload_n 0, 1) := by decide +kernel
theorem dX9_strikes_55 : decode cX9_strikes 55 = .ok (.iload_n 2, 1) := by decide +kernel
theorem dX9_strikes_56 : decode cX9_strikes 56 = .ok (.bipush 8, 2) := by decide +kernel
theorem dX9_strikes_58 : decode cX9_strikes 58 = .ok (.iconst 0, 1) := by decide +kernel
theorem dX9_strikes_59 : decode cX9_strikes 59 = .ok (.invokevirtual 228, 3) := by decide +kernel
theorem dX9_strikes_62 : decode cX9_strikes 62 = .ok (.aload_n 0, 1) := by decide +kernel
theorem dX9_strikes_63 : decode cX9_strikes 63 = .ok (.getfield 39, 3) := by decide +kernel
theorem dX9_strikes_66 : decode cX9_strikes 66 = .ok (.iload_n 2, 1) := by decide +kernel
theorem dX9_strikes_67 : decode cX9_strikes 67 = .ok (.baload, 1) := by decide +kernel
theorem dX9_strikes_68 : decode cX9_strikes 68 = .ok (.ifCond .eq 15, 3) := by decide +kernel
theorem dX9_strikes_71 : decode cX9_strikes 71 = .ok (.aload_n 0, 1) := by decide +kernel
theorem dX9_strikes_72 : decode cX9_strikes 72 = .ok (.getfield 48, 3) := by decide +kernel
theorem dX9_strikes_75 : decode cX9_strikes 75 = .ok (.iload_n 1, 1) := by decide +kernel
theorem dX9_strikes_76 : decode cX9_strikes 76 = .ok (.dup2, 1) := by decide +kernel
theorem dX9_strikes_77 : decode cX9_strikes 77 = .ok (.iaload, 1) := by decide +kernel
theorem dX9_strikes_78 : decode cX9_strikes 78 = .ok (.iconst 1, 1) := by decide +kernel
theorem dX9_strikes_79 : decode cX9_strikes 79 = .ok (.iload_n 2, 1) := by decide +kernel
theorem dX9_strikes_80 : decode cX9_strikes 80 = .ok (.ishl, 1) := by decide +kernel
theorem dX9_strikes_81 : decode cX9_strikes 81 = .ok (.ior, 1) := by decide +kernel
theorem dX9_strikes_82 : decode cX9_strikes 82 = .ok (.iastore, 1) := by decide +kernel
theorem dX9_strikes_83 : decode cX9_strikes 83 = .ok (.aload_n 0, 1) := by decide +kernel
theorem dX9_strikes_84 : decode cX9_strikes 84 = .ok (.getfield 39, 3) := by decide +kernel
theorem dX9_strikes_87 : decode cX9_strikes 87 = .ok (.iload_n 1, 1) := by decide +kernel
theorem dX9_strikes_88 : decode cX9_strikes 88 = .ok (.baload, 1) := by decide +kernel
theorem dX9_strikes_89 : decode cX9_strikes 89 = .ok (.ifCond .eq 15, 3) := by decide +kernel
theorem dX9_strikes_92 : decode cX9_strikes 92 = .ok (.aload_n 0, 1) := by decide +kernel
theorem dX9_strikes_93 : decode cX9_strikes 93 = .ok (.getfield 48, 3) := by decide +kernel
theorem dX9_strikes_96 : decode cX9_strikes 96 = .ok (.iload_n 2, 1) := by decide +kernel
theorem dX9_strikes_97 : decode cX9_strikes 97 = .ok (.dup2, 1) := by decide +kernel
theorem dX9_strikes_98 : decode cX9_strikes 98 = .ok (.iaload, 1) := by decide +kernel
theorem dX9_strikes_99 : decode cX9_strikes 99 = .ok (.iconst 1, 1) := by decide +kernel
theorem dX9_strikes_100 : decode cX9_strikes 100 = .ok (.iload_n 1, 1) := by decide +kernel
theorem dX9_strikes_101 : decode cX9_strikes 101 = .ok (.ishl, 1) := by decide +kernel
theorem dX9_strikes_102 : decode cX9_strikes 102 = .ok (.ior, 1) := by decide +kernel
theorem dX9_strikes_103 : decode cX9_strikes 103 = .ok (.iastore, 1) := by decide +kernel
theorem dX9_strikes_104 : decode cX9_strikes 104 = .ok (.aload_n 0, 1) := by decide +kernel
theorem dX9_strikes_105 : decode cX9_strikes 105 = .ok (.iload_n 1, 1) := by decide +kernel
theorem dX9_strikes_106 : decode cX9_strikes 106 = .ok (.iload_n 2, 1) := by decide +kernel
theorem dX9_strikes_107 : decode cX9_strikes 107 = .ok (.invokevirtual 241, 3) := by decide +kernel
theorem dX9_strikes_110 : decode cX9_strikes 110 = .ok (.istore 6, 2) := by decide +kernel
theorem dX9_strikes_112 : decode cX9_strikes 112 = .ok (.aload_n 0, 1) := by decide +kernel
theorem dX9_strikes_113 : decode cX9_strikes 113 = .ok (.iload_n 1, 1) := by decide +kernel
theorem dX9_strikes_114 : decode cX9_strikes 114 = .ok (.iconst 5, 1) := by decide +kernel
theorem dX9_strikes_115 : decode cX9_strikes 115 = .ok (.invokevirtual 213, 3) := by decide +kernel
theorem dX9_strikes_118 : decode cX9_strikes 118 = .ok (.aload_n 0, 1) := by decide +kernel
theorem dX9_strikes_119 : decode cX9_strikes 119 = .ok (.iload_n 2, 1) := by decide +kernel
theorem dX9_strikes_120 : decode cX9_strikes 120 = .ok (.iconst 5, 1) := by decide +kernel
theorem dX9_strikes_121 : decode cX9_strikes 121 = .ok (.invokevirtual 213, 3) := by decide +kernel
theorem dX9_strikes_124 : decode cX9_strikes 124 = .ok (.if_icmp .lt 7, 3) := by decide +kernel
theorem dX9_strikes_127 : decode cX9_strikes 127 = .ok (.iconst 1, 1) := by decide +kernel
theorem dX9_strikes_128 : decode cX9_strikes 128 = .ok (.goto 4, 3) := by decide +kernel
theorem dX9_strikes_131 : decode cX9_strikes 131 = .ok (.iconst 0, 1) := by decide +kernel
theorem dX9_strikes_132 : decode cX9_strikes 132 = .ok (.istore 7, 2) := by decide +kernel
theorem dX9_strikes_134 : decode cX9_strikes 134 = .ok (.aload_n 0, 1) := by decide +kernel
theorem dX9_strikes_135 : decode cX9_strikes 135 = .ok (.getfield 39, 3) := by decide +kernel
theorem dX9_strikes_138 : decode cX9_strikes 138 = .ok (.iload_n 1, 1) := by decide +kernel
theorem dX9_strikes_139 : decode cX9_strikes 139 = .ok (.iload 6, 2) := by decide +kernel
theorem dX9_strikes_141 : decode cX9_strikes 141 = .ok (.ifCond .eq 12, 3) := by decide +kernel
theorem dX9_strikes_144 : decode cX9_strikes 144 = .ok (.iload 7, 2) := by decide +kernel
theorem dX9_strikes_146 : decode cX9_strikes 146 = .ok (.ifCond .eq 7, 3) := by decide +kernel
theorem dX9_strikes_149 : decode cX9_strikes 149 = .ok (.iconst 1, 1) := by decide +kernel
theorem dX9_strikes_150 : decode cX9_strikes 150 = .ok (.goto 4, 3) := by decide +kernel
theorem dX9_strikes_153 : decode cX9_strikes 153 = .ok (.iconst 0, 1) := by decide +kernel
theorem dX9_strikes_154 : decode cX9_strikes 154 = .ok (.bastore, 1) := by decide +kernel
theorem dX9_strikes_155 : decode cX9_strikes 155 = .ok (.aload_n 0, 1) := by decide +kernel
theorem dX9_strikes_156 : decode cX9_strikes 156 = .ok (.getfield 39, 3) := by decide +kernel
theorem dX9_strikes_159 : decode cX9_strikes 159 = .ok (.iload_n 2, 1) := by decide +kernel
theorem dX9_strikes_160 : decode cX9_strikes 160 = .ok (.iload 6, 2) := by decide +kernel
theorem dX9_strikes_162 : decode cX9_strikes 162 = .ok (.ifCond .eq 12, 3) := by decide +kernel
theorem dX9_strikes_165 : decode cX9_strikes 165 = .ok (.iload 7, 2) := by decide +kernel
theorem dX9_strikes_167 : decode cX9_strikes 167 = .ok (.ifCond .ne 7, 3) := by decide +kernel
theorem dX9_strikes_170 : decode cX9_strikes 170 = .ok (.iconst 1, 1) := by decide +kernel
theorem dX9_strikes_171 : decode cX9_strikes 171 = .ok (.goto 4, 3) := by decide +kernel
theorem dX9_strikes_174 : decode cX9_strikes 174 = .ok (.iconst 0, 1) := by decide +kernel
theorem dX9_strikes_175 : decode cX9_strikes 175 = .ok (.bastore, 1) := by decide +kernel
theorem dX9_strikes_176 : decode cX9_strikes 176 = .ok (.aload_n 0, 1) := by decide +kernel
theorem dX9_strikes_177 : decode cX9_strikes 177 = .ok (.getfield 54, 3) := by decide +kernel
theorem dX9_strikes_180 : decode cX9_strikes 180 = .ok (.bipush 12, 2) := by decide +kernel
theorem dX9_strikes_182 : decode cX9_strikes 182 = .ok (.iload_n 1, 1) := by decide +kernel
theorem dX9_strikes_183 : decode cX9_strikes 183 = .ok (.imul, 1) := by decide +kernel
theorem dX9_strikes_184 : decode cX9_strikes 184 = .ok (.iload_n 2, 1) := by decide +kernel
theorem dX9_strikes_185 : decode cX9_strikes 185 = .ok (.iadd, 1) := by decide +kernel
theorem dX9_strikes_186 : decode cX9_strikes 186 = .ok (.iaload, 1) := by decide +kernel
theorem dX9_strikes_187 : decode cX9_strikes 187 = .ok (.iconst (-1), 1) := by decide +kernel
theorem dX9_strikes_188 : decode cX9_strikes 188 = .ok (.if_icmp .ne 15, 3) := by decide +kernel
theorem dX9_strikes_191 : decode cX9_strikes 191 = .ok (.aload_n 0, 1) := by decide +kernel
theorem dX9_strikes_192 : decode cX9_strikes 192 = .ok (.getfield 54, 3) := by decide +kernel
theorem dX9_strikes_195 : decode cX9_strikes 195 = .ok (.bipush 12, 2) := by decide +kernel
theorem dX9_strikes_197 : decode cX9_strikes 197 = .ok (.iload_n 1, 1) := by decide +kernel
theorem dX9_strikes_198 : decode cX9_strikes 198 = .ok (.imul, 1) := by decide +kernel
theorem dX9_strikes_199 : decode cX9_strikes 199 = .ok (.iload_n 2, 1) := by decide +kernel
theorem dX9_strikes_200 : decode cX9_strikes 200 = .ok (.iadd, 1) := by decide +kernel
theorem dX9_strikes_201 : decode cX9_strikes 201 = .ok (.iload_n 3, 1) := by decide +kernel
theorem dX9_strikes_202 : decode cX9_strikes 202 = .ok (.iastore, 1) := by decide +kernel
theorem dX9_strikes_203 : decode cX9_strikes 203 = .ok (.aload_n 0, 1) := by decide +kernel
theorem dX9_strikes_204 : decode cX9_strikes 204 = .ok (.dup, 1) := by decide +kernel
theorem dX9_strikes_205 : decode cX9_strikes 205 = .ok (.getfield 257, 3) := by decide +kernel
theorem dX9_strikes_208 : decode cX9_strikes 208 = .ok (.iconst 1, 1) := by decide +kernel
theorem dX9_strikes_209 : decode cX9_strikes 209 = .ok (.iadd, 1) := by decide +kernel
theorem dX9_strikes_210 : decode cX9_strikes 210 = .ok (.putfield 257, 3) := by decide +kernel
theorem dX9_strikes_213 : decode cX9_strikes 213 = .ok (.aload_n 0, 1) := by decide +kernel
theorem dX9_strikes_214 : decode cX9_strikes 214 = .ok (.getfield 7, 3) := by decide +kernel
theorem dX9_strikes_217 : decode cX9_strikes 217 = .ok (.bipush 7, 2) := by decide +kernel
theorem dX9_strikes_219 : decode cX9_strikes 219 = .ok (.iaload, 1) := by decide +kernel
theorem dX9_strikes_220 : decode cX9_strikes 220 = .ok (.bipush 30, 2) := by decide +kernel
theorem dX9_strikes_222 : decode cX9_strikes 222 = .ok (.if_icmp .ne 4, 3) := by decide +kernel
theorem dX9_strikes_225 : decode cX9_strikes 225 = .ok (.return_, 1) := by decide +kernel
theorem dX9_strikes_226 : decode cX9_strikes 226 = .ok (.sipush 346, 3) := by decide +kernel
theorem dX9_strikes_229 : decode cX9_strikes 229 = .ok (.iconst 5, 1) := by decide +kernel
theorem dX9_strikes_230 : decode cX9_strikes 230 = .ok (.aload_n 0, 1) := by decide +kernel
theorem dX9_strikes_231 : decode cX9_strikes 231 = .ok (.getfield 7, 3) := by decide +kernel
theorem dX9_strikes_234 : decode cX9_strikes 234 = .ok (.bipush 7, 2) := by decide +kernel
theorem dX9_strikes_236 : decode cX9_strikes 236 = .ok (.iaload, 1) := by decide +kernel
theorem dX9_strikes_237 : decode cX9_strikes 237 = .ok (.imul, 1) := by decide +kernel
theorem dX9_strikes_238 : decode cX9_strikes 238 = .ok (.iadd, 1) := by decide +kernel
theorem dX9_strikes_239 : decode cX9_strikes 239 = .ok (.istore 8, 2) := by decide +kernel
theorem dX9_strikes_241 : decode cX9_strikes 241 = .ok (.aload_n 0, 1) := by decide +kernel
theorem dX9_strikes_242 : decode cX9_strikes 242 = .ok (.getfield 7, 3) := by decide +kernel
theorem dX9_strikes_245 : decode cX9_strikes 245 = .ok (.iload 8, 2) := by decide +kernel
theorem dX9_strikes_247 : decode cX9_strikes 247 = .ok (.iload_n 3, 1) := by decide +kernel
theorem dX9_strikes_248 : decode cX9_strikes 248 = .ok (.iastore, 1) := by decide +kernel
theorem dX9_strikes_249 : decode cX9_strikes 249 = .ok (.aload_n 0, 1) := by decide +kernel
theorem dX9_strikes_250 : decode cX9_strikes 250 = .ok (.getfield 7, 3) := by decide +kernel
theorem dX9_strikes_253 : decode cX9_strikes 253 = .ok (.iload 8, 2) := by decide +kernel
theorem dX9_strikes_255 : decode cX9_strikes 255 = .ok (.iconst 1, 1) := by decide +kernel
theorem dX9_strikes_256 : decode cX9_strikes 256 = .ok (.iadd, 1) := by decide +kernel
theorem dX9_strikes_257 : decode cX9_strikes 257 = .ok (.iload_n 1, 1) := by decide +kernel
theorem dX9_strikes_258 : decode cX9_strikes 258 = .ok (.iastore, 1) := by decide +kernel
theorem dX9_strikes_259 : decode cX9_strikes 259 = .ok (.aload_n 0, 1) := by decide +kernel
theorem dX9_strikes_260 : decode cX9_strikes 260 = .ok (.getfield 7, 3) := by decide +kernel
theorem dX9_strikes_263 : decode cX9_strikes 263 = .ok (.iload 8, 2) := by decide +kernel
theorem dX9_strikes_265 : decode cX9_strikes 265 = .ok (.iconst 2, 1) := by decide +kernel
theorem dX9_strikes_266 : decode cX9_strikes 266 = .ok (.iadd, 1) := by decide +kernel
theorem dX9_strikes_267 : decode cX9_strikes 267 = .ok (.iload_n 2, 1) := by decide +kernel
theorem dX9_strikes_268 : decode cX9_strikes 268 = .ok (.iastore, 1) := by decide +kernel
theorem dX9_strikes_269 : decode cX9_strikes 269 = .ok (.aload_n 0, 1) := by decide +kernel
theorem dX9_strikes_270 : decode cX9_strikes 270 = .ok (.getfield 7, 3) := by decide +kernel
theorem dX9_strikes_273 : decode cX9_strikes 273 = .ok (.iload 8, 2) := by decide +kernel
theorem dX9_strikes_275 : decode cX9_strikes 275 = .ok (.iconst 3, 1) := by decide +kernel
theorem dX9_strikes_276 : decode cX9_strikes 276 = .ok (.iadd, 1) := by decide +kernel
theorem dX9_strikes_277 : decode cX9_strikes 277 = .ok (.iload 4, 2) := by decide +kernel
theorem dX9_strikes_279 : decode cX9_strikes 279 = .ok (.iastore, 1) := by decide +kernel
theorem dX9_strikes_280 : decode cX9_strikes 280 = .ok (.aload_n 0, 1) := by decide +kernel
theorem dX9_strikes_281 : decode cX9_strikes 281 = .ok (.getfield 7, 3) := by decide +kernel
theorem dX9_strikes_284 : decode cX9_strikes 284 = .ok (.iload 8, 2) := by decide +kernel
theorem dX9_strikes_286 : decode cX9_strikes 286 = .ok (.iconst 4, 1) := by decide +kernel
theorem dX9_strikes_287 : decode cX9_strikes 287 = .ok (.iadd, 1) := by decide +kernel
theorem dX9_strikes_288 : decode cX9_strikes 288 = .ok (.iload 5, 2) := by decide +kernel
theorem dX9_strikes_290 : decode cX9_strikes 290 = .ok (.iastore, 1) := by decide +kernel
theorem dX9_strikes_291 : decode cX9_strikes 291 = .ok (.aload_n 0, 1) := by decide +kernel
theorem dX9_strikes_292 : decode cX9_strikes 292 = .ok (.getfield 7, 3) := by decide +kernel
theorem dX9_strikes_295 : decode cX9_strikes 295 = .ok (.bipush 7, 2) := by decide +kernel
theorem dX9_strikes_297 : decode cX9_strikes 297 = .ok (.dup2, 1) := by decide +kernel
theorem dX9_strikes_298 : decode cX9_strikes 298 = .ok (.iaload, 1) := by decide +kernel
theorem dX9_strikes_299 : decode cX9_strikes 299 = .ok (.iconst 1, 1) := by decide +kernel
theorem dX9_strikes_300 : decode cX9_strikes 300 = .ok (.iadd, 1) := by decide +kernel
theorem dX9_strikes_301 : decode cX9_strikes 301 = .ok (.iastore, 1) := by decide +kernel
theorem dX9_strikes_302 : decode cX9_strikes 302 = .ok (.return_, 1) := by decide +kernel
theorem dX9_sinks_0 : decode cX9_sinks 0 = .ok (.iconst 0, 1) := by decide +kernel
theorem dX9_sinks_1 : decode cX9_sinks 1 = .ok (.istore_n 2, 1) := by decide +kernel
theorem dX9_sinks_2 : decode cX9_sinks 2 = .ok (.iload_n 2, 1) := by decide +kernel
theorem dX9_sinks_3 : decode cX9_sinks 3 = .ok (.aload_n 0, 1) := by decide +kernel
theorem dX9_sinks_4 : decode cX9_sinks 4 = .ok (.getfield 7, 3) := by decide +kernel
theorem dX9_sinks_7 : decode cX9_sinks 7 = .ok (.iconst 2, 1) := by decide +kernel
theorem dX9_sinks_8 : decode cX9_sinks 8 = .ok (.iaload, 1) := by decide +kernel
theorem dX9_sinks_9 : decode cX9_sinks 9 = .ok (.if_icmp .ge 101, 3) := by decide +kernel
theorem dX9_sinks_12 : decode cX9_sinks 12 = .ok (.iconst 0, 1) := by decide +kernel
theorem dX9_sinks_13 : decode cX9_sinks 13 = .ok (.istore_n 3, 1) := by decide +kernel
theorem dX9_sinks_14 : decode cX9_sinks 14 = .ok (.iconst 0, 1) := by decide +kernel
theorem dX9_sinks_15 : decode cX9_sinks 15 = .ok (.istore 4, 2) := by decide +kernel
theorem dX9_sinks_17 : decode cX9_sinks 17 = .ok (.iload 4, 2) := by decide +kernel
theorem dX9_sinks_19 : decode cX9_sinks 19 = .ok (.aload_n 0, 1) := by decide +kernel
theorem dX9_sinks_20 : decode cX9_sinks 20 = .ok (.getfield 7, 3) := by decide +kernel
theorem dX9_sinks_23 : decode cX9_sinks 23 = .ok (.iconst 3, 1) := by decide +kernel
theorem dX9_sinks_24 : decode cX9_sinks 24 = .ok (.iaload, 1) := by decide +kernel
theorem dX9_sinks_25 : decode cX9_sinks 25 = .ok (.if_icmp .ge 45, 3) := by decide +kernel
theorem dX9_sinks_28 : decode cX9_sinks 28 = .ok (.iload_n 3, 1) := by decide +kernel
theorem dX9_sinks_29 : decode cX9_sinks 29 = .ok (.ifCond .ne 29, 3) := by decide +kernel
theorem dX9_sinks_32 : decode cX9_sinks 32 = .ok (.aload_n 0, 1) := by decide +kernel
theorem dX9_sinks_33 : decode cX9_sinks 33 = .ok (.getfield 48, 3) := by decide +kernel
theorem dX9_sinks_36 : decode cX9_sinks 36 = .ok (.iload_n 1, 1) := by decide +kernel
theorem dX9_sinks_37 : decode cX9_sinks 37 = .ok (.iaload, 1) := by decide +kernel
theorem dX9_sinks_38 : decode cX9_sinks 38 = .ok (.iload 4, 2) := by decide +kernel
theorem dX9_sinks_40 : decode cX9_sinks 40 = .ok (.ishr, 1) := by decide +kernel
theorem dX9_sinks_41 : decode cX9_sinks 41 = .ok (.iconst 1, 1) := by decide +kernel
theorem dX9_sinks_42 : decode cX9_sinks 42 = .ok (.iand, 1) := by decide +kernel
theorem dX9_sinks_43 : decode cX9_sinks 43 = .ok (.iconst 1, 1) := by decide +kernel
theorem dX9_sinks_44 : decode cX9_sinks 44 = .ok (.if_icmp .ne 18, 3) := by decide +kernel
theorem dX9_sinks_47 : decode cX9_sinks 47 = .ok (.aload_n 0, 1) := by decide +kernel
theorem dX9_sinks_48 : decode cX9_sinks 48 = .ok (.iload 4, 2) := by decide +kernel
theorem dX9_sinks_50 : decode cX9_sinks 50 = .ok (.iconst 0, 1) := by decide +kernel
theorem dX9_sinks_51 : decode cX9_sinks 51 = .ok (.invokevirtual 213, 3) := by decide +kernel
theorem dX9_sinks_54 : decode cX9_sinks 54 = .ok (.iload_n 2, 1) := by decide +kernel
theorem dX9_sinks_55 : decode cX9_sinks 55 = .ok (.if_icmp .ne 7, 3) := by decide +kernel
theorem dX9_sinks_58 : decode cX9_sinks 58 = .ok (.iconst 1, 1) := by decide +kernel
theorem dX9_sinks_59 : decode cX9_sinks 59 = .ok (.goto 4, 3) := by decide +kernel
theorem dX9_sinks_62 : decode cX9_sinks 62 = .ok (.iconst 0, 1) := by decide +kernel
theorem dX9_sinks_63 : decode cX9_sinks 63 = .ok (.istore_n 3, 1) := by decide +kernel
theorem dX9_sinks_64 : decode cX9_sinks 64 = .ok (.iinc 4 1, 3) := by decide +kernel
theorem dX9_sinks_67 : decode cX9_sinks 67 = .ok (.goto (-50), 3) := by decide +kernel
theorem dX9_sinks_70 : decode cX9_sinks 70 = .ok (.iload_n 3, 1) := by decide +kernel
theorem dX9_sinks_71 : decode cX9_sinks 71 = .ok (.ifCond .eq 33, 3) := by decide +kernel
theorem dX9_sinks_74 : decode cX9_sinks 74 = .ok (.iload_n 2, 1) := by decide +kernel
theorem dX9_sinks_75 : decode cX9_sinks 75 = .ok (.aload_n 0, 1) := by decide +kernel
theorem dX9_sinks_76 : decode cX9_sinks 76 = .ok (.iload_n 1, 1) := by decide +kernel
theorem dX9_sinks_77 : decode cX9_sinks 77 = .ok (.iconst 0, 1) := by decide +kernel
theorem dX9_sinks_78 : decode cX9_sinks 78 = .ok (.invokevirtual 213, 3) := by decide +kernel
theorem dX9_sinks_81 : decode cX9_sinks 81 = .ok (.if_icmp .eq 23, 3) := by decide +kernel
theorem dX9_sinks_84 : decode cX9_sinks 84 = .ok (.aload_n 0, 1) := by decide +kernel
theorem dX9_sinks_85 : decode cX9_sinks 85 = .ok (.getfield 7, 3) := by decide +kernel
theorem dX9_sinks_88 : decode cX9_sinks 88 = .ok (.bipush 34, 2) := by decide +kernel
theorem dX9_sinks_90 : decode cX9_sinks 90 = .ok (.iconst 3, 1) := by decide +kernel
theorem dX9_sinks_91 : decode cX9_sinks 91 = .ok (.iload_n 2, 1) := by decide +kernel
theorem dX9_sinks_92 : decode cX9_sinks 92 = .ok (.imul, 1) := by decide +kernel
theorem dX9_sinks_93 : decode cX9_sinks 93 = .ok (.iadd, 1) := by decide +kernel
theorem dX9_sinks_94 : decode cX9_sinks 94 = .ok (.dup2, 1) := by decide +kernel
theorem dX9_sinks_95 : decode cX9_sinks 95 = .ok (.iaload, 1) := by decide +kernel
theorem dX9_sinks_96 : decode cX9_sinks 96 = .ok (.aload_n 0, 1) := by decide +kernel
theorem dX9_sinks_97 : decode cX9_sinks 97 = .ok (.iload_n 1, 1) := by decide +kernel
theorem dX9_sinks_98 : decode cX9_sinks 98 = .ok (.iconst 5, 1) := by decide +kernel
theorem dX9_sinks_99 : decode cX9_sinks 99 = .ok (.invokevirtual 213, 3) := by decide +kernel
theorem dX9_sinks_102 : decode cX9_sinks 102 = .ok (.iadd, 1) := by decide +kernel
theorem dX9_sinks_103 : decode cX9_sinks 103 = .ok (.iastore, 1) := by decide +kernel
theorem dX9_sinks_104 : decode cX9_sinks 104 = .ok (.iinc 2 1, 3) := by decide +kernel
theorem dX9_sinks_107 : decode cX9_sinks 107 = .ok (.goto (-105), 3) := by decide +kernel
theorem dX9_sinks_110 : decode cX9_sinks 110 = .ok (.aload_n 0, 1) := by decide +kernel
theorem dX9_sinks_111 : decode cX9_sinks 111 = .ok (.iload_n 1, 1) := by decide +kernel
theorem dX9_sinks_112 : decode cX9_sinks 112 = .ok (.iconst 4, 1) := by decide +kernel
theorem dX9_sinks_113 : decode cX9_sinks 113 = .ok (.iconst 0, 1) := by decide +kernel
theorem dX9_sinks_114 : decode cX9_sinks 114 = .ok (.invokevirtual 228, 3) := by decide +kernel
theorem dX9_sinks_117 : decode cX9_sinks 117 = .ok (.aload_n 0, 1) := by decide +kernel
theorem dX9_sinks_118 : decode cX9_sinks 118 = .ok (.iload_n 1, 1) := by decide +kernel
theorem dX9_sinks_119 : decode cX9_sinks 119 = .ok (.bipush 10, 2) := by decide +kernel
theorem dX9_sinks_121 : decode cX9_sinks 121 = .ok (.aload_n 0, 1) := by decide +kernel
theorem dX9_sinks_122 : decode cX9_sinks 122 = .ok (.getfield 7, 3) := by decide +kernel
theorem dX9_sinks_125 : decode cX9_sinks 125 = .ok (.iconst 4, 1) := by decide +kernel
theorem dX9_sinks_126 : decode cX9_sinks 126 = .ok (.iaload, 1) := by decide +kernel
theorem dX9_sinks_127 : decode cX9_sinks 127 = .ok (.invokevirtual 228, 3) := by decide +kernel
theorem dX9_sinks_130 : decode cX9_sinks 130 = .ok (.aload_n 0, 1) := by decide +kernel
theorem dX9_sinks_131 : decode cX9_sinks 131 = .ok (.iload_n 1, 1) := by decide +kernel
theorem dX9_sinks_132 : decode cX9_sinks 132 = .ok (.iconst 1, 1) := by decide +kernel
theorem dX9_sinks_133 : decode cX9_sinks 133 = .ok (.iconst (-1), 1) := by decide +kernel
theorem dX9_sinks_134 : decode cX9_sinks 134 = .ok (.invokevirtual 228, 3) := by decide +kernel
theorem dX9_sinks_137 : decode cX9_sinks 137 = .ok (.aload_n 0, 1) := by decide +kernel
theorem dX9_sinks_138 : decode cX9_sinks 138 = .ok (.iload_n 1, 1) := by decide +kernel
theorem dX9_sinks_139 : decode cX9_sinks 139 = .ok (.iconst 2, 1) := by decide +kernel
theorem dX9_sinks_140 : decode cX9_sinks 140 = .ok (.iconst (-1), 1) := by decide +kernel
theorem dX9_sinks_141 : decode cX9_sinks 141 = .ok (.invokevirtual 228, 3) := by decide +kernel
theorem dX9_sinks_144 : decode cX9_sinks 144 = .ok (.return_, 1) := by decide +kernel
theorem dX9_pulses_0 : decode cX9_pulses 0 = .ok (.iconst 0, 1) := by decide +kernel
theorem dX9_pulses_1 : decode cX9_pulses 1 = .ok (.istore_n 2, 1) := by decide +kernel
theorem dX9_pulses_2 : decode cX9_pulses 2 = .ok (.iload_n 2, 1) := by decide +kernel
theorem dX9_pulses_3 : decode cX9_pulses 3 = .ok (.aload_n 0, 1) := by decide +kernel
theorem dX9_pulses_4 : decode cX9_pulses 4 = .ok (.getfield 7, 3) := by decide +kernel
theorem dX9_pulses_7 : decode cX9_pulses 7 = .ok (.iconst 3, 1) := by decide +kernel
theorem dX9_pulses_8 : decode cX9_pulses 8 = .ok (.iaload, 1) := by decide +kernel
theorem dX9_pulses_9 : decode cX9_pulses 9 = .ok (.if_icmp .ge 52, 3) := by decide +kernel
theorem dX9_pulses_12 : decode cX9_pulses 12 = .ok (.aload_n 0, 1) := by decide +kernel
theorem dX9_pulses_13 : decode cX9_pulses 13 = .ok (.getfield 39, 3) := by decide +kernel
theorem dX9_pulses_16 : decode cX9_pulses 16 = .ok (.iload_n 2, 1) := by decide +kernel
theorem dX9_pulses_17 : decode cX9_pulses 17 = .ok (.aload_n 0, 1) := by decide +kernel
theorem dX9_pulses_18 : decode cX9_pulses 18 = .ok (.iload_n 2, 1) := by decide +kernel
theorem dX9_pulses_19 : decode cX9_pulses 19 = .ok (.invokevirtual 216, 3) := by decide +kernel
theorem dX9_pulses_22 : decode cX9_pulses 22 = .ok (.ifCond .eq 24, 3) := by decide +kernel
theorem dX9_pulses_25 : decode cX9_pulses 25 = .ok (.aload_n 0, 1) := by decide +kernel
theorem dX9_pulses_26 : decode cX9_pulses 26 = .ok (.iload_n 2, 1) := by decide +kernel
theorem dX9_pulses_27 : decode cX9_pulses 27 = .ok (.aload_n 0, 1) := by decide +kernel
theorem dX9_pulses_28 : decode cX9_pulses 28 = .ok (.iload_n 2, 1) := by decide +kernel
theorem dX9_pulses_29 : decode cX9_pulses 29 = .ok (.bipush 11, 2) := by decide +kernel
theorem dX9_pulses_31 : decode cX9_pulses 31 = .ok (.iload_n 1, 1) := by decide +kernel
theorem dX9_pulses_32 : decode cX9_pulses 32 = .ok (.iadd, 1) := by decide +kernel
theorem dX9_pulses_33 : decode cX9_pulses 33 = .ok (.invokevirtual 213, 3) := by decide +kernel
theorem dX9_pulses_36 : decode cX9_pulses 36 = .ok (.invokevirtual 260, 3) := by decide +kernel
theorem dX9_pulses_39 : decode cX9_pulses 39 = .ok (.ifCond .eq 7, 3) := by decide +kernel
theorem dX9_pulses_42 : decode cX9_pulses 42 = .ok (.iconst 1, 1) := by decide +kernel
theorem dX9_pulses_43 : decode cX9_pulses 43 = .ok (.goto 4, 3) := by decide +kernel
theorem dX9_pulses_46 : decode cX9_pulses 46 = .ok (.iconst 0, 1) := by decide +kernel
theorem dX9_pulses_47 : decode cX9_pulses 47 = .ok (.bastore, 1) := by decide +kernel
theorem dX9_pulses_48 : decode cX9_pulses 48 = .ok (.aload_n 0, 1) := by decide +kernel
theorem dX9_pulses_49 : decode cX9_pulses 49 = .ok (.getfield 48, 3) := by decide +kernel
theorem dX9_pulses_52 : decode cX9_pulses 52 = .ok (.iload_n 2, 1) := by decide +kernel
theorem dX9_pulses_53 : decode cX9_pulses 53 = .ok (.iconst 0, 1) := by decide +kernel
theorem dX9_pulses_54 : decode cX9_pulses 54 = .ok (.iastore, 1) := by decide +kernel
theorem dX9_pulses_55 : decode cX9_pulses 55 = .ok (.iinc 2 1, 3) := by decide +kernel
theorem dX9_pulses_58 : decode cX9_pulses 58 = .ok (.goto (-56), 3) := by decide +kernel
theorem dX9_pulses_61 : decode cX9_pulses 61 = .ok (.aload_n 0, 1) := by decide +kernel
theorem dX9_pulses_62 : decode cX9_pulses 62 = .ok (.invokevirtual 263, 3) := by decide +kernel
theorem dX9_pulses_65 : decode cX9_pulses 65 = .ok (.istore_n 2, 1) := by decide +kernel
theorem dX9_pulses_66 : decode cX9_pulses 66 = .ok (.iload_n 2, 1) := by decide +kernel
theorem dX9_pulses_67 : decode cX9_pulses 67 = .ok (.iconst (-1), 1) := by decide +kernel
theorem dX9_pulses_68 : decode cX9_pulses 68 = .ok (.if_icmp .eq 24, 3) := by decide +kernel
theorem dX9_pulses_71 : decode cX9_pulses 71 = .ok (.aload_n 0, 1) := by decide +kernel
theorem dX9_pulses_72 : decode cX9_pulses 72 = .ok (.iload_n 2, 1) := by decide +kernel
theorem dX9_pulses_73 : decode cX9_pulses 73 = .ok (.bipush 12, 2) := by decide +kernel
theorem dX9_pulses_75 : decode cX9_pulses 75 = .ok (.idiv, 1) := by decide +kernel
theorem dX9_pulses_76 : decode cX9_pulses 76 = .ok (.iload_n 2, 1) := by decide +kernel
theorem dX9_pulses_77 : decode cX9_pulses 77 = .ok (.bipush 12, 2) := by decide +kernel
theorem dX9_pulses_79 : decode cX9_pulses 79 = .ok (.irem, 1) := by decide +kernel
theorem dX9_pulses_80 : decode cX9_pulses 80 = .ok (.iload_n 1, 1) := by decide +kernel
theorem dX9_pulses_81 : decode cX9_pulses 81 = .ok (.invokevirtual 266, 3) := by decide +kernel
theorem dX9_pulses_84 : decode cX9_pulses 84 = .ok (.aload_n 0, 1) := by decide +kernel
theorem dX9_pulses_85 : decode cX9_pulses 85 = .ok (.invokevirtual 263, 3) := by decide +kernel
theorem dX9_pulses_88 : decode cX9_pulses 88 = .ok (.istore_n 2, 1) := by decide +kernel
theorem dX9_pulses_89 : decode cX9_pulses 89 = .ok (.goto (-23), 3) := by decide +kernel
theorem dX9_pulses_92 : decode cX9_pulses 92 = .ok (.iconst 0, 1) := by decide +kernel
theorem dX9_pulses_93 : decode cX9_pulses 93 = .ok (.istore_n 2, 1) := by decide +kernel
theorem dX9_pulses_94 : decode cX9_pulses 94 = .ok (.iload_n 2, 1) := by decide +kernel
theorem dX9_pulses_95 : decode cX9_pulses 95 = .ok (.aload_n 0, 1) := by decide +kernel
theorem dX9_pulses_96 : decode cX9_pulses 96 = .ok (.getfield 7, 3) := by decide +kernel
theorem dX9_pulses_99 : decode cX9_pulses 99 = .ok (.iconst 3, 1) := by decide +kernel
theorem dX9_pulses_100 : decode cX9_pulses 100 = .ok (.iaload, 1) := by decide +kernel
theorem dX9_pulses_101 : decode cX9_pulses 101 = .ok (.if_icmp .ge 76, 3) := by decide +kernel
theorem dX9_pulses_104 : decode cX9_pulses 104 = .ok (.aload_n 0, 1) := by decide +kernel
theorem dX9_pulses_105 : decode cX9_pulses 105 = .ok (.getfield 39, 3) := by decide +kernel
theorem dX9_pulses_108 : decode cX9_pulses 108 = .ok (.iload_n 2, 1) := by decide +kernel
theorem dX9_pulses_109 : decode cX9_pulses 109 = .ok (.baload, 1) := by decide +kernel
theorem dX9_pulses_110 : decode cX9_pulses 110 = .ok (.ifCond .ne 6, 3) := by decide +kernel
theorem dX9_pulses_113 : decode cX9_pulses 113 = .ok (.goto 58, 3) := by decide +kernel
theorem dX9_pulses_116 : decode cX9_pulses 116 = .ok (.aload_n 0, 1) := by decide +kernel
theorem dX9_pulses_117 : decode cX9_pulses 117 = .ok (.iload_n 2, 1) := by decide +kernel
theorem dX9_pulses_118 : decode cX9_pulses 118 = .ok (.iconst 1, 1) := by decide +kernel
theorem dX9_pulses_119 : decode cX9_pulses 119 = .ok (.aload_n 0, 1) := by decide +kernel
theorem dX9_pulses_120 : decode cX9_pulses 120 = .ok (.getfield 42, 3) := by decide +kernel
theorem dX9_pulses_123 : decode cX9_pulses 123 = .ok (.iload_n 2, 1) := by decide +kernel
theorem dX9_pulses_124 : decode cX9_pulses 124 = .ok (.iaload, 1) := by decide +kernel
theorem dX9_pulses_125 : decode cX9_pulses 125 = .ok (.invokevirtual 228, 3) := by decide +kernel
theorem dX9_pulses_128 : decode cX9_pulses 128 = .ok (.aload_n 0, 1) := by decide +kernel
theorem dX9_pulses_129 : decode cX9_pulses 129 = .ok (.iload_n 2, 1) := by decide +kernel
theorem dX9_pulses_130 : decode cX9_pulses 130 = .ok (.iconst 2, 1) := by decide +kernel
theorem dX9_pulses_131 : decode cX9_pulses 131 = .ok (.aload_n 0, 1) := by decide +kernel
theorem dX9_pulses_132 : decode cX9_pulses 132 = .ok (.getfield 45, 3) := by decide +kernel
theorem dX9_pulses_135 : decode cX9_pulses 135 = .ok (.iload_n 2, 1) := by decide +kernel
theorem dX9_pulses_136 : decode cX9_pulses 136 = .ok (.iaload, 1) := by decide +kernel
theorem dX9_pulses_137 : decode cX9_pulses 137 = .ok (.invokevirtual 228, 3) := by decide +kernel
theorem dX9_pulses_140 : decode cX9_pulses 140 = .ok (.aload_n 0, 1) := by decide +kernel
theorem dX9_pulses_141 : decode cX9_pulses 141 = .ok (.iload_n 2, 1) := by decide +kernel
theorem dX9_pulses_142 : decode cX9_pulses 142 = .ok (.bipush 8, 2) := by decide +kernel
theorem dX9_pulses_144 : decode cX9_pulses 144 = .ok (.iconst 0, 1) := by decide +kernel
theorem dX9_pulses_145 : decode cX9_pulses 145 = .ok (.aload_n 0, 1) := by decide +kernel
theorem dX9_pulses_146 : decode cX9_pulses 146 = .ok (.iload_n 2, 1) := by decide +kernel
theorem dX9_pulses_147 : decode cX9_pulses 147 = .ok (.bipush 8, 2) := by decide +kernel
theorem dX9_pulses_149 : decode cX9_pulses 149 = .ok (.invokevirtual 213, 3) := by decide +kernel
theorem dX9_pulses_152 : decode cX9_pulses 152 = .ok (.bipush 90, 2) := by decide +kernel
theorem dX9_pulses_154 : decode cX9_pulses 154 = .ok (.isub, 1) := by decide +kernel
theorem dX9_pulses_155 : decode cX9_pulses 155 = .ok (.invokestatic 269, 3) := by decide +kernel
theorem dX9_pulses_158 : decode cX9_pulses 158 = .ok (.invokevirtual 228, 3) := by decide +kernel
theorem dX9_pulses_161 : decode cX9_pulses 161 = .ok (.aload_n 0, 1) := by decide +kernel
theorem dX9_pulses_162 : decode cX9_pulses 162 = .ok (.getfield 51, 3) := by decide +kernel
theorem dX9_pulses_165 : decode cX9_pulses 165 = .ok (.iload_n 2, 1) := by decide +kernel
theorem dX9_pulses_166 : decode cX9_pulses 166 = .ok (.dup2, 1) := by decide +kernel
theorem dX9_pulses_167 : decode cX9_pulses 167 = .ok (.iaload, 1) := by decide +kernel
theorem dX9_pulses_168 : decode cX9_pulses 168 = .ok (.iconst 1, 1) := by decide +kernel
theorem dX9_pulses_169 : decode cX9_pulses 169 = .ok (.iadd, 1) := by decide +kernel
theorem dX9_pulses_170 : decode cX9_pulses 170 = .ok (.iastore, 1) := by decide +kernel
theorem dX9_pulses_171 : decode cX9_pulses 171 = .ok (.iinc 2 1, 3) := by decide +kernel
theorem dX9_pulses_174 : decode cX9_pulses 174 = .ok (.goto (-80), 3) := by decide +kernel
theorem dX9_pulses_177 : decode cX9_pulses 177 = .ok (.iconst 0, 1) := by decide +kernel
theorem dX9_pulses_178 : decode cX9_pulses 178 = .ok (.istore_n 2, 1) := by decide +kernel
theorem dX9_pulses_179 : decode cX9_pulses 179 = .ok (.iload_n 2, 1) := by decide +kernel
theorem dX9_pulses_180 : decode cX9_pulses 180 = .ok (.aload_n 0, 1) := by decide +kernel
theorem dX9_pulses_181 : decode cX9_pulses 181 = .ok (.getfield 7, 3) := by decide +kernel
theorem dX9_pulses_184 : decode cX9_pulses 184 = .ok (.iconst 3, 1) := by decide +kernel
theorem dX9_pulses_185 : decode cX9_pulses 185 = .ok (.iaload, 1) := by decide +kernel
theorem dX9_pulses_186 : decode cX9_pulses 186 = .ok (.if_icmp .ge 31, 3) := by decide +kernel
theorem dX9_pulses_189 : decode cX9_pulses 189 = .ok (.aload_n 0, 1) := by decide +kernel
theorem dX9_pulses_190 : decode cX9_pulses 190 = .ok (.iload_n 2, 1) := by decide +kernel
theorem dX9_pulses_191 : decode cX9_pulses 191 = .ok (.invokevirtual 216, 3) := by decide +kernel
theorem dX9_pulses_194 : decode cX9_pulses 194 = .ok (.ifCond .eq 17, 3) := by decide +kernel
theorem dX9_pulses_197 : decode cX9_pulses 197 = .ok (.aload_n 0, 1) := by decide +kernel
theorem dX9_pulses_198 : decode cX9_pulses 198 = .ok (.iload_n 2, 1) := by decide +kernel
theorem dX9_pulses_199 : decode cX9_pulses 199 = .ok (.iconst 4, 1) := by decide +kernel
theorem dX9_pulses_200 : decode cX9_pulses 200 = .ok (.invokevirtual 213, 3) := by decide +kernel
theorem dX9_pulses_203 : decode cX9_pulses 203 = .ok (.ifCond .gt 8, 3) := by decide +kernel
theorem dX9_pulses_206 : decode cX9_pulses 206 = .ok (.aload_n 0, 1) := by decide +kernel
theorem dX9_pulses_207 : decode cX9_pulses 207 = .ok (.iload_n 2, 1) := by decide +kernel
theorem dX9_pulses_208 : decode cX9_pulses 208 = .ok (.invokevirtual 272, 3) := by decide +kernel
theorem dX9_pulses_211 : decode cX9_pulses 211 = .ok (.iinc 2 1, 3) := by decide +kernel
theorem dX9_pulses_214 : decode cX9_pulses 214 = .ok (.goto (-35), 3) := by decide +kernel
theorem dX9_pulses_217 : decode cX9_pulses 217 = .ok (.return_, 1) := by decide +kernel
theorem dX9_logs_0 : decode cX9_logs 0 = .ok (.aload_n 0, 1) := by decide +kernel
theorem dX9_logs_1 : decode cX9_logs 1 = .ok (.getfield 7, 3) := by decide +kernel
theorem dX9_logs_4 : decode cX9_logs 4 = .ok (.bipush 8, 2) := by decide +kernel
theorem dX9_logs_6 : decode cX9_logs 6 = .ok (.iaload, 1) := by decide +kernel
theorem dX9_logs_7 : decode cX9_logs 7 = .ok (.bipush 10, 2) := by decide +kernel
theorem dX9_logs_9 : decode cX9_logs 9 = .ok (.if_icmp .ne 46, 3) := by decide +kernel
theorem dX9_logs_12 : decode cX9_logs 12 = .ok (.sipush 496, 3) := by decide +kernel
theorem dX9_logs_15 : decode cX9_logs 15 = .ok (.istore_n 1, 1) := by decide +kernel
theorem dX9_logs_16 : decode cX9_logs 16 = .ok (.iload_n 1, 1) := by decide +kernel
theorem dX9_logs_17 : decode cX9_logs 17 = .ok (.sipush 1180, 3) := by decide +kernel
theorem dX9_logs_20 : decode cX9_logs 20 = .ok (.if_icmp .ge 24, 3) := by decide +kernel
theorem dX9_logs_23 : decode cX9_logs 23 = .ok (.aload_n 0, 1) := by decide +kernel
theorem dX9_logs_24 : decode cX9_logs 24 = .ok (.getfield 7, 3) := by decide +kernel
theorem dX9_logs_27 : decode cX9_logs 27 = .ok (.iload_n 1, 1) := by decide +kernel
theorem dX9_logs_28 : decode cX9_logs 28 = .ok (.aload_n 0, 1) := by decide +kernel
theorem dX9_logs_29 : decode cX9_logs 29 = .ok (.getfield 7, 3) := by decide +kernel
theorem dX9_logs_32 : decode cX9_logs 32 = .ok (.iload_n 1, 1) := by decide +kernel
theorem dX9_logs_33 : decode cX9_logs 33 = .ok (.bipush 76, 2) := by decide +kernel
theorem dX9_logs_35 : decode cX9_logs 35 = .ok (.iadd, 1) := by decide +kernel
theorem dX9_logs_36 : decode cX9_logs 36 = .ok (.iaload, 1) := by decide +kernel
theorem dX9_logs_37 : decode cX9_logs 37 = .ok (.iastore, 1) := by decide +kernel
theorem dX9_logs_38 : decode cX9_logs 38 = .ok (.iinc 1 1, 3) := by decide +kernel
theorem dX9_logs_41 : decode cX9_logs 41 = .ok (.goto (-25), 3) := by decide +kernel
theorem dX9_logs_44 : decode cX9_logs 44 = .ok (.aload_n 0, 1) := by decide +kernel
theorem dX9_logs_45 : decode cX9_logs 45 = .ok (.getfield 7, 3) := by decide +kernel
theorem dX9_logs_48 : decode cX9_logs 48 = .ok (.bipush 8, 2) := by decide +kernel
theorem dX9_logs_50 : decode cX9_logs 50 = .ok (.dup2, 1) := by decide +kernel
theorem dX9_logs_51 : decode cX9_logs 51 = .ok (.iaload, 1) := by decide +kernel
theorem dX9_logs_52 : decode cX9_logs 52 = .ok (.iconst 1, 1) := by decide +kernel
theorem dX9_logs_53 : decode cX9_logs 53 = .ok (.isub, 1) := by decide +kernel
theorem dX9_logs_54 : decode cX9_logs 54 = .ok (.iastore, 1) := by decide +kernel
theorem dX9_logs_55 : decode cX9_logs 55 = .ok (.sipush 496, 3) := by decide +kernel
theorem dX9_logs_58 : decode cX9_logs 58 = .ok (.bipush 76, 2) := by decide +kernel
theorem dX9_logs_60 : decode cX9_logs 60 = .ok (.aload_n 0, 1) := by decide +kernel
theorem dX9_logs_61 : decode cX9_logs 61 = .ok (.getfield 7, 3) := by decide +kernel
theorem dX9_logs_64 : decode cX9_logs 64 = .ok (.bipush 8, 2) := by decide +kernel
theorem dX9_logs_66 : decode cX9_logs 66 = .ok (.iaload, 1) := by decide +kernel
theorem dX9_logs_67 : decode cX9_logs 67 = .ok (.imul, 1) := by decide +kernel
theorem dX9_logs_68 : decode cX9_logs 68 = .ok (.iadd, 1) := by decide +kernel
theorem dX9_logs_69 : decode cX9_logs 69 = .ok (.istore_n 1, 1) := by decide +kernel
theorem dX9_logs_70 : decode cX9_logs 70 = .ok (.iconst 0, 1) := by decide +kernel
theorem dX9_logs_71 : decode cX9_logs 71 = .ok (.istore_n 2, 1) := by decide +kernel
theorem dX9_logs_72 : decode cX9_logs 72 = .ok (.iload_n 2, 1) := by decide +kernel
theorem dX9_logs_73 : decode cX9_logs 73 = .ok (.iconst 4, 1) := by decide +kernel
theorem dX9_logs_74 : decode cX9_logs 74 = .ok (.if_icmp .ge 34, 3) := by decide +kernel
theorem dX9_logs_77 : decode cX9_logs 77 = .ok (.aload_n 0, 1) := by decide +kernel
theorem dX9_logs_78 : decode cX9_logs 78 = .ok (.getfield 7, 3) := by decide +kernel
theorem dX9_logs_81 : decode cX9_logs 81 = .ok (.iload_n 1, 1) := by decide +kernel
theorem dX9_logs_82 : decode cX9_logs 82 = .ok (.iload_n 2, 1) := by decide +kernel
theorem dX9_logs_83 : decode cX9_logs 83 = .ok (.iadd, 1) := by decide +kernel
theorem dX9_logs_84 : decode cX9_logs 84 = .ok (.aload_n 0, 1) := by decide +kernel
theorem dX9_logs_85 : decode cX9_logs 85 = .ok (.iload_n 2, 1) := by decide +kernel
theorem dX9_logs_86 : decode cX9_logs 86 = .ok (.invokevirtual 275, 3) := by decide +kernel
theorem dX9_logs_89 : decode cX9_logs 89 = .ok (.ifCond .eq 11, 3) := by decide +kernel
theorem dX9_logs_92 : decode cX9_logs 92 = .ok (.aload_n 0, 1) := by decide +kernel
theorem dX9_logs_93 : decode cX9_logs 93 = .ok (.iload_n 2, 1) := by decide +kernel
theorem dX9_logs_94 : decode cX9_logs 94 = .ok (.invokevirtual 278, 3) := by decide +kernel
theorem dX9_logs_97 : decode cX9_logs 97 = .ok (.goto 4, 3) := by decide +kernel
theorem dX9_logs_100 : decode cX9_logs 100 = .ok (.iconst (-1), 1) := by decide +kernel
theorem dX9_logs_101 : decode cX9_logs 101 = .ok (.iastore, 1) := by decide +kernel
theorem dX9_logs_102 : decode cX9_logs 102 = .ok (.iinc 2 1, 3) := by decide +kernel
theorem dX9_logs_105 : decode cX9_logs 105 = .ok (.goto (-33), 3) := by decide +kernel
theorem dX9_logs_108 : decode cX9_logs 108 = .ok (.iconst 0, 1) := by decide +kernel
theorem dX9_logs_109 : decode cX9_logs 109 = .ok (.istore_n 2, 1) := by decide +kernel
theorem dX9_logs_110 : decode cX9_logs 110 = .ok (.iload_n 2, 1) := by decide +kernel
theorem dX9_logs_111 : decode cX9_logs 111 = .ok (.aload_n 0, 1) := by decide +kernel
theorem dX9_logs_112 : decode cX9_logs 112 = .ok (.getfield 7, 3) := by decide +kernel
theorem dX9_logs_115 : decode cX9_logs 115 = .ok (.iconst 3, 1) := by decide +kernel
theorem dX9_logs_116 : decode cX9_logs 116 = .ok (.iaload, 1) := by decide +kernel
theorem dX9_logs_117 : decode cX9_logs 117 = .ok (.if_icmp .ge 59, 3) := by decide +kernel
theorem dX9_logs_120 : decode cX9_logs 120 = .ok (.iconst 0, 1) := by decide +kernel
theorem dX9_logs_121 : decode cX9_logs 121 = .ok (.istore_n 3, 1) := by decide +kernel
theorem dX9_logs_122 : decode cX9_logs 122 = .ok (.iload_n 3, 1) := by decide +kernel
theorem dX9_logs_123 : decode cX9_logs 123 = .ok (.bipush 6, 2) := by decide +kernel
theorem dX9_logs_125 : decode cX9_logs 125 = .ok (.if_icmp .ge 45, 3) := by decide +kernel
theorem dX9_logs_128 : decode cX9_logs 128 = .ok (.aload_n 0, 1) := by decide +kernel
theorem dX9_logs_129 : decode cX9_logs 129 = .ok (.getfield 7, 3) := by decide +kernel
theorem dX9_logs_132 : decode cX9_logs 132 = .ok (.iload_n 1, 1) := by decide +kernel
theorem dX9_logs_133 : decode cX9_logs 133 = .ok (.iconst 4, 1) := by decide +kernel
theorem dX9_logs_134 : decode cX9_logs 134 = .ok (.iadd, 1) := by decide +kernel
theorem dX9_logs_135 : decode cX9_logs 135 = .ok (.bipush 6, 2) := by decide +kernel
theorem dX9_logs_137 : decode cX9_logs 137 = .ok (.iload_n 2, 1) := by decide +kernel
theorem dX9_logs_138 : decode cX9_logs 138 = .ok (.imul, 1) := by decide +kernel
theorem dX9_logs_139 : decode cX9_logs 139 = .ok (.iadd, 1) := by decide +kernel
theorem dX9_logs_140 : decode cX9_logs 140 = .ok (.iload_n 3, 1) := by decide +kernel
theorem dX9_logs_141 : decode cX9_logs 141 = .ok (.iadd, 1) := by decide +kernel
theorem dX9_logs_142 : decode cX9_logs 142 = .ok (.aload_n 0, 1) := by decide +kernel
theorem dX9_logs_143 : decode cX9_logs 143 = .ok (.iload_n 2, 1) := by decide +kernel
theorem dX9_logs_144 : decode cX9_logs 144 = .ok (.invokevirtual 216, 3) := by decide +kernel
theorem dX9_logs_147 : decode cX9_logs 147 = .ok (.ifCond .eq 15, 3) := by decide +kernel
theorem dX9_logs_150 : decode cX9_logs 150 = .ok (.aload_n 0, 1) := by decide +kernel
theorem dX9_logs_151 : decode cX9_logs 151 = .ok (.iload_n 2, 1) := by decide +kernel
theorem dX9_logs_152 : decode cX9_logs 152 = .ok (.bipush 11, 2) := by decide +kernel
theorem dX9_logs_154 : decode cX9_logs 154 = .ok (.iload_n 3, 1) := by decide +kernel
theorem dX9_logs_155 : decode cX9_logs 155 = .ok (.iadd, 1) := by decide +kernel
theorem dX9_logs_156 : decode cX9_logs 156 = .ok (.invokevirtual 213, 3) := by decide +kernel
theorem dX9_logs_159 : decode cX9_logs 159 = .ok (.goto 4, 3) := by decide +kernel
theorem dX9_logs_162 : decode cX9_logs 162 = .ok (.iconst 0, 1) := by decide +kernel
theorem dX9_logs_163 : decode cX9_logs 163 = .ok (.iastore, 1) := by decide +kernel
theorem dX9_logs_164 : decode cX9_logs 164 = .ok (.iinc 3 1, 3) := by decide +kernel
theorem dX9_logs_167 : decode cX9_logs 167 = .ok (.goto (-45), 3) := by decide +kernel
theorem dX9_logs_170 : decode cX9_logs 170 = .ok (.iinc 2 1, 3) := by decide +kernel
theorem dX9_logs_173 : decode cX9_logs 173 = .ok (.goto (-63), 3) := by decide +kernel
theorem dX9_logs_176 : decode cX9_logs 176 = .ok (.aload_n 0, 1) := by decide +kernel
theorem dX9_logs_177 : decode cX9_logs 177 = .ok (.getfield 7, 3) := by decide +kernel
theorem dX9_logs_180 : decode cX9_logs 180 = .ok (.bipush 8, 2) := by decide +kernel
theorem dX9_logs_182 : decode cX9_logs 182 = .ok (.dup2, 1) := by decide +kernel
theorem dX9_logs_183 : decode cX9_logs 183 = .ok (.iaload, 1) := by decide +kernel
theorem dX9_logs_184 : decode cX9_logs 184 = .ok (.iconst 1, 1) := by decide +kernel
theorem dX9_logs_185 : decode cX9_logs 185 = .ok (.iadd, 1) := by decide +kernel
theorem dX9_logs_186 : decode cX9_logs 186 = .ok (.iastore, 1) := by decide +kernel
theorem dX9_logs_187 : decode cX9_logs 187 = .ok (.return_, 1) := by decide +kernel
theorem dX9_sealNow_0 : decode cX9_sealNow 0 = .ok (.bipush 34, 2) := by decide +kernel
theorem dX9_sealNow_2 : decode cX9_sealNow 2 = .ok (.iconst 3, 1) := by decide +kernel
theorem dX9_sealNow_3 : decode cX9_sealNow 3 = .ok (.iload_n 1, 1) := by decide +kernel
theorem dX9_sealNow_4 : decode cX9_sealNow 4 = .ok (.imul, 1) := by decide +kernel
theorem dX9_sealNow_5 : decode cX9_sealNow 5 = .ok (.iadd, 1) := by decide +kernel
theorem dX9_sealNow_6 : decode cX9_sealNow 6 = .ok (.istore_n 2, 1) := by decide +kernel
theorem dX9_sealNow_7 : decode cX9_sealNow 7 = .ok (.aload_n 0, 1) := by decide +kernel
theorem dX9_sealNow_8 : decode cX9_sealNow 8 = .ok (.getfield 7, 3) := by decide +kernel
theorem dX9_sealNow_11 : decode cX9_sealNow 11 = .ok (.iload_n 2, 1) := by decide +kernel
theorem dX9_sealNow_12 : decode cX9_sealNow 12 = .ok (.iconst 1, 1) := by decide +kernel
theorem dX9_sealNow_13 : decode cX9_sealNow 13 = .ok (.iadd, 1) := by decide +kernel
theorem dX9_sealNow_14 : decode cX9_sealNow 14 = .ok (.iaload, 1) := by decide +kernel
theorem dX9_sealNow_15 : decode cX9_sealNow 15 = .ok (.iconst 1, 1) := by decide +kernel
theorem dX9_sealNow_16 : decode cX9_sealNow 16 = .ok (.if_icmp .ne 14, 3) := by decide +kernel
theorem dX9_sealNow_19 : decode cX9_sealNow 19 = .ok (.aload_n 0, 1) := by decide +kernel
theorem dX9_sealNow_20 : decode cX9_sealNow 20 = .ok (.getfield 7, 3) := by decide +kernel
theorem dX9_sealNow_23 : decode cX9_sealNow 23 = .ok (.iload_n 2, 1) := by decide +kernel
theorem dX9_sealNow_24 : decode cX9_sealNow 24 = .ok (.iconst 2, 1) := by decide +kernel
theorem dX9_sealNow_25 : decode cX9_sealNow 25 = .ok (.iadd, 1) := by decide +kernel
theorem dX9_sealNow_26 : decode cX9_sealNow 26 = .ok (.iaload, 1) := by decide +kernel
theorem dX9_sealNow_27 : decode cX9_sealNow 27 = .ok (.goto 4, 3) := by decide +kernel
theorem dX9_sealNow_30 : decode cX9_sealNow 30 = .ok (.iconst (-1), 1) := by decide +kernel
theorem dX9_sealNow_31 : decode cX9_sealNow 31 = .ok (.ireturn, 1) := by decide +kernel
theorem dX9_goesOn_0 : decode cX9_goesOn 0 = .ok (.aload_n 0, 1) := by decide +kernel
theorem dX9_goesOn_1 : decode cX9_goesOn 1 = .ok (.invokevirtual 281, 3) := by decide +kernel
theorem dX9_goesOn_4 : decode cX9_goesOn 4 = .ok (.iload_n 1, 1) := by decide +kernel
theorem dX9_goesOn_5 : decode cX9_goesOn 5 = .ok (.ifCond .eq 7, 3) := by decide +kernel
theorem dX9_goesOn_8 : decode cX9_goesOn 8 = .ok (.aload_n 0, 1) := by decide +kernel
theorem dX9_goesOn_9 : decode cX9_goesOn 9 = .ok (.invokevirtual 284, 3) := by decide +kernel
theorem dX9_goesOn_12 : decode cX9_goesOn 12 = .ok (.aload_n 0, 1) := by decide +kernel
theorem dX9_goesOn_13 : decode cX9_goesOn 13 = .ok (.getfield 7, 3) := by decide +kernel
theorem dX9_goesOn_16 : decode cX9_goesOn 16 = .ok (.bipush 7, 2) := by decide +kernel
theorem dX9_goesOn_18 : decode cX9_goesOn 18 = .ok (.iconst 0, 1) := by decide +kernel
theorem dX9_goesOn_19 : decode cX9_goesOn 19 = .ok (.iastore, 1) := by decide +kernel
theorem dX9_goesOn_20 : decode cX9_goesOn 20 = .ok (.aload_n 0, 1) := by decide +kernel
theorem dX9_goesOn_21 : decode cX9_goesOn 21 = .ok (.iconst 0, 1) := by decide +kernel
theorem dX9_goesOn_22 : decode cX9_goesOn 22 = .ok (.putfield 257, 3) := by decide +kernel
theorem dX9_goesOn_25 : decode cX9_goesOn 25 = .ok (.iconst 0, 1) := by decide +kernel
theorem dX9_goesOn_26 : decode cX9_goesOn 26 = .ok (.istore_n 2, 1) := by decide +kernel
theorem dX9_goesOn_27 : decode cX9_goesOn 27 = .ok (.iload_n 2, 1) := by decide +kernel
theorem dX9_goesOn_28 : decode cX9_goesOn 28 = .ok (.bipush 12, 2) := by decide +kernel
theorem dX9_goesOn_30 : decode cX9_goesOn 30 = .ok (.if_icmp .ge 16, 3) := by decide +kernel
theorem dX9_goesOn_33 : decode cX9_goesOn 33 = .ok (.aload_n 0, 1) := by decide +kernel
theorem dX9_goesOn_34 : decode cX9_goesOn 34 = .ok (.getfield 51, 3) := by decide +kernel
theorem dX9_goesOn_37 : decode cX9_goesOn 37 = .ok (.iload_n 2, 1) := by decide +kernel
theorem dX9_goesOn_38 : decode cX9_goesOn 38 = .ok (.iconst 0, 1) := by decide +kernel
theorem dX9_goesOn_39 : decode cX9_goesOn 39 = .ok (.iastore, 1) := by decide +kernel
theorem dX9_goesOn_40 : decode cX9_goesOn 40 = .ok (.iinc 2 1, 3) := by decide +kernel
theorem dX9_goesOn_43 : decode cX9_goesOn 43 = .ok (.goto (-16), 3) := by decide +kernel
theorem dX9_goesOn_46 : decode cX9_goesOn 46 = .ok (.iconst 0, 1) := by decide +kernel
theorem dX9_goesOn_47 : decode cX9_goesOn 47 = .ok (.istore_n 2, 1) := by decide +kernel
theorem dX9_goesOn_48 : decode cX9_goesOn 48 = .ok (.iload_n 2, 1) := by decide +kernel
theorem dX9_goesOn_49 : decode cX9_goesOn 49 = .ok (.sipush 144, 3) := by decide +kernel
theorem dX9_goesOn_52 : decode cX9_goesOn 52 = .ok (.if_icmp .ge 16, 3) := by decide +kernel
theorem dX9_goesOn_55 : decode cX9_goesOn 55 = .ok (.aload_n 0, 1) := by decide +kernel
theorem dX9_goesOn_56 : decode cX9_goesOn 56 = .ok (.getfield 54, 3) := by decide +kernel
theorem dX9_goesOn_59 : decode cX9_goesOn 59 = .ok (.iload_n 2, 1) := by decide +kernel
theorem dX9_goesOn_60 : decode cX9_goesOn 60 = .ok (.iconst (-1), 1) := by decide +kernel
theorem dX9_goesOn_61 : decode cX9_goesOn 61 = .ok (.iastore, 1) := by decide +kernel
theorem dX9_goesOn_62 : decode cX9_goesOn 62 = .ok (.iinc 2 1, 3) := by decide +kernel
theorem dX9_goesOn_65 : decode cX9_goesOn 65 = .ok (.goto (-17), 3) := by decide +kernel
theorem dX9_goesOn_68 : decode cX9_goesOn 68 = .ok (.iconst 0, 1) := by decide +kernel
theorem dX9_goesOn_69 : decode cX9_goesOn 69 = .ok (.istore_n 2, 1) := by decide +kernel
theorem dX9_goesOn_70 : decode cX9_goesOn 70 = .ok (.iload_n 2, 1) := by decide +kernel
theorem dX9_goesOn_71 : decode cX9_goesOn 71 = .ok (.bipush 6, 2) := by decide +kernel
theorem dX9_goesOn_73 : decode cX9_goesOn 73 = .ok (.if_icmp .ge 14, 3) := by decide +kernel
theorem dX9_goesOn_76 : decode cX9_goesOn 76 = .ok (.aload_n 0, 1) := by decide +kernel
theorem dX9_goesOn_77 : decode cX9_goesOn 77 = .ok (.iload_n 2, 1) := by decide +kernel
theorem dX9_goesOn_78 : decode cX9_goesOn 78 = .ok (.invokevirtual 287, 3) := by decide +kernel
theorem dX9_goesOn_81 : decode cX9_goesOn 81 = .ok (.iinc 2 1, 3) := by decide +kernel
theorem dX9_goesOn_84 : decode cX9_goesOn 84 = .ok (.goto (-14), 3) := by decide +kernel
theorem dX9_goesOn_87 : decode cX9_goesOn 87 = .ok (.aload_n 0, 1) := by decide +kernel
theorem dX9_goesOn_88 : decode cX9_goesOn 88 = .ok (.getfield 7, 3) := by decide +kernel
theorem dX9_goesOn_91 : decode cX9_goesOn 91 = .ok (.iconst 4, 1) := by decide +kernel
theorem dX9_goesOn_92 : decode cX9_goesOn 92 = .ok (.dup2, 1) := by decide +kernel
theorem dX9_goesOn_93 : decode cX9_goesOn 93 = .ok (.iaload, 1) := by decide +kernel
theorem dX9_goesOn_94 : decode cX9_goesOn 94 = .ok (.iconst 1, 1) := by decide +kernel
theorem dX9_goesOn_95 : decode cX9_goesOn 95 = .ok (.iadd, 1) := by decide +kernel
theorem dX9_goesOn_96 : decode cX9_goesOn 96 = .ok (.iastore, 1) := by decide +kernel
theorem dX9_goesOn_97 : decode cX9_goesOn 97 = .ok (.iconst 0, 1) := by decide +kernel
theorem dX9_goesOn_98 : decode cX9_goesOn 98 = .ok (.istore_n 2, 1) := by decide +kernel
theorem dX9_goesOn_99 : decode cX9_goesOn 99 = .ok (.iload_n 2, 1) := by decide +kernel
theorem dX9_goesOn_100 : decode cX9_goesOn 100 = .ok (.iconst 4, 1) := by decide +kernel
theorem dX9_goesOn_101 : decode cX9_goesOn 101 = .ok (.if_icmp .ge 23, 3) := by decide +kernel
theorem dX9_goesOn_104 : decode cX9_goesOn 104 = .ok (.aload_n 0, 1) := by decide +kernel
theorem dX9_goesOn_105 : decode cX9_goesOn 105 = .ok (.getfield 7, 3) := by decide +kernel
theorem dX9_goesOn_108 : decode cX9_goesOn 108 = .ok (.bipush 34, 2) := by decide +kernel
theorem dX9_goesOn_110 : decode cX9_goesOn 110 = .ok (.iconst 3, 1) := by decide +kernel
theorem dX9_goesOn_111 : decode cX9_goesOn 111 = .ok (.iload_n 2, 1) := by decide +kernel
theorem dX9_goesOn_112 : decode cX9_goesOn 112 = .ok (.imul, 1) := by decide +kernel
theorem dX9_goesOn_113 : decode cX9_goesOn 113 = .ok (.iadd, 1) := by decide +kernel
theorem dX9_goesOn_114 : decode cX9_goesOn 114 = .ok (.iconst 1, 1) := by decide +kernel
theorem dX9_goesOn_115 : decode cX9_goesOn 115 = .ok (.iadd, 1) := by decide +kernel
theorem dX9_goesOn_116 : decode cX9_goesOn 116 = .ok (.iconst 0, 1) := by decide +kernel
theorem dX9_goesOn_117 : decode cX9_goesOn 117 = .ok (.iastore, 1) := by decide +kernel
theorem dX9_goesOn_118 : decode cX9_goesOn 118 = .ok (.iinc 2 1, 3) := by decide +kernel
theorem dX9_goesOn_121 : decode cX9_goesOn 121 = .ok (.goto (-22), 3) := by decide +kernel
theorem dX9_goesOn_124 : decode cX9_goesOn 124 = .ok (.iconst 0, 1) := by decide +kernel
theorem dX9_goesOn_125 : decode cX9_goesOn 125 = .ok (.istore_n 2, 1) := by decide +kernel
theorem dX9_goesOn_126 : decode cX9_goesOn 126 = .ok (.iload_n 2, 1) := by decide +kernel
theorem dX9_goesOn_127 : decode cX9_goesOn 127 = .ok (.aload_n 0, 1) := by decide +kernel
theorem dX9_goesOn_128 : decode cX9_goesOn 128 = .ok (.getfield 7, 3) := by decide +kernel
theorem dX9_goesOn_131 : decode cX9_goesOn 131 = .ok (.iconst 3, 1) := by decide +kernel
theorem dX9_goesOn_132 : decode cX9_goesOn 132 = .ok (.iaload, 1) := by decide +kernel
theorem dX9_goesOn_133 : decode cX9_goesOn 133 = .ok (.if_icmp .ge 33, 3) := by decide +kernel
theorem dX9_goesOn_136 : decode cX9_goesOn 136 = .ok (.iconst 0, 1) := by decide +kernel
theorem dX9_goesOn_137 : decode cX9_goesOn 137 = .ok (.istore_n 3, 1) := by decide +kernel
theorem dX9_goesOn_138 : decode cX9_goesOn 138 = .ok (.iload_n 3, 1) := by decide +kernel
theorem dX9_goesOn_139 : decode cX9_goesOn 139 = .ok (.bipush 6, 2) := by decide +kernel
theorem dX9_goesOn_141 : decode cX9_goesOn 141 = .ok (.if_icmp .ge 19, 3) := by decide +kernel
theorem dX9_goesOn_144 : decode cX9_goesOn 144 = .ok (.aload_n 0, 1) := by decide +kernel
theorem dX9_goesOn_145 : decode cX9_goesOn 145 = .ok (.iload_n 2, 1) := by decide +kernel
theorem dX9_goesOn_146 : decode cX9_goesOn 146 = .ok (.bipush 11, 2) := by decide +kernel
theorem dX9_goesOn_148 : decode cX9_goesOn 148 = .ok (.iload_n 3, 1) := by decide +kernel
theorem dX9_goesOn_149 : decode cX9_goesOn 149 = .ok (.iadd, 1) := by decide +kernel
theorem dX9_goesOn_150 : decode cX9_goesOn 150 = .ok (.iconst 1, 1) := by decide +kernel
theorem dX9_goesOn_151 : decode cX9_goesOn 151 = .ok (.invokevirtual 228, 3) := by decide +kernel
theorem dX9_goesOn_154 : decode cX9_goesOn 154 = .ok (.iinc 3 1, 3) := by decide +kernel
theorem dX9_goesOn_157 : decode cX9_goesOn 157 = .ok (.goto (-19), 3) := by decide +kernel
theorem dX9_goesOn_160 : decode cX9_goesOn 160 = .ok (.iinc 2 1, 3) := by decide +kernel
theorem dX9_goesOn_163 : decode cX9_goesOn 163 = .ok (.goto (-37), 3) := by decide +kernel
theorem dX9_goesOn_166 : decode cX9_goesOn 166 = .ok (.return_, 1) := by decide +kernel
theorem dX9_sailing_0 : decode cX9_sailing 0 = .ok (.iconst 0, 1) := by decide +kernel
theorem dX9_sailing_1 : decode cX9_sailing 1 = .ok (.istore_n 1, 1) := by decide +kernel
theorem dX9_sailing_2 : decode cX9_sailing 2 = .ok (.iconst 0, 1) := by decide +kernel
theorem dX9_sailing_3 : decode cX9_sailing 3 = .ok (.istore_n 2, 1) := by decide +kernel
theorem dX9_sailing_4 : decode cX9_sailing 4 = .ok (.iload_n 2, 1) := by decide +kernel
theorem dX9_sailing_5 : decode cX9_sailing 5 = .ok (.aload_n 0, 1) := by decide +kernel
theorem dX9_sailing_6 : decode cX9_sailing 6 = .ok (.getfield 7, 3) := by decide +kernel
theorem dX9_sailing_9 : decode cX9_sailing 9 = .ok (.iconst 3, 1) := by decide +kernel
theorem dX9_sailing_10 : decode cX9_sailing 10 = .ok (.iaload, 1) := by decide +kernel
theorem dX9_sailing_11 : decode cX9_sailing 11 = .ok (.if_icmp .ge 25, 3) := by decide +kernel
theorem dX9_sailing_14 : decode cX9_sailing 14 = .ok (.iload_n 1, 1) := by decide +kernel
theorem dX9_sailing_15 : decode cX9_sailing 15 = .ok (.aload_n 0, 1) := by decide +kernel
theorem dX9_sailing_16 : decode cX9_sailing 16 = .ok (.iload_n 2, 1) := by decide +kernel
theorem dX9_sailing_17 : decode cX9_sailing 17 = .ok (.invokevirtual 216, 3) := by decide +kernel
theorem dX9_sailing_20 : decode cX9_sailing 20 = .ok (.ifCond .eq 7, 3) := by decide +kernel
theorem dX9_sailing_23 : decode cX9_sailing 23 = .ok (.iconst 1, 1) := by decide +kernel
theorem dX9_sailing_24 : decode cX9_sailing 24 = .ok (.goto 4, 3) := by decide +kernel
theorem dX9_sailing_27 : decode cX9_sailing 27 = .ok (.iconst 0, 1) := by decide +kernel
theorem dX9_sailing_28 : decode cX9_sailing 28 = .ok (.iadd, 1) := by decide +kernel
theorem dX9_sailing_29 : decode cX9_sailing 29 = .ok (.istore_n 1, 1) := by decide +kernel
theorem dX9_sailing_30 : decode cX9_sailing 30 = .ok (.iinc 2 1, 3) := by decide +kernel
theorem dX9_sailing_33 : decode cX9_sailing 33 = .ok (.goto (-29), 3) := by decide +kernel
theorem dX9_sailing_36 : decode cX9_sailing 36 = .ok (.iload_n 1, 1) := by decide +kernel
theorem dX9_sailing_37 : decode cX9_sailing 37 = .ok (.ireturn, 1) := by decide +kernel
theorem dX9_onlyFleet_0 : decode cX9_onlyFleet 0 = .ok (.iconst (-1), 1) := by decide +kernel
theorem dX9_onlyFleet_1 : decode cX9_onlyFleet 1 = .ok (.istore_n 1, 1) := by decide +kernel
theorem dX9_onlyFleet_2 : decode cX9_onlyFleet 2 = .ok (.iconst 0, 1) := by decide +kernel
theorem dX9_onlyFleet_3 : decode cX9_onlyFleet 3 = .ok (.istore_n 2, 1) := by decide +kernel
theorem dX9_onlyFleet_4 : decode cX9_onlyFleet 4 = .ok (.iload_n 2, 1) := by decide +kernel
theorem dX9_onlyFleet_5 : decode cX9_onlyFleet 5 = .ok (.aload_n 0, 1) := by decide +kernel
theorem dX9_onlyFleet_6 : decode cX9_onlyFleet 6 = .ok (.getfield 7, 3) := by decide +kernel
theorem dX9_onlyFleet_9 : decode cX9_onlyFleet 9 = .ok (.iconst 3, 1) := by decide +kernel
theorem dX9_onlyFleet_10 : decode cX9_onlyFleet 10 = .ok (.iaload, 1) := by decide +kernel
theorem dX9_onlyFleet_11 : decode cX9_onlyFleet 11 = .ok (.if_icmp .ge 44, 3) := by decide +kernel
theorem dX9_onlyFleet_14 : decode cX9_onlyFleet 14 = .ok (.aload_n 0, 1) := by decide +kernel
theorem dX9_onlyFleet_15 : decode cX9_onlyFleet 15 = .ok (.iload_n 2, 1) := by decide +kernel
theorem dX9_onlyFleet_16 : decode cX9_onlyFleet 16 = .ok (.invokevirtual 216, 3) := by decide +kernel
theorem dX9_onlyFleet_19 : decode cX9_onlyFleet 19 = .ok (.ifCond .ne 6, 3) := by decide +kernel
theorem dX9_onlyFleet_22 : decode cX9_onlyFleet 22 = .ok (.goto 27, 3) := by decide +kernel
theorem dX9_onlyFleet_25 : decode cX9_onlyFleet 25 = .ok (.iload_n 1, 1) := by decide +kernel
theorem dX9_onlyFleet_26 : decode cX9_onlyFleet 26 = .ok (.iconst (-1), 1) := by decide +kernel
theorem dX9_onlyFleet_27 : decode cX9_onlyFleet 27 = .ok (.if_icmp .eq 15, 3) := by decide +kernel
theorem dX9_onlyFleet_30 : decode cX9_onlyFleet 30 = .ok (.iload_n 1, 1) := by decide +kernel
theorem dX9_onlyFleet_31 : decode cX9_onlyFleet 31 = .ok (.aload_n 0, 1) := by decide +kernel
theorem dX9_onlyFleet_32 : decode cX9_onlyFleet 32 = .ok (.iload_n 2, 1) := by decide +kernel
theorem dX9_onlyFleet_33 : decode cX9_onlyFleet 33 = .ok (.iconst 0, 1) := by decide +kernel
theorem dX9_onlyFleet_34 : decode cX9_onlyFleet 34 = .ok (.invokevirtual 213, 3) := by decide +kernel
theorem dX9_onlyFleet_37 : decode cX9_onlyFleet 37 = .ok (.if_icmp .eq 5, 3) := by decide +kernel
theorem dX9_onlyFleet_40 : decode cX9_onlyFleet 40 = .ok (.iconst (-1), 1) := by decide +kernel
theorem dX9_onlyFleet_41 : decode cX9_onlyFleet 41 = .ok (.ireturn, 1) := by decide +kernel
theorem dX9_onlyFleet_42 : decode cX9_onlyFleet 42 = .ok (.aload_n 0, 1) := by decide +kernel
theorem dX9_onlyFleet_43 : decode cX9_onlyFleet 43 = .ok (.iload_n 2, 1) := by decide +kernel
theorem dX9_onlyFleet_44 : decode cX9_onlyFleet 44 = .ok (.iconst 0, 1) := by decide +kernel
theorem dX9_onlyFleet_45 : decode cX9_onlyFleet 45 = .ok (.invokevirtual 213, 3) := by decide +kernel
theorem dX9_onlyFleet_48 : decode cX9_onlyFleet 48 = .ok (.istore_n 1, 1) := by decide +kernel
theorem dX9_onlyFleet_49 : decode cX9_onlyFleet 49 = .ok (.iinc 2 1, 3) := by decide +kernel
theorem dX9_onlyFleet_52 : decode cX9_onlyFleet 52 = .ok (.goto (-48), 3) := by decide +kernel
theorem dX9_onlyFleet_55 : decode cX9_onlyFleet 55 = .ok (.iload_n 1, 1) := by decide +kernel
theorem dX9_onlyFleet_56 : decode cX9_onlyFleet 56 = .ok (.ireturn, 1) := by decide +kernel
theorem dX9_count_0 : decode cX9_count 0 = .ok (.aload_n 0, 1) := by decide +kernel
theorem dX9_count_1 : decode cX9_count 1 = .ok (.iload_n 1, 1) := by decide +kernel
theorem dX9_count_2 : decode cX9_count 2 = .ok (.iconst 0, 1) := by decide +kernel
theorem dX9_count_3 : decode cX9_count 3 = .ok (.bipush 10, 2) := by decide +kernel
theorem dX9_count_5 : decode cX9_count 5 = .ok (.invokestatic 76, 3) := by decide +kernel
theorem dX9_count_8 : decode cX9_count 8 = .ok (.ifCond .eq 7, 3) := by decide +kernel
theorem dX9_count_11 : decode cX9_count 11 = .ok (.iconst 0, 1) := by decide +kernel
theorem dX9_count_12 : decode cX9_count 12 = .ok (.goto 4, 3) := by decide +kernel
theorem dX9_count_15 : decode cX9_count 15 = .ok (.iconst 1, 1) := by decide +kernel
theorem dX9_count_16 : decode cX9_count 16 = .ok (.putfield 66, 3) := by decide +kernel
theorem dX9_count_19 : decode cX9_count 19 = .ok (.aload_n 0, 1) := by decide +kernel
theorem dX9_count_20 : decode cX9_count 20 = .ok (.getfield 66, 3) := by decide +kernel
theorem dX9_count_23 : decode cX9_count 23 = .ok (.ifCond .le 5, 3) := by decide +kernel
theorem dX9_count_26 : decode cX9_count 26 = .ok (.iconst 0, 1) := by decide +kernel
theorem dX9_count_27 : decode cX9_count 27 = .ok (.ireturn, 1) := by decide +kernel
theorem dX9_count_28 : decode cX9_count 28 = .ok (.iload_n 1, 1) := by decide +kernel
theorem dX9_count_29 : decode cX9_count 29 = .ok (.bipush 9, 2) := by decide +kernel
theorem dX9_count_31 : decode cX9_count 31 = .ok (.if_icmp .ge 12, 3) := by decide +kernel
theorem dX9_count_34 : decode cX9_count 34 = .ok (.aload_n 0, 1) := by decide +kernel
theorem dX9_count_35 : decode cX9_count 35 = .ok (.getfield 7, 3) := by decide +kernel
theorem dX9_count_38 : decode cX9_count 38 = .ok (.iload_n 1, 1) := by decide +kernel
theorem dX9_count_39 : decode cX9_count 39 = .ok (.iaload, 1) := by decide +kernel
theorem dX9_count_40 : decode cX9_count 40 = .ok (.goto 20, 3) := by decide +kernel
theorem dX9_count_43 : decode cX9_count 43 = .ok (.iload_n 1, 1) := by decide +kernel
theorem dX9_count_44 : decode cX9_count 44 = .ok (.bipush 9, 2) := by decide +kernel
theorem dX9_count_46 : decode cX9_count 46 = .ok (.if_icmp .ne 10, 3) := by decide +kernel
theorem dX9_count_49 : decode cX9_count 49 = .ok (.aload_n 0, 1) := by decide +kernel
theorem dX9_count_50 : decode cX9_count 50 = .ok (.invokevirtual 290, 3) := by decide +kernel
theorem dX9_count_53 : decode cX9_count 53 = .ok (.goto 7, 3) := by decide +kernel
theorem dX9_count_56 : decode cX9_count 56 = .ok (.aload_n 0, 1) := by decide +kernel
theorem dX9_count_57 : decode cX9_count 57 = .ok (.invokevirtual 293, 3) := by decide +kernel
theorem dX9_count_60 : decode cX9_count 60 = .ok (.ireturn, 1) := by decide +kernel
theorem dX9_ship_0 : decode cX9_ship 0 = .ok (.aload_n 0, 1) := by decide +kernel
theorem dX9_ship_1 : decode cX9_ship 1 = .ok (.aload_n 0, 1) := by decide +kernel
theorem dX9_ship_2 : decode cX9_ship 2 = .ok (.iload_n 1, 1) := by decide +kernel
theorem dX9_ship_3 : decode cX9_ship 3 = .ok (.invokevirtual 296, 3) := by decide +kernel
theorem dX9_ship_6 : decode cX9_ship 6 = .ok (.ifCond .ne 7, 3) := by decide +kernel
theorem dX9_ship_9 : decode cX9_ship 9 = .ok (.iconst 1, 1) := by decide +kernel
theorem dX9_ship_10 : decode cX9_ship 10 = .ok (.goto 18, 3) := by decide +kernel
theorem dX9_ship_13 : decode cX9_ship 13 = .ok (.iload_n 2, 1) := by decide +kernel
theorem dX9_ship_14 : decode cX9_ship 14 = .ok (.iconst 0, 1) := by decide +kernel
theorem dX9_ship_15 : decode cX9_ship 15 = .ok (.bipush 10, 2) := by decide +kernel
theorem dX9_ship_17 : decode cX9_ship 17 = .ok (.invokestatic 76, 3) := by decide +kernel
theorem dX9_ship_20 : decode cX9_ship 20 = .ok (.ifCond .eq 7, 3) := by decide +kernel
theorem dX9_ship_23 : decode cX9_ship 23 = .ok (.iconst 0, 1) := by decide +kernel
theorem dX9_ship_24 : decode cX9_ship 24 = .ok (.goto 4, 3) := by decide +kernel
theorem dX9_ship_27 : decode cX9_ship 27 = .ok (.iconst 2, 1) := by decide +kernel
theorem dX9_ship_28 : decode cX9_ship 28 = .ok (.putfield 66, 3) := by decide +kernel
theorem dX9_ship_31 : decode cX9_ship 31 = .ok (.aload_n 0, 1) := by decide +kernel
theorem dX9_ship_32 : decode cX9_ship 32 = .ok (.getfield 66, 3) := by decide +kernel
theorem dX9_ship_35 : decode cX9_ship 35 = .ok (.ifCond .le 7, 3) := by decide +kernel
theorem dX9_ship_38 : decode cX9_ship 38 = .ok (.iconst 0, 1) := by decide +kernel
theorem dX9_ship_39 : decode cX9_ship 39 = .ok (.goto 9, 3) := by decide +kernel
theorem dX9_ship_42 : decode cX9_ship 42 = .ok (.aload_n 0, 1) := by decide +kernel
theorem dX9_ship_43 : decode cX9_ship 43 = .ok (.iload_n 1, 1) := by decide +kernel
theorem dX9_ship_44 : decode cX9_ship 44 = .ok (.iload_n 2, 1) := by decide +kernel
theorem dX9_ship_45 : decode cX9_ship 45 = .ok (.invokevirtual 213, 3) := by decide +kernel
theorem dX9_ship_48 : decode cX9_ship 48 = .ok (.ireturn, 1) := by decide +kernel
theorem dX9_setOf_0 : decode cX9_setOf 0 = .ok (.iconst 0, 1) := by decide +kernel
theorem dX9_setOf_1 : decode cX9_setOf 1 = .ok (.istore_n 2, 1) := by decide +kernel
theorem dX9_setOf_2 : decode cX9_setOf 2 = .ok (.iconst 0, 1) := by decide +kernel
theorem dX9_setOf_3 : decode cX9_setOf 3 = .ok (.istore_n 3, 1) := by decide +kernel
theorem dX9_setOf_4 : decode cX9_setOf 4 = .ok (.iload_n 3, 1) := by decide +kernel
theorem dX9_setOf_5 : decode cX9_setOf 5 = .ok (.aload_n 0, 1) := by decide +kernel
theorem dX9_setOf_6 : decode cX9_setOf 6 = .ok (.getfield 7, 3) := by decide +kernel
theorem dX9_setOf_9 : decode cX9_setOf 9 = .ok (.iconst 3, 1) := by decide +kernel
theorem dX9_setOf_10 : decode cX9_setOf 10 = .ok (.iaload, 1) := by decide +kernel
theorem dX9_setOf_11 : decode cX9_setOf 11 = .ok (.if_icmp .ge 28, 3) := by decide +kernel
theorem dX9_setOf_14 : decode cX9_setOf 14 = .ok (.iload_n 2, 1) := by decide +kernel
theorem dX9_setOf_15 : decode cX9_setOf 15 = .ok (.aload_n 0, 1) := by decide +kernel
theorem dX9_setOf_16 : decode cX9_setOf 16 = .ok (.iload_n 3, 1) := by decide +kernel
theorem dX9_setOf_17 : decode cX9_setOf 17 = .ok (.iload_n 1, 1) := by decide +kernel
theorem dX9_setOf_18 : decode cX9_setOf 18 = .ok (.invokevirtual 299, 3) := by decide +kernel
theorem dX9_setOf_21 : decode cX9_setOf 21 = .ok (.ifCond .eq 9, 3) := by decide +kernel
theorem dX9_setOf_24 : decode cX9_setOf 24 = .ok (.iconst 1, 1) := by decide +kernel
theorem dX9_setOf_25 : decode cX9_setOf 25 = .ok (.iload_n 3, 1) := by decide +kernel
theorem dX9_setOf_26 : decode cX9_setOf 26 = .ok (.ishl, 1) := by decide +kernel
theorem dX9_setOf_27 : decode cX9_setOf 27 = .ok (.goto 4, 3) := by decide +kernel
theorem dX9_setOf_30 : decode cX9_setOf 30 = .ok (.iconst 0, 1) := by decide +kernel
theorem dX9_setOf_31 : decode cX9_setOf 31 = .ok (.ior, 1) := by decide +kernel
theorem dX9_setOf_32 : decode cX9_setOf 32 = .ok (.istore_n 2, 1) := by decide +kernel
theorem dX9_setOf_33 : decode cX9_setOf 33 = .ok (.iinc 3 1, 3) := by decide +kernel
theorem dX9_setOf_36 : decode cX9_setOf 36 = .ok (.goto (-32), 3) := by decide +kernel
theorem dX9_setOf_39 : decode cX9_setOf 39 = .ok (.iload_n 2, 1) := by decide +kernel
theorem dX9_setOf_40 : decode cX9_setOf 40 = .ok (.ireturn, 1) := by decide +kernel
theorem dX9_hullsOf_0 : decode cX9_hullsOf 0 = .ok (.iconst 0, 1) := by decide +kernel
theorem dX9_hullsOf_1 : decode cX9_hullsOf 1 = .ok (.istore_n 2, 1) := by decide +kernel
theorem dX9_hullsOf_2 : decode cX9_hullsOf 2 = .ok (.iconst 0, 1) := by decide +kernel
theorem dX9_hullsOf_3 : decode cX9_hullsOf 3 = .ok (.istore_n 3, 1) := by decide +kernel
theorem dX9_hullsOf_4 : decode cX9_hullsOf 4 = .ok (.iload_n 3, 1) := by decide +kernel
theorem dX9_hullsOf_5 : decode cX9_hullsOf 5 = .ok (.aload_n 0, 1) := by decide +kernel
theorem dX9_hullsOf_6 : decode cX9_hullsOf 6 = .ok (.getfield 7, 3) := by decide +kernel
theorem dX9_hullsOf_9 : decode cX9_hullsOf 9 = .ok (.iconst 3, 1) := by decide +kernel
theorem dX9_hullsOf_10 : decode cX9_hullsOf 10 = .ok (.iaload, 1) := by decide +kernel
theorem dX9_hullsOf_11 : decode cX9_hullsOf 11 = .ok (.if_icmp .ge 31, 3) := by decide +kernel
theorem dX9_hullsOf_14 : decode cX9_hullsOf 14 = .ok (.iload_n 2, 1) := by decide +kernel
theorem dX9_hullsOf_15 : decode cX9_hullsOf 15 = .ok (.aload_n 0, 1) := by decide +kernel
theorem dX9_hullsOf_16 : decode cX9_hullsOf 16 = .ok (.iload_n 3, 1) := by decide +kernel
theorem dX9_hullsOf_17 : decode cX9_hullsOf 17 = .ok (.iload_n 1, 1) := by decide +kernel
theorem dX9_hullsOf_18 : decode cX9_hullsOf 18 = .ok (.invokevirtual 299, 3) := by decide +kernel
theorem dX9_hullsOf_21 : decode cX9_hullsOf 21 = .ok (.ifCond .eq 12, 3) := by decide +kernel
theorem dX9_hullsOf_24 : decode cX9_hullsOf 24 = .ok (.aload_n 0, 1) := by decide +kernel
theorem dX9_hullsOf_25 : decode cX9_hullsOf 25 = .ok (.iload_n 3, 1) := by decide +kernel
theorem dX9_hullsOf_26 : decode cX9_hullsOf 26 = .ok (.iconst 4, 1) := by decide +kernel
theorem dX9_hullsOf_27 : decode cX9_hullsOf 27 = .ok (.invokevirtual 213, 3) := by decide +kernel
theorem dX9_hullsOf_30 : decode cX9_hullsOf 30 = .ok (.goto 4, 3) := by decide +kernel
theorem dX9_hullsOf_33 : decode cX9_hullsOf 33 = .ok (.iconst 0, 1) := by decide +kernel
theorem dX9_hullsOf_34 : decode cX9_hullsOf 34 = .ok (.iadd, 1) := by decide +kernel
theorem dX9_hullsOf_35 : decode cX9_hullsOf 35 = .ok (.istore_n 2, 1) := by decide +kernel
theorem dX9_hullsOf_36 : decode cX9_hullsOf 36 = .ok (.iinc 3 1, 3) := by decide +kernel
theorem dX9_hullsOf_39 : decode cX9_hullsOf 39 = .ok (.goto (-35), 3) := by decide +kernel
theorem dX9_hullsOf_42 : decode cX9_hullsOf 42 = .ok (.iload_n 2, 1) := by decide +kernel
theorem dX9_hullsOf_43 : decode cX9_hullsOf 43 = .ok (.ireturn, 1) := by decide +kernel
theorem dX9_lettersOf_0 : decode cX9_lettersOf 0 = .ok (.iconst 0, 1) := by decide +kernel
theorem dX9_lettersOf_1 : decode cX9_lettersOf 1 = .ok (.istore_n 2, 1) := by decide +kernel
theorem dX9_lettersOf_2 : decode cX9_lettersOf 2 = .ok (.iconst 0, 1) := by decide +kernel
theorem dX9_lettersOf_3 : decode cX9_lettersOf 3 = .ok (.istore_n 3, 1) := by decide +kernel
theorem dX9_lettersOf_4 : decode cX9_lettersOf 4 = .ok (.iload_n 3, 1) := by decide +kernel
theorem dX9_lettersOf_5 : decode cX9_lettersOf 5 = .ok (.aload_n 0, 1) := by decide +kernel
theorem dX9_lettersOf_6 : decode cX9_lettersOf 6 = .ok (.getfield 7, 3) := by decide +kernel
theorem dX9_lettersOf_9 : decode cX9_lettersOf 9 = .ok (.iconst 3, 1) := by decide +kernel
theorem dX9_lettersOf_10 : decode cX9_lettersOf 10 = .ok (.iaload, 1) := by decide +kernel
theorem dX9_lettersOf_11 : decode cX9_lettersOf 11 = .ok (.if_icmp .ge 56, 3) := by decide +kernel
theorem dX9_lettersOf_14 : decode cX9_lettersOf 14 = .ok (.iconst 0, 1) := by decide +kernel
theorem dX9_lettersOf_15 : decode cX9_lettersOf 15 = .ok (.istore 4, 2) := by decide +kernel
theorem dX9_lettersOf_17 : decode cX9_lettersOf 17 = .ok (.iload 4, 2) := by decide +kernel
theorem dX9_lettersOf_19 : decode cX9_lettersOf 19 = .ok (.bipush 6, 2) := by decide +kernel
theorem dX9_lettersOf_21 : decode cX9_lettersOf 21 = .ok (.if_icmp .ge 40, 3) := by decide +kernel
theorem dX9_lettersOf_24 : decode cX9_lettersOf 24 = .ok (.iload_n 2, 1) := by decide +kernel
theorem dX9_lettersOf_25 : decode cX9_lettersOf 25 = .ok (.aload_n 0, 1) := by decide +kernel
theorem dX9_lettersOf_26 : decode cX9_lettersOf 26 = .ok (.iload_n 3, 1) := by decide +kernel
theorem dX9_lettersOf_27 : decode cX9_lettersOf 27 = .ok (.iload_n 1, 1) := by decide +kernel
theorem dX9_lettersOf_28 : decode cX9_lettersOf 28 = .ok (.invokevirtual 299, 3) := by decide +kernel
theorem dX9_lettersOf_31 : decode cX9_lettersOf 31 = .ok (.ifCond .eq 21, 3) := by decide +kernel
theorem dX9_lettersOf_34 : decode cX9_lettersOf 34 = .ok (.aload_n 0, 1) := by decide +kernel
theorem dX9_lettersOf_35 : decode cX9_lettersOf 35 = .ok (.iload_n 3, 1) := by decide +kernel
theorem dX9_lettersOf_36 : decode cX9_lettersOf 36 = .ok (.bipush 11, 2) := by decide +kernel
theorem dX9_lettersOf_38 : decode cX9_lettersOf 38 = .ok (.iload 4, 2) := by decide +kernel
theorem dX9_lettersOf_40 : decode cX9_lettersOf 40 = .ok (.iadd, 1) := by decide +kernel
theorem dX9_lettersOf_41 : decode cX9_lettersOf 41 = .ok (.invokevirtual 213, 3) := by decide +kernel
theorem dX9_lettersOf_44 : decode cX9_lettersOf 44 = .ok (.iconst 1, 1) := by decide +kernel
theorem dX9_lettersOf_45 : decode cX9_lettersOf 45 = .ok (.if_icmp .eq 7, 3) := by decide +kernel
theorem dX9_lettersOf_48 : decode cX9_lettersOf 48 = .ok (.iconst 1, 1) := by decide +kernel
theorem dX9_lettersOf_49 : decode cX9_lettersOf 49 = .ok (.goto 4, 3) := by decide +kernel
theorem dX9_lettersOf_52 : decode cX9_lettersOf 52 = .ok (.iconst 0, 1) := by decide +kernel
theorem dX9_lettersOf_53 : decode cX9_lettersOf 53 = .ok (.iadd, 1) := by decide +kernel
theorem dX9_lettersOf_54 : decode cX9_lettersOf 54 = .ok (.istore_n 2, 1) := by decide +kernel
theorem dX9_lettersOf_55 : decode cX9_lettersOf 55 = .ok (.iinc 4 1, 3) := by decide +kernel
theorem dX9_lettersOf_58 : decode cX9_lettersOf 58 = .ok (.goto (-41), 3) := by decide +kernel
theorem dX9_lettersOf_61 : decode cX9_lettersOf 61 = .ok (.iinc 3 1, 3) := by decide +kernel
theorem dX9_lettersOf_64 : decode cX9_lettersOf 64 = .ok (.goto (-60), 3) := by decide +kernel
theorem dX9_lettersOf_67 : decode cX9_lettersOf 67 = .ok (.iload_n 2, 1) := by decide +kernel
theorem dX9_lettersOf_68 : decode cX9_lettersOf 68 = .ok (.ireturn, 1) := by decide +kernel
theorem dX9_fleet_0 : decode cX9_fleet 0 = .ok (.aload_n 0, 1) := by decide +kernel
theorem dX9_fleet_1 : decode cX9_fleet 1 = .ok (.aload_n 0, 1) := by decide +kernel
theorem dX9_fleet_2 : decode cX9_fleet 2 = .ok (.iload_n 1, 1) := by decide +kernel
theorem dX9_fleet_3 : decode cX9_fleet 3 = .ok (.invokevirtual 275, 3) := by decide +kernel
theorem dX9_fleet_6 : decode cX9_fleet 6 = .ok (.ifCond .ne 7, 3) := by decide +kernel
theorem dX9_fleet_9 : decode cX9_fleet 9 = .ok (.iconst 1, 1) := by decide +kernel
theorem dX9_fleet_10 : decode cX9_fleet 10 = .ok (.goto 17, 3) := by decide +kernel
theorem dX9_fleet_13 : decode cX9_fleet 13 = .ok (.iload_n 2, 1) := by decide +kernel
theorem dX9_fleet_14 : decode cX9_fleet 14 = .ok (.iconst 0, 1) := by decide +kernel
theorem dX9_fleet_15 : decode cX9_fleet 15 = .ok (.iconst 4, 1) := by decide +kernel
theorem dX9_fleet_16 : decode cX9_fleet 16 = .ok (.invokestatic 76, 3) := by decide +kernel
theorem dX9_fleet_19 : decode cX9_fleet 19 = .ok (.ifCond .eq 7, 3) := by decide +kernel
theorem dX9_fleet_22 : decode cX9_fleet 22 = .ok (.iconst 0, 1) := by decide +kernel
theorem dX9_fleet_23 : decode cX9_fleet 23 = .ok (.goto 4, 3) := by decide +kernel
theorem dX9_fleet_26 : decode cX9_fleet 26 = .ok (.iconst 2, 1) := by decide +kernel
theorem dX9_fleet_27 : decode cX9_fleet 27 = .ok (.putfield 66, 3) := by decide +kernel
theorem dX9_fleet_30 : decode cX9_fleet 30 = .ok (.aload_n 0, 1) := by decide +kernel
theorem dX9_fleet_31 : decode cX9_fleet 31 = .ok (.getfield 66, 3) := by decide +kernel
theorem dX9_fleet_34 : decode cX9_fleet 34 = .ok (.ifCond .le 5, 3) := by decide +kernel
theorem dX9_fleet_37 : decode cX9_fleet 37 = .ok (.iconst 0, 1) := by decide +kernel
theorem dX9_fleet_38 : decode cX9_fleet 38 = .ok (.ireturn, 1) := by decide +kernel
theorem dX9_fleet_39 : decode cX9_fleet 39 = .ok (.iload_n 2, 1) := by decide +kernel
theorem dX9_fleet_40 : decode cX9_fleet 40 = .ok (.tableswitch 70 0 3 #[32, 38, 50, 56], 32) := by decide +kernel
theorem dX9_fleet_72 : decode cX9_fleet 72 = .ok (.aload_n 0, 1) := by decide +kernel
theorem dX9_fleet_73 : decode cX9_fleet 73 = .ok (.iload_n 1, 1) := by decide +kernel
theorem dX9_fleet_74 : decode cX9_fleet 74 = .ok (.invokevirtual 302, 3) := by decide +kernel
theorem dX9_fleet_77 : decode cX9_fleet 77 = .ok (.ireturn, 1) := by decide +kernel
theorem dX9_fleet_78 : decode cX9_fleet 78 = .ok (.aload_n 0, 1) := by decide +kernel
theorem dX9_fleet_79 : decode cX9_fleet 79 = .ok (.getfield 7, 3) := by decide +kernel
theorem dX9_fleet_82 : decode cX9_fleet 82 = .ok (.bipush 34, 2) := by decide +kernel
theorem dX9_fleet_84 : decode cX9_fleet 84 = .ok (.iconst 3, 1) := by decide +kernel
theorem dX9_fleet_85 : decode cX9_fleet 85 = .ok (.iload_n 1, 1) := by decide +kernel
theorem dX9_fleet_86 : decode cX9_fleet 86 = .ok (.imul, 1) := by decide +kernel
theorem dX9_fleet_87 : decode cX9_fleet 87 = .ok (.iadd, 1) := by decide +kernel
theorem dX9_fleet_88 : decode cX9_fleet 88 = .ok (.iaload, 1) := by decide +kernel
theorem dX9_fleet_89 : decode cX9_fleet 89 = .ok (.ireturn, 1) := by decide +kernel
theorem dX9_fleet_90 : decode cX9_fleet 90 = .ok (.aload_n 0, 1) := by decide +kernel
theorem dX9_fleet_91 : decode cX9_fleet 91 = .ok (.iload_n 1, 1) := by decide +kernel
theorem dX9_fleet_92 : decode cX9_fleet 92 = .ok (.invokevirtual 305, 3) := by decide +kernel
theorem dX9_fleet_95 : decode cX9_fleet 95 = .ok (.ireturn, 1) := by decide +kernel
theorem dX9_fleet_96 : decode cX9_fleet 96 = .ok (.aload_n 0, 1) := by decide +kernel
theorem dX9_fleet_97 : decode cX9_fleet 97 = .ok (.getfield 7, 3) := by decide +kernel
theorem dX9_fleet_100 : decode cX9_fleet 100 = .ok (.bipush 34, 2) := by decide +kernel
theorem dX9_fleet_102 : decode cX9_fleet 102 = .ok (.iconst 3, 1) := by decide +kernel
theorem dX9_fleet_103 : decode cX9_fleet 103 = .ok (.iload_n 1, 1) := by decide +kernel
theorem dX9_fleet_104 : decode cX9_fleet 104 = .ok (.imul, 1) := by decide +kernel
theorem dX9_fleet_105 : decode cX9_fleet 105 = .ok (.iadd, 1) := by decide +kernel
theorem dX9_fleet_106 : decode cX9_fleet 106 = .ok (.iconst 1, 1) := by decide +kernel
theorem dX9_fleet_107 : decode cX9_fleet 107 = .ok (.iadd, 1) := by decide +kernel
theorem dX9_fleet_108 : decode cX9_fleet 108 = .ok (.iaload, 1) := by decide +kernel
theorem dX9_fleet_109 : decode cX9_fleet 109 = .ok (.ireturn, 1) := by decide +kernel
theorem dX9_fleet_110 : decode cX9_fleet 110 = .ok (.aload_n 0, 1) := by decide +kernel
theorem dX9_fleet_111 : decode cX9_fleet 111 = .ok (.iload_n 1, 1) := by decide +kernel
theorem dX9_fleet_112 : decode cX9_fleet 112 = .ok (.invokevirtual 308, 3) := by decide +kernel
theorem dX9_fleet_115 : decode cX9_fleet 115 = .ok (.ireturn, 1) := by decide +kernel
theorem dX9_at_0 : decode cX9_at 0 = .ok (.aload_n 0, 1) := by decide +kernel
theorem dX9_at_1 : decode cX9_at 1 = .ok (.iload_n 1, 1) := by decide +kernel
theorem dX9_at_2 : decode cX9_at 2 = .ok (.iconst 0, 1) := by decide +kernel
theorem dX9_at_3 : decode cX9_at 3 = .ok (.aload_n 0, 1) := by decide +kernel
theorem dX9_at_4 : decode cX9_at 4 = .ok (.getfield 7, 3) := by decide +kernel
theorem dX9_at_7 : decode cX9_at 7 = .ok (.iconst 0, 1) := by decide +kernel
theorem dX9_at_8 : decode cX9_at 8 = .ok (.iaload, 1) := by decide +kernel
theorem dX9_at_9 : decode cX9_at 9 = .ok (.iconst 1, 1) := by decide +kernel
theorem dX9_at_10 : decode cX9_at 10 = .ok (.isub, 1) := by decide +kernel
theorem dX9_at_11 : decode cX9_at 11 = .ok (.invokestatic 76, 3) := by decide +kernel
theorem dX9_at_14 : decode cX9_at 14 = .ok (.ifCond .eq 23, 3) := by decide +kernel
theorem dX9_at_17 : decode cX9_at 17 = .ok (.iload_n 2, 1) := by decide +kernel
theorem dX9_at_18 : decode cX9_at 18 = .ok (.iconst 0, 1) := by decide +kernel
theorem dX9_at_19 : decode cX9_at 19 = .ok (.aload_n 0, 1) := by decide +kernel
theorem dX9_at_20 : decode cX9_at 20 = .ok (.getfield 7, 3) := by decide +kernel
theorem dX9_at_23 : decode cX9_at 23 = .ok (.iconst 1, 1) := by decide +kernel
theorem dX9_at_24 : decode cX9_at 24 = .ok (.iaload, 1) := by decide +kernel
theorem dX9_at_25 : decode cX9_at 25 = .ok (.iconst 1, 1) := by decide +kernel
theorem dX9_at_26 : decode cX9_at 26 = .ok (.isub, 1) := by decide +kernel
theorem dX9_at_27 : decode cX9_at 27 = .ok (.invokestatic 76, 3) := by decide +kernel
theorem dX9_at_30 : decode cX9_at 30 = .ok (.ifCond .eq 7, 3) := by decide +kernel
theorem dX9_at_33 : decode cX9_at 33 = .ok (.iconst 0, 1) := by decide +kernel
theorem dX9_at_34 : decode cX9_at 34 = .ok (.goto 4, 3) := by decide +kernel
theorem dX9_at_37 : decode cX9_at 37 = .ok (.iconst 1, 1) := by decide +kernel
theorem dX9_at_38 : decode cX9_at 38 = .ok (.putfield 66, 3) := by decide +kernel
theorem dX9_at_41 : decode cX9_at 41 = .ok (.aload_n 0, 1) := by decide +kernel
theorem dX9_at_42 : decode cX9_at 42 = .ok (.getfield 66, 3) := by decide +kernel
theorem dX9_at_45 : decode cX9_at 45 = .ok (.ifCond .le 7, 3) := by decide +kernel
theorem dX9_at_48 : decode cX9_at 48 = .ok (.iconst 0, 1) := by decide +kernel
theorem dX9_at_49 : decode cX9_at 49 = .ok (.goto 9, 3) := by decide +kernel
theorem dX9_at_52 : decode cX9_at 52 = .ok (.aload_n 0, 1) := by decide +kernel
theorem dX9_at_53 : decode cX9_at 53 = .ok (.iload_n 1, 1) := by decide +kernel
theorem dX9_at_54 : decode cX9_at 54 = .ok (.iload_n 2, 1) := by decide +kernel
theorem dX9_at_55 : decode cX9_at 55 = .ok (.invokevirtual 187, 3) := by decide +kernel
theorem dX9_at_58 : decode cX9_at 58 = .ok (.ireturn, 1) := by decide +kernel
theorem dX9_isPulse_0 : decode cX9_isPulse 0 = .ok (.iload_n 0, 1) := by decide +kernel
theorem dX9_isPulse_1 : decode cX9_isPulse 1 = .ok (.iconst 0, 1) := by decide +kernel
theorem dX9_isPulse_2 : decode cX9_isPulse 2 = .ok (.iconst 5, 1) := by decide +kernel
theorem dX9_isPulse_3 : decode cX9_isPulse 3 = .ok (.invokestatic 76, 3) := by decide +kernel
theorem dX9_isPulse_6 : decode cX9_isPulse 6 = .ok (.ireturn, 1) := by decide +kernel
theorem dX9_order_0 : decode cX9_order 0 = .ok (.aload_n 0, 1) := by decide +kernel
theorem dX9_order_1 : decode cX9_order 1 = .ok (.aload_n 0, 1) := by decide +kernel
theorem dX9_order_2 : decode cX9_order 2 = .ok (.iload_n 1, 1) := by decide +kernel
theorem dX9_order_3 : decode cX9_order 3 = .ok (.invokevirtual 296, 3) := by decide +kernel
theorem dX9_order_6 : decode cX9_order 6 = .ok (.ifCond .eq 14, 3) := by decide +kernel
theorem dX9_order_9 : decode cX9_order 9 = .ok (.iload_n 2, 1) := by decide +kernel
theorem dX9_order_10 : decode cX9_order 10 = .ok (.invokestatic 311, 3) := by decide +kernel
theorem dX9_order_13 : decode cX9_order 13 = .ok (.ifCond .eq 7, 3) := by decide +kernel
theorem dX9_order_16 : decode cX9_order 16 = .ok (.iconst 0, 1) := by decide +kernel
theorem dX9_order_17 : decode cX9_order 17 = .ok (.goto 4, 3) := by decide +kernel
theorem dX9_order_20 : decode cX9_order 20 = .ok (.iconst 1, 1) := by decide +kernel
theorem dX9_order_21 : decode cX9_order 21 = .ok (.putfield 66, 3) := by decide +kernel
theorem dX9_order_24 : decode cX9_order 24 = .ok (.aload_n 0, 1) := by decide +kernel
theorem dX9_order_25 : decode cX9_order 25 = .ok (.getfield 66, 3) := by decide +kernel
theorem dX9_order_28 : decode cX9_order 28 = .ok (.ifCond .le 7, 3) := by decide +kernel
theorem dX9_order_31 : decode cX9_order 31 = .ok (.iconst 0, 1) := by decide +kernel
theorem dX9_order_32 : decode cX9_order 32 = .ok (.goto 12, 3) := by decide +kernel
theorem dX9_order_35 : decode cX9_order 35 = .ok (.aload_n 0, 1) := by decide +kernel
theorem dX9_order_36 : decode cX9_order 36 = .ok (.iload_n 1, 1) := by decide +kernel
theorem dX9_order_37 : decode cX9_order 37 = .ok (.bipush 11, 2) := by decide +kernel
theorem dX9_order_39 : decode cX9_order 39 = .ok (.iload_n 2, 1) := by decide +kernel
theorem dX9_order_40 : decode cX9_order 40 = .ok (.iadd, 1) := by decide +kernel
theorem dX9_order_41 : decode cX9_order 41 = .ok (.invokevirtual 213, 3) := by decide +kernel
theorem dX9_order_44 : decode cX9_order 44 = .ok (.ireturn, 1) := by decide +kernel
theorem dX9_gain_0 : decode cX9_gain 0 = .ok (.aload_n 0, 1) := by decide +kernel
theorem dX9_gain_1 : decode cX9_gain 1 = .ok (.aload_n 0, 1) := by decide +kernel
theorem dX9_gain_2 : decode cX9_gain 2 = .ok (.iload_n 1, 1) := by decide +kernel
theorem dX9_gain_3 : decode cX9_gain 3 = .ok (.invokevirtual 296, 3) := by decide +kernel
theorem dX9_gain_6 : decode cX9_gain 6 = .ok (.ifCond .ne 7, 3) := by decide +kernel
theorem dX9_gain_9 : decode cX9_gain 9 = .ok (.iconst 1, 1) := by decide +kernel
theorem dX9_gain_10 : decode cX9_gain 10 = .ok (.goto 18, 3) := by decide +kernel
theorem dX9_gain_13 : decode cX9_gain 13 = .ok (.iload_n 2, 1) := by decide +kernel
theorem dX9_gain_14 : decode cX9_gain 14 = .ok (.iconst 0, 1) := by decide +kernel
theorem dX9_gain_15 : decode cX9_gain 15 = .ok (.bipush 7, 2) := by decide +kernel
theorem dX9_gain_17 : decode cX9_gain 17 = .ok (.invokestatic 76, 3) := by decide +kernel
theorem dX9_gain_20 : decode cX9_gain 20 = .ok (.ifCond .eq 7, 3) := by decide +kernel
theorem dX9_gain_23 : decode cX9_gain 23 = .ok (.iconst 0, 1) := by decide +kernel
theorem dX9_gain_24 : decode cX9_gain 24 = .ok (.goto 4, 3) := by decide +kernel
theorem dX9_gain_27 : decode cX9_gain 27 = .ok (.iconst 2, 1) := by decide +kernel
theorem dX9_gain_28 : decode cX9_gain 28 = .ok (.putfield 66, 3) := by decide +kernel
theorem dX9_gain_31 : decode cX9_gain 31 = .ok (.aload_n 0, 1) := by decide +kernel
theorem dX9_gain_32 : decode cX9_gain 32 = .ok (.getfield 66, 3) := by decide +kernel
theorem dX9_gain_35 : decode cX9_gain 35 = .ok (.ifCond .le 7, 3) := by decide +kernel
theorem dX9_gain_38 : decode cX9_gain 38 = .ok (.iconst 0, 1) := by decide +kernel
theorem dX9_gain_39 : decode cX9_gain 39 = .ok (.goto 9, 3) := by decide +kernel
theorem dX9_gain_42 : decode cX9_gain 42 = .ok (.aload_n 0, 1) := by decide +kernel
theorem dX9_gain_43 : decode cX9_gain 43 = .ok (.iload_n 1, 1) := by decide +kernel
theorem dX9_gain_44 : decode cX9_gain 44 = .ok (.iload_n 2, 1) := by decide +kernel
theorem dX9_gain_45 : decode cX9_gain 45 = .ok (.invokevirtual 232, 3) := by decide +kernel
theorem dX9_gain_48 : decode cX9_gain 48 = .ok (.ireturn, 1) := by decide +kernel
theorem dX9_isNear_0 : decode cX9_isNear 0 = .ok (.aload_n 0, 1) := by decide +kernel
theorem dX9_isNear_1 : decode cX9_isNear 1 = .ok (.iload_n 1, 1) := by decide +kernel
theorem dX9_isNear_2 : decode cX9_isNear 2 = .ok (.iconst 1, 1) := by decide +kernel
theorem dX9_isNear_3 : decode cX9_isNear 3 = .ok (.invokevirtual 213, 3) := by decide +kernel
theorem dX9_isNear_6 : decode cX9_isNear 6 = .ok (.aload_n 0, 1) := by decide +kernel
theorem dX9_isNear_7 : decode cX9_isNear 7 = .ok (.iload_n 2, 1) := by decide +kernel
theorem dX9_isNear_8 : decode cX9_isNear 8 = .ok (.iconst 1, 1) := by decide +kernel
theorem dX9_isNear_9 : decode cX9_isNear 9 = .ok (.invokevirtual 213, 3) := by decide +kernel
theorem dX9_isNear_12 : decode cX9_isNear 12 = .ok (.isub, 1) := by decide +kernel
theorem dX9_isNear_13 : decode cX9_isNear 13 = .ok (.bipush (-5), 2) := by decide +kernel
theorem dX9_isNear_15 : decode cX9_isNear 15 = .ok (.iconst 5, 1) := by decide +kernel
theorem dX9_isNear_16 : decode cX9_isNear 16 = .ok (.invokestatic 76, 3) := by decide +kernel
theorem dX9_isNear_19 : decode cX9_isNear 19 = .ok (.ifCond .eq 29, 3) := by decide +kernel
theorem dX9_isNear_22 : decode cX9_isNear 22 = .ok (.aload_n 0, 1) := by decide +kernel
theorem dX9_isNear_23 : decode cX9_isNear 23 = .ok (.iload_n 1, 1) := by decide +kernel
theorem dX9_isNear_24 : decode cX9_isNear 24 = .ok (.iconst 2, 1) := by decide +kernel
theorem dX9_isNear_25 : decode cX9_isNear 25 = .ok (.invokevirtual 213, 3) := by decide +kernel
theorem dX9_isNear_28 : decode cX9_isNear 28 = .ok (.aload_n 0, 1) := by decide +kernel
theorem dX9_isNear_29 : decode cX9_isNear 29 = .ok (.iload_n 2, 1) := by decide +kernel
theorem dX9_isNear_30 : decode cX9_isNear 30 = .ok (.iconst 2, 1) := by decide +kernel
theorem dX9_isNear_31 : decode cX9_isNear 31 = .ok (.invokevirtual 213, 3) := by decide +kernel
theorem dX9_isNear_34 : decode cX9_isNear 34 = .ok (.isub, 1) := by decide +kernel
theorem dX9_isNear_35 : decode cX9_isNear 35 = .ok (.bipush (-5), 2) := by decide +kernel
theorem dX9_isNear_37 : decode cX9_isNear 37 = .ok (.iconst 5, 1) := by decide +kernel
theorem dX9_isNear_38 : decode cX9_isNear 38 = .ok (.invokestatic 76, 3) := by decide +kernel
theorem dX9_isNear_41 : decode cX9_isNear 41 = .ok (.ifCond .eq 7, 3) := by decide +kernel
theorem dX9_isNear_44 : decode cX9_isNear 44 = .ok (.iconst 1, 1) := by decide +kernel
theorem dX9_isNear_45 : decode cX9_isNear 45 = .ok (.goto 4, 3) := by decide +kernel
theorem dX9_isNear_48 : decode cX9_isNear 48 = .ok (.iconst 0, 1) := by decide +kernel
theorem dX9_isNear_49 : decode cX9_isNear 49 = .ok (.ireturn, 1) := by decide +kernel
theorem dX9_sees_0 : decode cX9_sees 0 = .ok (.aload_n 0, 1) := by decide +kernel
theorem dX9_sees_1 : decode cX9_sees 1 = .ok (.aload_n 0, 1) := by decide +kernel
theorem dX9_sees_2 : decode cX9_sees 2 = .ok (.iload_n 1, 1) := by decide +kernel
theorem dX9_sees_3 : decode cX9_sees 3 = .ok (.invokevirtual 275, 3) := by decide +kernel
theorem dX9_sees_6 : decode cX9_sees 6 = .ok (.ifCond .eq 15, 3) := by decide +kernel
theorem dX9_sees_9 : decode cX9_sees 9 = .ok (.aload_n 0, 1) := by decide +kernel
theorem dX9_sees_10 : decode cX9_sees 10 = .ok (.iload_n 2, 1) := by decide +kernel
theorem dX9_sees_11 : decode cX9_sees 11 = .ok (.invokevirtual 296, 3) := by decide +kernel
theorem dX9_sees_14 : decode cX9_sees 14 = .ok (.ifCond .eq 7, 3) := by decide +kernel
theorem dX9_sees_17 : decode cX9_sees 17 = .ok (.iconst 0, 1) := by decide +kernel
theorem dX9_sees_18 : decode cX9_sees 18 = .ok (.goto 4, 3) := by decide +kernel
theorem dX9_sees_21 : decode cX9_sees 21 = .ok (.iconst 1, 1) := by decide +kernel
theorem dX9_sees_22 : decode cX9_sees 22 = .ok (.putfield 66, 3) := by decide +kernel
theorem dX9_sees_25 : decode cX9_sees 25 = .ok (.aload_n 0, 1) := by decide +kernel
theorem dX9_sees_26 : decode cX9_sees 26 = .ok (.getfield 66, 3) := by decide +kernel
theorem dX9_sees_29 : decode cX9_sees 29 = .ok (.ifCond .le 5, 3) := by decide +kernel
theorem dX9_sees_32 : decode cX9_sees 32 = .ok (.iconst 0, 1) := by decide +kernel
theorem dX9_sees_33 : decode cX9_sees 33 = .ok (.ireturn, 1) := by decide +kernel
theorem dX9_sees_34 : decode cX9_sees 34 = .ok (.aload_n 0, 1) := by decide +kernel
theorem dX9_sees_35 : decode cX9_sees 35 = .ok (.iload_n 2, 1) := by decide +kernel
theorem dX9_sees_36 : decode cX9_sees 36 = .ok (.iconst 0, 1) := by decide +kernel
theorem dX9_sees_37 : decode cX9_sees 37 = .ok (.invokevirtual 213, 3) := by decide +kernel
theorem dX9_sees_40 : decode cX9_sees 40 = .ok (.iload_n 1, 1) := by decide +kernel
theorem dX9_sees_41 : decode cX9_sees 41 = .ok (.if_icmp .ne 5, 3) := by decide +kernel
theorem dX9_sees_44 : decode cX9_sees 44 = .ok (.iconst 1, 1) := by decide +kernel
theorem dX9_sees_45 : decode cX9_sees 45 = .ok (.ireturn, 1) := by decide +kernel
theorem dX9_sees_46 : decode cX9_sees 46 = .ok (.iconst 0, 1) := by decide +kernel
theorem dX9_sees_47 : decode cX9_sees 47 = .ok (.istore_n 3, 1) := by decide +kernel
theorem dX9_sees_48 : decode cX9_sees 48 = .ok (.iload_n 3, 1) := by decide +kernel
theorem dX9_sees_49 : decode cX9_sees 49 = .ok (.aload_n 0, 1) := by decide +kernel
theorem dX9_sees_50 : decode cX9_sees 50 = .ok (.getfield 7, 3) := by decide +kernel
theorem dX9_sees_53 : decode cX9_sees 53 = .ok (.iconst 3, 1) := by decide +kernel
theorem dX9_sees_54 : decode cX9_sees 54 = .ok (.iaload, 1) := by decide +kernel
theorem dX9_sees_55 : decode cX9_sees 55 = .ok (.if_icmp .ge 37, 3) := by decide +kernel
theorem dX9_sees_58 : decode cX9_sees 58 = .ok (.aload_n 0, 1) := by decide +kernel
theorem dX9_sees_59 : decode cX9_sees 59 = .ok (.iload_n 2, 1) := by decide +kernel
theorem dX9_sees_60 : decode cX9_sees 60 = .ok (.invokevirtual 216, 3) := by decide +kernel
theorem dX9_sees_63 : decode cX9_sees 63 = .ok (.ifCond .eq 23, 3) := by decide +kernel
theorem dX9_sees_66 : decode cX9_sees 66 = .ok (.aload_n 0, 1) := by decide +kernel
theorem dX9_sees_67 : decode cX9_sees 67 = .ok (.iload_n 3, 1) := by decide +kernel
theorem dX9_sees_68 : decode cX9_sees 68 = .ok (.iload_n 1, 1) := by decide +kernel
theorem dX9_sees_69 : decode cX9_sees 69 = .ok (.invokevirtual 299, 3) := by decide +kernel
theorem dX9_sees_72 : decode cX9_sees 72 = .ok (.ifCond .eq 14, 3) := by decide +kernel
theorem dX9_sees_75 : decode cX9_sees 75 = .ok (.aload_n 0, 1) := by decide +kernel
theorem dX9_sees_76 : decode cX9_sees 76 = .ok (.iload_n 3, 1) := by decide +kernel
theorem dX9_sees_77 : decode cX9_sees 77 = .ok (.iload_n 2, 1) := by decide +kernel
theorem dX9_sees_78 : decode cX9_sees 78 = .ok (.invokevirtual 314, 3) := by decide +kernel
theorem dX9_sees_81 : decode cX9_sees 81 = .ok (.ifCond .eq 5, 3) := by decide +kernel
theorem dX9_sees_84 : decode cX9_sees 84 = .ok (.iconst 1, 1) := by decide +kernel
theorem dX9_sees_85 : decode cX9_sees 85 = .ok (.ireturn, 1) := by decide +kernel
theorem dX9_sees_86 : decode cX9_sees 86 = .ok (.iinc 3 1, 3) := by decide +kernel
theorem dX9_sees_89 : decode cX9_sees 89 = .ok (.goto (-41), 3) := by decide +kernel
theorem dX9_sees_92 : decode cX9_sees 92 = .ok (.iconst 0, 1) := by decide +kernel
theorem dX9_sees_93 : decode cX9_sees 93 = .ok (.ireturn, 1) := by decide +kernel
theorem dX9_shift_0 : decode cX9_shift 0 = .ok (.aload_n 0, 1) := by decide +kernel
theorem dX9_shift_1 : decode cX9_shift 1 = .ok (.iload_n 1, 1) := by decide +kernel
theorem dX9_shift_2 : decode cX9_shift 2 = .ok (.iconst 0, 1) := by decide +kernel
theorem dX9_shift_3 : decode cX9_shift 3 = .ok (.sipush 999, 3) := by decide +kernel
theorem dX9_shift_6 : decode cX9_shift 6 = .ok (.invokestatic 76, 3) := by decide +kernel
theorem dX9_shift_9 : decode cX9_shift 9 = .ok (.ifCond .eq 16, 3) := by decide +kernel
theorem dX9_shift_12 : decode cX9_shift 12 = .ok (.iload_n 2, 1) := by decide +kernel
theorem dX9_shift_13 : decode cX9_shift 13 = .ok (.iconst 0, 1) := by decide +kernel
theorem dX9_shift_14 : decode cX9_shift 14 = .ok (.iconst 1, 1) := by decide +kernel
theorem dX9_shift_15 : decode cX9_shift 15 = .ok (.invokestatic 76, 3) := by decide +kernel
theorem dX9_shift_18 : decode cX9_shift 18 = .ok (.ifCond .eq 7, 3) := by decide +kernel
theorem dX9_shift_21 : decode cX9_shift 21 = .ok (.iconst 0, 1) := by decide +kernel
theorem dX9_shift_22 : decode cX9_shift 22 = .ok (.goto 4, 3) := by decide +kernel
theorem dX9_shift_25 : decode cX9_shift 25 = .ok (.iconst 1, 1) := by decide +kernel
theorem dX9_shift_26 : decode cX9_shift 26 = .ok (.putfield 66, 3) := by decide +kernel
theorem dX9_shift_29 : decode cX9_shift 29 = .ok (.aload_n 0, 1) := by decide +kernel
theorem dX9_shift_30 : decode cX9_shift 30 = .ok (.getfield 66, 3) := by decide +kernel
theorem dX9_shift_33 : decode cX9_shift 33 = .ok (.ifCond .le 5, 3) := by decide +kernel
theorem dX9_shift_36 : decode cX9_shift 36 = .ok (.iconst 0, 1) := by decide +kernel
theorem dX9_shift_37 : decode cX9_shift 37 = .ok (.ireturn, 1) := by decide +kernel
theorem dX9_shift_38 : decode cX9_shift 38 = .ok (.aload_n 0, 1) := by decide +kernel
theorem dX9_shift_39 : decode cX9_shift 39 = .ok (.iload_n 1, 1) := by decide +kernel
theorem dX9_shift_40 : decode cX9_shift 40 = .ok (.invokevirtual 150, 3) := by decide +kernel
theorem dX9_shift_43 : decode cX9_shift 43 = .ok (.istore_n 3, 1) := by decide +kernel
theorem dX9_shift_44 : decode cX9_shift 44 = .ok (.iload_n 3, 1) := by decide +kernel
theorem dX9_shift_45 : decode cX9_shift 45 = .ok (.iconst (-1), 1) := by decide +kernel
theorem dX9_shift_46 : decode cX9_shift 46 = .ok (.if_icmp .ne 7, 3) := by decide +kernel
theorem dX9_shift_49 : decode cX9_shift 49 = .ok (.iconst (-1), 1) := by decide +kernel
theorem dX9_shift_50 : decode cX9_shift 50 = .ok (.goto 13, 3) := by decide +kernel
theorem dX9_shift_53 : decode cX9_shift 53 = .ok (.aload_n 0, 1) := by decide +kernel
theorem dX9_shift_54 : decode cX9_shift 54 = .ok (.getfield 7, 3) := by decide +kernel
theorem dX9_shift_57 : decode cX9_shift 57 = .ok (.iload_n 3, 1) := by decide +kernel
theorem dX9_shift_58 : decode cX9_shift 58 = .ok (.iconst 1, 1) := by decide +kernel
theorem dX9_shift_59 : decode cX9_shift 59 = .ok (.iadd, 1) := by decide +kernel
theorem dX9_shift_60 : decode cX9_shift 60 = .ok (.iload_n 2, 1) := by decide +kernel
theorem dX9_shift_61 : decode cX9_shift 61 = .ok (.iadd, 1) := by decide +kernel
theorem dX9_shift_62 : decode cX9_shift 62 = .ok (.iaload, 1) := by decide +kernel
theorem dX9_shift_63 : decode cX9_shift 63 = .ok (.ireturn, 1) := by decide +kernel
theorem dX9_ram_0 : decode cX9_ram 0 = .ok (.aload_n 0, 1) := by decide +kernel
theorem dX9_ram_1 : decode cX9_ram 1 = .ok (.iload_n 1, 1) := by decide +kernel
theorem dX9_ram_2 : decode cX9_ram 2 = .ok (.iconst 0, 1) := by decide +kernel
theorem dX9_ram_3 : decode cX9_ram 3 = .ok (.aload_n 0, 1) := by decide +kernel
theorem dX9_ram_4 : decode cX9_ram 4 = .ok (.getfield 7, 3) := by decide +kernel
theorem dX9_ram_7 : decode cX9_ram 7 = .ok (.bipush 7, 2) := by decide +kernel
theorem dX9_ram_9 : decode cX9_ram 9 = .ok (.iaload, 1) := by decide +kernel
theorem dX9_ram_10 : decode cX9_ram 10 = .ok (.iconst 1, 1) := by decide +kernel
theorem dX9_ram_11 : decode cX9_ram 11 = .ok (.isub, 1) := by decide +kernel
theorem dX9_ram_12 : decode cX9_ram 12 = .ok (.invokestatic 76, 3) := by decide +kernel
theorem dX9_ram_15 : decode cX9_ram 15 = .ok (.ifCond .ne 7, 3) := by decide +kernel
theorem dX9_ram_18 : decode cX9_ram 18 = .ok (.iconst 1, 1) := by decide +kernel
theorem dX9_ram_19 : decode cX9_ram 19 = .ok (.goto 17, 3) := by decide +kernel
theorem dX9_ram_22 : decode cX9_ram 22 = .ok (.iload_n 2, 1) := by decide +kernel
theorem dX9_ram_23 : decode cX9_ram 23 = .ok (.iconst 0, 1) := by decide +kernel
theorem dX9_ram_24 : decode cX9_ram 24 = .ok (.iconst 4, 1) := by decide +kernel
theorem dX9_ram_25 : decode cX9_ram 25 = .ok (.invokestatic 76, 3) := by decide +kernel
theorem dX9_ram_28 : decode cX9_ram 28 = .ok (.ifCond .eq 7, 3) := by decide +kernel
theorem dX9_ram_31 : decode cX9_ram 31 = .ok (.iconst 0, 1) := by decide +kernel
theorem dX9_ram_32 : decode cX9_ram 32 = .ok (.goto 4, 3) := by decide +kernel
theorem dX9_ram_35 : decode cX9_ram 35 = .ok (.iconst 2, 1) := by decide +kernel
theorem dX9_ram_36 : decode cX9_ram 36 = .ok (.putfield 66, 3) := by decide +kernel
theorem dX9_ram_39 : decode cX9_ram 39 = .ok (.aload_n 0, 1) := by decide +kernel
theorem dX9_ram_40 : decode cX9_ram 40 = .ok (.getfield 66, 3) := by decide +kernel
theorem dX9_ram_43 : decode cX9_ram 43 = .ok (.ifCond .le 7, 3) := by decide +kernel
theorem dX9_ram_46 : decode cX9_ram 46 = .ok (.iconst 0, 1) := by decide +kernel
theorem dX9_ram_47 : decode cX9_ram 47 = .ok (.goto 17, 3) := by decide +kernel
theorem dX9_ram_50 : decode cX9_ram 50 = .ok (.aload_n 0, 1) := by decide +kernel
theorem dX9_ram_51 : decode cX9_ram 51 = .ok (.getfield 7, 3) := by decide +kernel
theorem dX9_ram_54 : decode cX9_ram 54 = .ok (.sipush 346, 3) := by decide +kernel
theorem dX9_ram_57 : decode cX9_ram 57 = .ok (.iconst 5, 1) := by decide +kernel
theorem dX9_ram_58 : decode cX9_ram 58 = .ok (.iload_n 1, 1) := by decide +kernel
theorem dX9_ram_59 : decode cX9_ram 59 = .ok (.imul, 1) := by decide +kernel
theorem dX9_ram_60 : decode cX9_ram 60 = .ok (.iadd, 1) := by decide +kernel
theorem dX9_ram_61 : decode cX9_ram 61 = .ok (.iload_n 2, 1) := by decide +kernel
theorem dX9_ram_62 : decode cX9_ram 62 = .ok (.iadd, 1) := by decide +kernel
theorem dX9_ram_63 : decode cX9_ram 63 = .ok (.iaload, 1) := by decide +kernel
theorem dX9_ram_64 : decode cX9_ram 64 = .ok (.ireturn, 1) := by decide +kernel
theorem dX9_logOf_0 : decode cX9_logOf 0 = .ok (.iload_n 1, 1) := by decide +kernel
theorem dX9_logOf_1 : decode cX9_logOf 1 = .ok (.aload_n 0, 1) := by decide +kernel
theorem dX9_logOf_2 : decode cX9_logOf 2 = .ok (.getfield 7, 3) := by decide +kernel
theorem dX9_logOf_5 : decode cX9_logOf 5 = .ok (.iconst 4, 1) := by decide +kernel
theorem dX9_logOf_6 : decode cX9_logOf 6 = .ok (.iaload, 1) := by decide +kernel
theorem dX9_logOf_7 : decode cX9_logOf 7 = .ok (.aload_n 0, 1) := by decide +kernel
theorem dX9_logOf_8 : decode cX9_logOf 8 = .ok (.getfield 7, 3) := by decide +kernel
theorem dX9_logOf_11 : decode cX9_logOf 11 = .ok (.bipush 8, 2) := by decide +kernel
theorem dX9_logOf_13 : decode cX9_logOf 13 = .ok (.iaload, 1) := by decide +kernel
theorem dX9_logOf_14 : decode cX9_logOf 14 = .ok (.isub, 1) := by decide +kernel
theorem dX9_logOf_15 : decode cX9_logOf 15 = .ok (.isub, 1) := by decide +kernel
theorem dX9_logOf_16 : decode cX9_logOf 16 = .ok (.istore_n 2, 1) := by decide +kernel
theorem dX9_logOf_17 : decode cX9_logOf 17 = .ok (.iload_n 1, 1) := by decide +kernel
theorem dX9_logOf_18 : decode cX9_logOf 18 = .ok (.aload_n 0, 1) := by decide +kernel
theorem dX9_logOf_19 : decode cX9_logOf 19 = .ok (.getfield 7, 3) := by decide +kernel
theorem dX9_logOf_22 : decode cX9_logOf 22 = .ok (.iconst 4, 1) := by decide +kernel
theorem dX9_logOf_23 : decode cX9_logOf 23 = .ok (.iaload, 1) := by decide +kernel
theorem dX9_logOf_24 : decode cX9_logOf 24 = .ok (.if_icmp .gt 20, 3) := by decide +kernel
theorem dX9_logOf_27 : decode cX9_logOf 27 = .ok (.iload_n 2, 1) := by decide +kernel
theorem dX9_logOf_28 : decode cX9_logOf 28 = .ok (.iconst 0, 1) := by decide +kernel
theorem dX9_logOf_29 : decode cX9_logOf 29 = .ok (.aload_n 0, 1) := by decide +kernel
theorem dX9_logOf_30 : decode cX9_logOf 30 = .ok (.getfield 7, 3) := by decide +kernel
theorem dX9_logOf_33 : decode cX9_logOf 33 = .ok (.bipush 8, 2) := by decide +kernel
theorem dX9_logOf_35 : decode cX9_logOf 35 = .ok (.iaload, 1) := by decide +kernel
theorem dX9_logOf_36 : decode cX9_logOf 36 = .ok (.iconst 1, 1) := by decide +kernel
theorem dX9_logOf_37 : decode cX9_logOf 37 = .ok (.isub, 1) := by decide +kernel
theorem dX9_logOf_38 : decode cX9_logOf 38 = .ok (.invokestatic 76, 3) := by decide +kernel
theorem dX9_logOf_41 : decode cX9_logOf 41 = .ok (.ifCond .ne 7, 3) := by decide +kernel
theorem dX9_logOf_44 : decode cX9_logOf 44 = .ok (.iconst (-1), 1) := by decide +kernel
theorem dX9_logOf_45 : decode cX9_logOf 45 = .ok (.goto 11, 3) := by decide +kernel
theorem dX9_logOf_48 : decode cX9_logOf 48 = .ok (.sipush 496, 3) := by decide +kernel
theorem dX9_logOf_51 : decode cX9_logOf 51 = .ok (.bipush 76, 2) := by decide +kernel
theorem dX9_logOf_53 : decode cX9_logOf 53 = .ok (.iload_n 2, 1) := by decide +kernel
theorem dX9_logOf_54 : decode cX9_logOf 54 = .ok (.imul, 1) := by decide +kernel
theorem dX9_logOf_55 : decode cX9_logOf 55 = .ok (.iadd, 1) := by decide +kernel
theorem dX9_logOf_56 : decode cX9_logOf 56 = .ok (.ireturn, 1) := by decide +kernel
theorem dX9_sealOf_0 : decode cX9_sealOf 0 = .ok (.aload_n 0, 1) := by decide +kernel
theorem dX9_sealOf_1 : decode cX9_sealOf 1 = .ok (.iload_n 1, 1) := by decide +kernel
theorem dX9_sealOf_2 : decode cX9_sealOf 2 = .ok (.aload_n 0, 1) := by decide +kernel
theorem dX9_sealOf_3 : decode cX9_sealOf 3 = .ok (.getfield 7, 3) := by decide +kernel
theorem dX9_sealOf_6 : decode cX9_sealOf 6 = .ok (.iconst 4, 1) := by decide +kernel
theorem dX9_sealOf_7 : decode cX9_sealOf 7 = .ok (.iaload, 1) := by decide +kernel
theorem dX9_sealOf_8 : decode cX9_sealOf 8 = .ok (.if_icmp .eq 12, 3) := by decide +kernel
theorem dX9_sealOf_11 : decode cX9_sealOf 11 = .ok (.aload_n 0, 1) := by decide +kernel
theorem dX9_sealOf_12 : decode cX9_sealOf 12 = .ok (.iload_n 1, 1) := by decide +kernel
theorem dX9_sealOf_13 : decode cX9_sealOf 13 = .ok (.invokevirtual 317, 3) := by decide +kernel
theorem dX9_sealOf_16 : decode cX9_sealOf 16 = .ok (.iconst (-1), 1) := by decide +kernel
theorem dX9_sealOf_17 : decode cX9_sealOf 17 = .ok (.if_icmp .eq 15, 3) := by decide +kernel
theorem dX9_sealOf_20 : decode cX9_sealOf 20 = .ok (.aload_n 0, 1) := by decide +kernel
theorem dX9_sealOf_21 : decode cX9_sealOf 21 = .ok (.iload_n 2, 1) := by decide +kernel
theorem dX9_sealOf_22 : decode cX9_sealOf 22 = .ok (.invokevirtual 275, 3) := by decide +kernel
theorem dX9_sealOf_25 : decode cX9_sealOf 25 = .ok (.ifCond .eq 7, 3) := by decide +kernel
theorem dX9_sealOf_28 : decode cX9_sealOf 28 = .ok (.iconst 0, 1) := by decide +kernel
theorem dX9_sealOf_29 : decode cX9_sealOf 29 = .ok (.goto 4, 3) := by decide +kernel
theorem dX9_sealOf_32 : decode cX9_sealOf 32 = .ok (.iconst 1, 1) := by decide +kernel
theorem dX9_sealOf_33 : decode cX9_sealOf 33 = .ok (.putfield 66, 3) := by decide +kernel
theorem dX9_sealOf_36 : decode cX9_sealOf 36 = .ok (.aload_n 0, 1) := by decide +kernel
theorem dX9_sealOf_37 : decode cX9_sealOf 37 = .ok (.getfield 66, 3) := by decide +kernel
theorem dX9_sealOf_40 : decode cX9_sealOf 40 = .ok (.ifCond .le 5, 3) := by decide +kernel
theorem dX9_sealOf_43 : decode cX9_sealOf 43 = .ok (.iconst 0, 1) := by decide +kernel
theorem dX9_sealOf_44 : decode cX9_sealOf 44 = .ok (.ireturn, 1) := by decide +kernel
theorem dX9_sealOf_45 : decode cX9_sealOf 45 = .ok (.iload_n 1, 1) := by decide +kernel
theorem dX9_sealOf_46 : decode cX9_sealOf 46 = .ok (.aload_n 0, 1) := by decide +kernel
theorem dX9_sealOf_47 : decode cX9_sealOf 47 = .ok (.getfield 7, 3) := by decide +kernel
theorem dX9_sealOf_50 : decode cX9_sealOf 50 = .ok (.iconst 4, 1) := by decide +kernel
theorem dX9_sealOf_51 : decode cX9_sealOf 51 = .ok (.iaload, 1) := by decide +kernel
theorem dX9_sealOf_52 : decode cX9_sealOf 52 = .ok (.if_icmp .ne 11, 3) := by decide +kernel
theorem dX9_sealOf_55 : decode cX9_sealOf 55 = .ok (.aload_n 0, 1) := by decide +kernel
theorem dX9_sealOf_56 : decode cX9_sealOf 56 = .ok (.iload_n 2, 1) := by decide +kernel
theorem dX9_sealOf_57 : decode cX9_sealOf 57 = .ok (.invokevirtual 278, 3) := by decide +kernel
theorem dX9_sealOf_60 : decode cX9_sealOf 60 = .ok (.goto 15, 3) := by decide +kernel
theorem dX9_sealOf_63 : decode cX9_sealOf 63 = .ok (.aload_n 0, 1) := by decide +kernel
theorem dX9_sealOf_64 : decode cX9_sealOf 64 = .ok (.getfield 7, 3) := by decide +kernel
theorem dX9_sealOf_67 : decode cX9_sealOf 67 = .ok (.aload_n 0, 1) := by decide +kernel
theorem dX9_sealOf_68 : decode cX9_sealOf 68 = .ok (.iload_n 1, 1) := by decide +kernel
theorem dX9_sealOf_69 : decode cX9_sealOf 69 = .ok (.invokevirtual 317, 3) := by decide +kernel
theorem dX9_sealOf_72 : decode cX9_sealOf 72 = .ok (.iload_n 2, 1) := by decide +kernel
theorem dX9_sealOf_73 : decode cX9_sealOf 73 = .ok (.iadd, 1) := by decide +kernel
theorem dX9_sealOf_74 : decode cX9_sealOf 74 = .ok (.iaload, 1) := by decide +kernel
theorem dX9_sealOf_75 : decode cX9_sealOf 75 = .ok (.ireturn, 1) := by decide +kernel
theorem dX9_mixes_0 : decode cX9_mixes 0 = .ok (.bipush 31, 2) := by decide +kernel
theorem dX9_mixes_2 : decode cX9_mixes 2 = .ok (.iload_n 0, 1) := by decide +kernel
theorem dX9_mixes_3 : decode cX9_mixes 3 = .ok (.imul, 1) := by decide +kernel
theorem dX9_mixes_4 : decode cX9_mixes 4 = .ok (.iload_n 1, 1) := by decide +kernel
theorem dX9_mixes_5 : decode cX9_mixes 5 = .ok (.iadd, 1) := by decide +kernel
theorem dX9_mixes_6 : decode cX9_mixes 6 = .ok (.ldc_w 320, 3) := by decide +kernel
theorem dX9_mixes_9 : decode cX9_mixes 9 = .ok (.irem, 1) := by decide +kernel
theorem dX9_mixes_10 : decode cX9_mixes 10 = .ok (.ireturn, 1) := by decide +kernel
theorem dX9_check_0 : decode cX9_check 0 = .ok (.aload_n 0, 1) := by decide +kernel
theorem dX9_check_1 : decode cX9_check 1 = .ok (.aload_n 0, 1) := by decide +kernel
theorem dX9_check_2 : decode cX9_check 2 = .ok (.iload_n 1, 1) := by decide +kernel
theorem dX9_check_3 : decode cX9_check 3 = .ok (.invokevirtual 317, 3) := by decide +kernel
theorem dX9_check_6 : decode cX9_check 6 = .ok (.iconst (-1), 1) := by decide +kernel
theorem dX9_check_7 : decode cX9_check 7 = .ok (.if_icmp .eq 15, 3) := by decide +kernel
theorem dX9_check_10 : decode cX9_check 10 = .ok (.aload_n 0, 1) := by decide +kernel
theorem dX9_check_11 : decode cX9_check 11 = .ok (.iload_n 2, 1) := by decide +kernel
theorem dX9_check_12 : decode cX9_check 12 = .ok (.invokevirtual 275, 3) := by decide +kernel
theorem dX9_check_15 : decode cX9_check 15 = .ok (.ifCond .eq 7, 3) := by decide +kernel
theorem dX9_check_18 : decode cX9_check 18 = .ok (.iconst 0, 1) := by decide +kernel
theorem dX9_check_19 : decode cX9_check 19 = .ok (.goto 4, 3) := by decide +kernel
theorem dX9_check_22 : decode cX9_check 22 = .ok (.iconst 1, 1) := by decide +kernel
theorem dX9_check_23 : decode cX9_check 23 = .ok (.putfield 66, 3) := by decide +kernel
theorem dX9_check_26 : decode cX9_check 26 = .ok (.aload_n 0, 1) := by decide +kernel
theorem dX9_check_27 : decode cX9_check 27 = .ok (.getfield 66, 3) := by decide +kernel
theorem dX9_check_30 : decode cX9_check 30 = .ok (.ifCond .gt 14, 3) := by decide +kernel
theorem dX9_check_33 : decode cX9_check 33 = .ok (.iload_n 3, 1) := by decide +kernel
theorem dX9_check_34 : decode cX9_check 34 = .ok (.iconst 0, 1) := by decide +kernel
theorem dX9_check_35 : decode cX9_check 35 = .ok (.ldc_w 321, 3) := by decide +kernel
theorem dX9_check_38 : decode cX9_check 38 = .ok (.invokestatic 76, 3) := by decide +kernel
theorem dX9_check_41 : decode cX9_check 41 = .ok (.ifCond .ne 5, 3) := by decide +kernel
theorem dX9_check_44 : decode cX9_check 44 = .ok (.iconst 0, 1) := by decide +kernel
theorem dX9_check_45 : decode cX9_check 45 = .ok (.ireturn, 1) := by decide +kernel
theorem dX9_check_46 : decode cX9_check 46 = .ok (.aload_n 0, 1) := by decide +kernel
theorem dX9_check_47 : decode cX9_check 47 = .ok (.iload_n 1, 1) := by decide +kernel
theorem dX9_check_48 : decode cX9_check 48 = .ok (.invokevirtual 317, 3) := by decide +kernel
theorem dX9_check_51 : decode cX9_check 51 = .ok (.istore 4, 2) := by decide +kernel
theorem dX9_check_53 : decode cX9_check 53 = .ok (.iload_n 3, 1) := by decide +kernel
theorem dX9_check_54 : decode cX9_check 54 = .ok (.istore 5, 2) := by decide +kernel
theorem dX9_check_56 : decode cX9_check 56 = .ok (.iconst 0, 1) := by decide +kernel
theorem dX9_check_57 : decode cX9_check 57 = .ok (.istore 6, 2) := by decide +kernel
theorem dX9_check_59 : decode cX9_check 59 = .ok (.iload 6, 2) := by decide +kernel
theorem dX9_check_61 : decode cX9_check 61 = .ok (.aload_n 0, 1) := by decide +kernel
theorem dX9_check_62 : decode cX9_check 62 = .ok (.getfield 7, 3) := by decide +kernel
theorem dX9_check_65 : decode cX9_check 65 = .ok (.iconst 3, 1) := by decide +kernel
theorem dX9_check_66 : decode cX9_check 66 = .ok (.iaload, 1) := by decide +kernel
theorem dX9_check_67 : decode cX9_check 67 = .ok (.if_icmp .ge 70, 3) := by decide +kernel
theorem dX9_check_70 : decode cX9_check 70 = .ok (.iconst 0, 1) := by decide +kernel
theorem dX9_check_71 : decode cX9_check 71 = .ok (.istore 7, 2) := by decide +kernel
theorem dX9_check_73 : decode cX9_check 73 = .ok (.iload 7, 2) := by decide +kernel
theorem dX9_check_75 : decode cX9_check 75 = .ok (.bipush 6, 2) := by decide +kernel
theorem dX9_check_77 : decode cX9_check 77 = .ok (.if_icmp .ge 54, 3) := by decide +kernel
theorem dX9_check_80 : decode cX9_check 80 = .ok (.aload_n 0, 1) := by decide +kernel
theorem dX9_check_81 : decode cX9_check 81 = .ok (.getfield 7, 3) := by decide +kernel
theorem dX9_check_84 : decode cX9_check 84 = .ok (.iload 4, 2) := by decide +kernel
theorem dX9_check_86 : decode cX9_check 86 = .ok (.iconst 4, 1) := by decide +kernel
theorem dX9_check_87 : decode cX9_check 87 = .ok (.iadd, 1) := by decide +kernel
theorem dX9_check_88 : decode cX9_check 88 = .ok (.bipush 6, 2) := by decide +kernel
theorem dX9_check_90 : decode cX9_check 90 = .ok (.iload 6, 2) := by decide +kernel
theorem dX9_check_92 : decode cX9_check 92 = .ok (.imul, 1) := by decide +kernel
theorem dX9_check_93 : decode cX9_check 93 = .ok (.iadd, 1) := by decide +kernel
theorem dX9_check_94 : decode cX9_check 94 = .ok (.iload 7, 2) := by decide +kernel
theorem dX9_check_96 : decode cX9_check 96 = .ok (.iadd, 1) := by decide +kernel
theorem dX9_check_97 : decode cX9_check 97 = .ok (.iaload, 1) := by decide +kernel
theorem dX9_check_98 : decode cX9_check 98 = .ok (.istore 8, 2) := by decide +kernel
theorem dX9_check_100 : decode cX9_check 100 = .ok (.iload 8, 2) := by decide +kernel
theorem dX9_check_102 : decode cX9_check 102 = .ok (.ifCond .le 23, 3) := by decide +kernel
theorem dX9_check_105 : decode cX9_check 105 = .ok (.aload_n 0, 1) := by decide +kernel
theorem dX9_check_106 : decode cX9_check 106 = .ok (.iload 6, 2) := by decide +kernel
theorem dX9_check_108 : decode cX9_check 108 = .ok (.iconst 0, 1) := by decide +kernel
theorem dX9_check_109 : decode cX9_check 109 = .ok (.invokevirtual 213, 3) := by decide +kernel
theorem dX9_check_112 : decode cX9_check 112 = .ok (.iload_n 2, 1) := by decide +kernel
theorem dX9_check_113 : decode cX9_check 113 = .ok (.if_icmp .ne 12, 3) := by decide +kernel
theorem dX9_check_116 : decode cX9_check 116 = .ok (.iload 5, 2) := by decide +kernel
theorem dX9_check_118 : decode cX9_check 118 = .ok (.iload 8, 2) := by decide +kernel
theorem dX9_check_120 : decode cX9_check 120 = .ok (.invokestatic 322, 3) := by decide +kernel
theorem dX9_check_123 : decode cX9_check 123 = .ok (.istore 5, 2) := by decide +kernel
theorem dX9_check_125 : decode cX9_check 125 = .ok (.iinc 7 1, 3) := by decide +kernel
theorem dX9_check_128 : decode cX9_check 128 = .ok (.goto (-55), 3) := by decide +kernel
theorem dX9_check_131 : decode cX9_check 131 = .ok (.iinc 6 1, 3) := by decide +kernel
theorem dX9_check_134 : decode cX9_check 134 = .ok (.goto (-75), 3) := by decide +kernel
theorem dX9_check_137 : decode cX9_check 137 = .ok (.aload_n 0, 1) := by decide +kernel
theorem dX9_check_138 : decode cX9_check 138 = .ok (.getfield 7, 3) := by decide +kernel
theorem dX9_check_141 : decode cX9_check 141 = .ok (.iload 4, 2) := by decide +kernel
theorem dX9_check_143 : decode cX9_check 143 = .ok (.iload_n 2, 1) := by decide +kernel
theorem dX9_check_144 : decode cX9_check 144 = .ok (.iadd, 1) := by decide +kernel
theorem dX9_check_145 : decode cX9_check 145 = .ok (.iaload, 1) := by decide +kernel
theorem dX9_check_146 : decode cX9_check 146 = .ok (.iload 5, 2) := by decide +kernel
theorem dX9_check_148 : decode cX9_check 148 = .ok (.if_icmp .ne 7, 3) := by decide +kernel
theorem dX9_check_151 : decode cX9_check 151 = .ok (.iconst 1, 1) := by decide +kernel
theorem dX9_check_152 : decode cX9_check 152 = .ok (.goto 4, 3) := by decide +kernel
theorem dX9_check_155 : decode cX9_check 155 = .ok (.iconst 0, 1) := by decide +kernel
theorem dX9_check_156 : decode cX9_check 156 = .ok (.ireturn, 1) := by decide +kernel
theorem dX9_logged_0 : decode cX9_logged 0 = .ok (.aload_n 0, 1) := by decide +kernel
theorem dX9_logged_1 : decode cX9_logged 1 = .ok (.aload_n 0, 1) := by decide +kernel
theorem dX9_logged_2 : decode cX9_logged 2 = .ok (.iload_n 1, 1) := by decide +kernel
theorem dX9_logged_3 : decode cX9_logged 3 = .ok (.invokevirtual 317, 3) := by decide +kernel
theorem dX9_logged_6 : decode cX9_logged 6 = .ok (.iconst (-1), 1) := by decide +kernel
theorem dX9_logged_7 : decode cX9_logged 7 = .ok (.if_icmp .eq 22, 3) := by decide +kernel
theorem dX9_logged_10 : decode cX9_logged 10 = .ok (.aload_n 0, 1) := by decide +kernel
theorem dX9_logged_11 : decode cX9_logged 11 = .ok (.iload_n 2, 1) := by decide +kernel
theorem dX9_logged_12 : decode cX9_logged 12 = .ok (.invokevirtual 296, 3) := by decide +kernel
theorem dX9_logged_15 : decode cX9_logged 15 = .ok (.ifCond .eq 14, 3) := by decide +kernel
theorem dX9_logged_18 : decode cX9_logged 18 = .ok (.iload_n 3, 1) := by decide +kernel
theorem dX9_logged_19 : decode cX9_logged 19 = .ok (.invokestatic 311, 3) := by decide +kernel
theorem dX9_logged_22 : decode cX9_logged 22 = .ok (.ifCond .eq 7, 3) := by decide +kernel
theorem dX9_logged_25 : decode cX9_logged 25 = .ok (.iconst 0, 1) := by decide +kernel
theorem dX9_logged_26 : decode cX9_logged 26 = .ok (.goto 4, 3) := by decide +kernel
theorem dX9_logged_29 : decode cX9_logged 29 = .ok (.iconst 1, 1) := by decide +kernel
theorem dX9_logged_30 : decode cX9_logged 30 = .ok (.putfield 66, 3) := by decide +kernel
theorem dX9_logged_33 : decode cX9_logged 33 = .ok (.aload_n 0, 1) := by decide +kernel
theorem dX9_logged_34 : decode cX9_logged 34 = .ok (.getfield 66, 3) := by decide +kernel
theorem dX9_logged_37 : decode cX9_logged 37 = .ok (.ifCond .le 7, 3) := by decide +kernel
theorem dX9_logged_40 : decode cX9_logged 40 = .ok (.iconst 0, 1) := by decide +kernel
theorem dX9_logged_41 : decode cX9_logged 41 = .ok (.goto 22, 3) := by decide +kernel
theorem dX9_logged_44 : decode cX9_logged 44 = .ok (.aload_n 0, 1) := by decide +kernel
theorem dX9_logged_45 : decode cX9_logged 45 = .ok (.getfield 7, 3) := by decide +kernel
theorem dX9_logged_48 : decode cX9_logged 48 = .ok (.aload_n 0, 1) := by decide +kernel
theorem dX9_logged_49 : decode cX9_logged 49 = .ok (.iload_n 1, 1) := by decide +kernel
theorem dX9_logged_50 : decode cX9_logged 50 = .ok (.invokevirtual 317, 3) := by decide +kernel
theorem dX9_logged_53 : decode cX9_logged 53 = .ok (.iconst 4, 1) := by decide +kernel
theorem dX9_logged_54 : decode cX9_logged 54 = .ok (.iadd, 1) := by decide +kernel
theorem dX9_logged_55 : decode cX9_logged 55 = .ok (.bipush 6, 2) := by decide +kernel
theorem dX9_logged_57 : decode cX9_logged 57 = .ok (.iload_n 2, 1) := by decide +kernel
theorem dX9_logged_58 : decode cX9_logged 58 = .ok (.imul, 1) := by decide +kernel
theorem dX9_logged_59 : decode cX9_logged 59 = .ok (.iadd, 1) := by decide +kernel
theorem dX9_logged_60 : decode cX9_logged 60 = .ok (.iload_n 3, 1) := by decide +kernel
theorem dX9_logged_61 : decode cX9_logged 61 = .ok (.iadd, 1) := by decide +kernel
theorem dX9_logged_62 : decode cX9_logged 62 = .ok (.iaload, 1) := by decide +kernel
theorem dX9_logged_63 : decode cX9_logged 63 = .ok (.ireturn, 1) := by decide +kernel
theorem dX9_tries_0 : decode cX9_tries 0 = .ok (.aload_n 0, 1) := by decide +kernel
theorem dX9_tries_1 : decode cX9_tries 1 = .ok (.getfield 16, 3) := by decide +kernel
theorem dX9_tries_4 : decode cX9_tries 4 = .ok (.iconst 0, 1) := by decide +kernel
theorem dX9_tries_5 : decode cX9_tries 5 = .ok (.aload_n 0, 1) := by decide +kernel
theorem dX9_tries_6 : decode cX9_tries 6 = .ok (.getfield 7, 3) := by decide +kernel
theorem dX9_tries_9 : decode cX9_tries 9 = .ok (.iconst 0, 1) := by decide +kernel
theorem dX9_tries_10 : decode cX9_tries 10 = .ok (.invokestatic 72, 3) := by decide +kernel
theorem dX9_tries_13 : decode cX9_tries 13 = .ok (.aload_n 0, 1) := by decide +kernel
theorem dX9_tries_14 : decode cX9_tries 14 = .ok (.iconst 1, 1) := by decide +kernel
theorem dX9_tries_15 : decode cX9_tries 15 = .ok (.invokevirtual 325, 3) := by decide +kernel
theorem dX9_tries_18 : decode cX9_tries 18 = .ok (.return_, 1) := by decide +kernel
theorem dX9_putsBack_0 : decode cX9_putsBack 0 = .ok (.aload_n 0, 1) := by decide +kernel
theorem dX9_putsBack_1 : decode cX9_putsBack 1 = .ok (.getfield 7, 3) := by decide +kernel
theorem dX9_putsBack_4 : decode cX9_putsBack 4 = .ok (.iconst 0, 1) := by decide +kernel
theorem dX9_putsBack_5 : decode cX9_putsBack 5 = .ok (.aload_n 0, 1) := by decide +kernel
theorem dX9_putsBack_6 : decode cX9_putsBack 6 = .ok (.getfield 16, 3) := by decide +kernel
theorem dX9_putsBack_9 : decode cX9_putsBack 9 = .ok (.iconst 0, 1) := by decide +kernel
theorem dX9_putsBack_10 : decode cX9_putsBack 10 = .ok (.invokestatic 72, 3) := by decide +kernel
theorem dX9_putsBack_13 : decode cX9_putsBack 13 = .ok (.return_, 1) := by decide +kernel
theorem dX9_after_0 : decode cX9_after 0 = .ok (.aload_n 0, 1) := by decide +kernel
theorem dX9_after_1 : decode cX9_after 1 = .ok (.aload_n 0, 1) := by decide +kernel
theorem dX9_after_2 : decode cX9_after 2 = .ok (.iload_n 1, 1) := by decide +kernel
theorem dX9_after_3 : decode cX9_after 3 = .ok (.invokevirtual 296, 3) := by decide +kernel
theorem dX9_after_6 : decode cX9_after 6 = .ok (.ifCond .ne 7, 3) := by decide +kernel
theorem dX9_after_9 : decode cX9_after 9 = .ok (.iconst 1, 1) := by decide +kernel
theorem dX9_after_10 : decode cX9_after 10 = .ok (.goto 18, 3) := by decide +kernel
theorem dX9_after_13 : decode cX9_after 13 = .ok (.iload_n 2, 1) := by decide +kernel
theorem dX9_after_14 : decode cX9_after 14 = .ok (.iconst 0, 1) := by decide +kernel
theorem dX9_after_15 : decode cX9_after 15 = .ok (.bipush 10, 2) := by decide +kernel
theorem dX9_after_17 : decode cX9_after 17 = .ok (.invokestatic 76, 3) := by decide +kernel
theorem dX9_after_20 : decode cX9_after 20 = .ok (.ifCond .eq 7, 3) := by decide +kernel
theorem dX9_after_23 : decode cX9_after 23 = .ok (.iconst 0, 1) := by decide +kernel
theorem dX9_after_24 : decode cX9_after 24 = .ok (.goto 4, 3) := by decide +kernel
theorem dX9_after_27 : decode cX9_after 27 = .ok (.iconst 2, 1) := by decide +kernel
theorem dX9_after_28 : decode cX9_after 28 = .ok (.putfield 66, 3) := by decide +kernel
theorem dX9_after_31 : decode cX9_after 31 = .ok (.aload_n 0, 1) := by decide +kernel
theorem dX9_after_32 : decode cX9_after 32 = .ok (.getfield 66, 3) := by decide +kernel
theorem dX9_after_35 : decode cX9_after 35 = .ok (.ifCond .le 5, 3) := by decide +kernel
theorem dX9_after_38 : decode cX9_after 38 = .ok (.iconst 0, 1) := by decide +kernel
theorem dX9_after_39 : decode cX9_after 39 = .ok (.ireturn, 1) := by decide +kernel
theorem dX9_after_40 : decode cX9_after 40 = .ok (.aload_n 0, 1) := by decide +kernel
theorem dX9_after_41 : decode cX9_after 41 = .ok (.invokevirtual 328, 3) := by decide +kernel
theorem dX9_after_44 : decode cX9_after 44 = .ok (.aload_n 0, 1) := by decide +kernel
theorem dX9_after_45 : decode cX9_after 45 = .ok (.iload_n 1, 1) := by decide +kernel
theorem dX9_after_46 : decode cX9_after 46 = .ok (.iload_n 2, 1) := by decide +kernel
theorem dX9_after_47 : decode cX9_after 47 = .ok (.invokevirtual 213, 3) := by decide +kernel
theorem dX9_after_50 : decode cX9_after 50 = .ok (.istore_n 3, 1) := by decide +kernel
theorem dX9_after_51 : decode cX9_after 51 = .ok (.aload_n 0, 1) := by decide +kernel
theorem dX9_after_52 : decode cX9_after 52 = .ok (.invokevirtual 331, 3) := by decide +kernel
theorem dX9_after_55 : decode cX9_after 55 = .ok (.iload_n 3, 1) := by decide +kernel
theorem dX9_after_56 : decode cX9_after 56 = .ok (.ireturn, 1) := by decide +kernel
theorem dX9_course_0 : decode cX9_course 0 = .ok (.aload_n 0, 1) := by decide +kernel
theorem dX9_course_1 : decode cX9_course 1 = .ok (.aload_n 0, 1) := by decide +kernel
theorem dX9_course_2 : decode cX9_course 2 = .ok (.iload_n 1, 1) := by decide +kernel
theorem dX9_course_3 : decode cX9_course 3 = .ok (.invokevirtual 296, 3) := by decide +kernel
theorem dX9_course_6 : decode cX9_course 6 = .ok (.ifCond .eq 11, 3) := by decide +kernel
theorem dX9_course_9 : decode cX9_course 9 = .ok (.aload_n 0, 1) := by decide +kernel
theorem dX9_course_10 : decode cX9_course 10 = .ok (.iload_n 1, 1) := by decide +kernel
theorem dX9_course_11 : decode cX9_course 11 = .ok (.invokevirtual 216, 3) := by decide +kernel
theorem dX9_course_14 : decode cX9_course 14 = .ok (.ifCond .ne 7, 3) := by decide +kernel
theorem dX9_course_17 : decode cX9_course 17 = .ok (.iconst 1, 1) := by decide +kernel
theorem dX9_course_18 : decode cX9_course 18 = .ok (.goto 18, 3) := by decide +kernel
theorem dX9_course_21 : decode cX9_course 21 = .ok (.iload_n 2, 1) := by decide +kernel
theorem dX9_course_22 : decode cX9_course 22 = .ok (.iconst 0, 1) := by decide +kernel
theorem dX9_course_23 : decode cX9_course 23 = .ok (.bipush 6, 2) := by decide +kernel
theorem dX9_course_25 : decode cX9_course 25 = .ok (.invokestatic 76, 3) := by decide +kernel
theorem dX9_course_28 : decode cX9_course 28 = .ok (.ifCond .eq 7, 3) := by decide +kernel
theorem dX9_course_31 : decode cX9_course 31 = .ok (.iconst 0, 1) := by decide +kernel
theorem dX9_course_32 : decode cX9_course 32 = .ok (.goto 4, 3) := by decide +kernel
theorem dX9_course_35 : decode cX9_course 35 = .ok (.iconst 2, 1) := by decide +kernel
theorem dX9_course_36 : decode cX9_course 36 = .ok (.putfield 66, 3) := by decide +kernel
theorem dX9_course_39 : decode cX9_course 39 = .ok (.aload_n 0, 1) := by decide +kernel
theorem dX9_course_40 : decode cX9_course 40 = .ok (.getfield 66, 3) := by decide +kernel
theorem dX9_course_43 : decode cX9_course 43 = .ok (.ifCond .le 5, 3) := by decide +kernel
theorem dX9_course_46 : decode cX9_course 46 = .ok (.iconst 0, 1) := by decide +kernel
theorem dX9_course_47 : decode cX9_course 47 = .ok (.ireturn, 1) := by decide +kernel
theorem dX9_course_48 : decode cX9_course 48 = .ok (.aload_n 0, 1) := by decide +kernel
theorem dX9_course_49 : decode cX9_course 49 = .ok (.getfield 16, 3) := by decide +kernel
theorem dX9_course_52 : decode cX9_course 52 = .ok (.iconst 0, 1) := by decide +kernel
theorem dX9_course_53 : decode cX9_course 53 = .ok (.aload_n 0, 1) := by decide +kernel
theorem dX9_course_54 : decode cX9_course 54 = .ok (.getfield 7, 3) := by decide +kernel
theorem dX9_course_57 : decode cX9_course 57 = .ok (.iconst 0, 1) := by decide +kernel
theorem dX9_course_58 : decode cX9_course 58 = .ok (.invokestatic 72, 3) := by decide +kernel
theorem dX9_course_61 : decode cX9_course 61 = .ok (.aload_n 0, 1) := by decide +kernel
theorem dX9_course_62 : decode cX9_course 62 = .ok (.invokevirtual 284, 3) := by decide +kernel
theorem dX9_course_65 : decode cX9_course 65 = .ok (.iconst 0, 1) := by decide +kernel
theorem dX9_course_66 : decode cX9_course 66 = .ok (.istore_n 3, 1) := by decide +kernel
theorem dX9_course_67 : decode cX9_course 67 = .ok (.iload_n 3, 1) := by decide +kernel
theorem dX9_course_68 : decode cX9_course 68 = .ok (.iload_n 2, 1) := by decide +kernel
theorem dX9_course_69 : decode cX9_course 69 = .ok (.if_icmp .ge 74, 3) := by decide +kernel
theorem dX9_course_72 : decode cX9_course 72 = .ok (.aload_n 0, 1) := by decide +kernel
theorem dX9_course_73 : decode cX9_course 73 = .ok (.iload_n 1, 1) := by decide +kernel
theorem dX9_course_74 : decode cX9_course 74 = .ok (.aload_n 0, 1) := by decide +kernel
theorem dX9_course_75 : decode cX9_course 75 = .ok (.iload_n 1, 1) := by decide +kernel
theorem dX9_course_76 : decode cX9_course 76 = .ok (.bipush 11, 2) := by decide +kernel
theorem dX9_course_78 : decode cX9_course 78 = .ok (.iload_n 3, 1) := by decide +kernel
theorem dX9_course_79 : decode cX9_course 79 = .ok (.iadd, 1) := by decide +kernel
theorem dX9_course_80 : decode cX9_course 80 = .ok (.invokevirtual 213, 3) := by decide +kernel
theorem dX9_course_83 : decode cX9_course 83 = .ok (.invokevirtual 260, 3) := by decide +kernel
theorem dX9_course_86 : decode cX9_course 86 = .ok (.ifCond .ne 6, 3) := by decide +kernel
theorem dX9_course_89 : decode cX9_course 89 = .ok (.goto 48, 3) := by decide +kernel
theorem dX9_course_92 : decode cX9_course 92 = .ok (.aload_n 0, 1) := by decide +kernel
theorem dX9_course_93 : decode cX9_course 93 = .ok (.iload_n 1, 1) := by decide +kernel
theorem dX9_course_94 : decode cX9_course 94 = .ok (.iconst 1, 1) := by decide +kernel
theorem dX9_course_95 : decode cX9_course 95 = .ok (.aload_n 0, 1) := by decide +kernel
theorem dX9_course_96 : decode cX9_course 96 = .ok (.getfield 42, 3) := by decide +kernel
theorem dX9_course_99 : decode cX9_course 99 = .ok (.iload_n 1, 1) := by decide +kernel
theorem dX9_course_100 : decode cX9_course 100 = .ok (.iaload, 1) := by decide +kernel
theorem dX9_course_101 : decode cX9_course 101 = .ok (.invokevirtual 228, 3) := by decide +kernel
theorem dX9_course_104 : decode cX9_course 104 = .ok (.aload_n 0, 1) := by decide +kernel
theorem dX9_course_105 : decode cX9_course 105 = .ok (.iload_n 1, 1) := by decide +kernel
theorem dX9_course_106 : decode cX9_course 106 = .ok (.iconst 2, 1) := by decide +kernel
theorem dX9_course_107 : decode cX9_course 107 = .ok (.aload_n 0, 1) := by decide +kernel
theorem dX9_course_108 : decode cX9_course 108 = .ok (.getfield 45, 3) := by decide +kernel
theorem dX9_course_111 : decode cX9_course 111 = .ok (.iload_n 1, 1) := by decide +kernel
theorem dX9_course_112 : decode cX9_course 112 = .ok (.iaload, 1) := by decide +kernel
theorem dX9_course_113 : decode cX9_course 113 = .ok (.invokevirtual 228, 3) := by decide +kernel
theorem dX9_course_116 : decode cX9_course 116 = .ok (.aload_n 0, 1) := by decide +kernel
theorem dX9_course_117 : decode cX9_course 117 = .ok (.iload_n 1, 1) := by decide +kernel
theorem dX9_course_118 : decode cX9_course 118 = .ok (.bipush 8, 2) := by decide +kernel
theorem dX9_course_120 : decode cX9_course 120 = .ok (.iconst 0, 1) := by decide +kernel
theorem dX9_course_121 : decode cX9_course 121 = .ok (.aload_n 0, 1) := by decide +kernel
theorem dX9_course_122 : decode cX9_course 122 = .ok (.iload_n 1, 1) := by decide +kernel
theorem dX9_course_123 : decode cX9_course 123 = .ok (.bipush 8, 2) := by decide +kernel
theorem dX9_course_125 : decode cX9_course 125 = .ok (.invokevirtual 213, 3) := by decide +kernel
theorem dX9_course_128 : decode cX9_course 128 = .ok (.bipush 90, 2) := by decide +kernel
theorem dX9_course_130 : decode cX9_course 130 = .ok (.isub, 1) := by decide +kernel
theorem dX9_course_131 : decode cX9_course 131 = .ok (.invokestatic 269, 3) := by decide +kernel
theorem dX9_course_134 : decode cX9_course 134 = .ok (.invokevirtual 228, 3) := by decide +kernel
theorem dX9_course_137 : decode cX9_course 137 = .ok (.iinc 3 1, 3) := by decide +kernel
theorem dX9_course_140 : decode cX9_course 140 = .ok (.goto (-73), 3) := by decide +kernel
theorem dX9_course_143 : decode cX9_course 143 = .ok (.bipush 100, 2) := by decide +kernel
theorem dX9_course_145 : decode cX9_course 145 = .ok (.aload_n 0, 1) := by decide +kernel
theorem dX9_course_146 : decode cX9_course 146 = .ok (.iload_n 1, 1) := by decide +kernel
theorem dX9_course_147 : decode cX9_course 147 = .ok (.iconst 1, 1) := by decide +kernel
theorem dX9_course_148 : decode cX9_course 148 = .ok (.invokevirtual 213, 3) := by decide +kernel
theorem dX9_course_151 : decode cX9_course 151 = .ok (.imul, 1) := by decide +kernel
theorem dX9_course_152 : decode cX9_course 152 = .ok (.aload_n 0, 1) := by decide +kernel
theorem dX9_course_153 : decode cX9_course 153 = .ok (.iload_n 1, 1) := by decide +kernel
theorem dX9_course_154 : decode cX9_course 154 = .ok (.iconst 2, 1) := by decide +kernel
theorem dX9_course_155 : decode cX9_course 155 = .ok (.invokevirtual 213, 3) := by decide +kernel
theorem dX9_course_158 : decode cX9_course 158 = .ok (.iadd, 1) := by decide +kernel
theorem dX9_course_159 : decode cX9_course 159 = .ok (.istore_n 3, 1) := by decide +kernel
theorem dX9_course_160 : decode cX9_course 160 = .ok (.aload_n 0, 1) := by decide +kernel
theorem dX9_course_161 : decode cX9_course 161 = .ok (.invokevirtual 331, 3) := by decide +kernel
theorem dX9_course_164 : decode cX9_course 164 = .ok (.iload_n 3, 1) := by decide +kernel
theorem dX9_course_165 : decode cX9_course 165 = .ok (.ireturn, 1) := by decide +kernel
theorem dX9_meet_0 : decode cX9_meet 0 = .ok (.aload_n 0, 1) := by decide +kernel
theorem dX9_meet_1 : decode cX9_meet 1 = .ok (.aload_n 0, 1) := by decide +kernel
theorem dX9_meet_2 : decode cX9_meet 2 = .ok (.iload_n 1, 1) := by decide +kernel
theorem dX9_meet_3 : decode cX9_meet 3 = .ok (.invokevirtual 296, 3) := by decide +kernel
theorem dX9_meet_6 : decode cX9_meet 6 = .ok (.ifCond .eq 15, 3) := by decide +kernel
theorem dX9_meet_9 : decode cX9_meet 9 = .ok (.aload_n 0, 1) := by decide +kernel
theorem dX9_meet_10 : decode cX9_meet 10 = .ok (.iload_n 2, 1) := by decide +kernel
theorem dX9_meet_11 : decode cX9_meet 11 = .ok (.invokevirtual 296, 3) := by decide +kernel
theorem dX9_meet_14 : decode cX9_meet 14 = .ok (.ifCond .eq 7, 3) := by decide +kernel
theorem dX9_meet_17 : decode cX9_meet 17 = .ok (.iconst 0, 1) := by decide +kernel
theorem dX9_meet_18 : decode cX9_meet 18 = .ok (.goto 4, 3) := by decide +kernel
theorem dX9_meet_21 : decode cX9_meet 21 = .ok (.iconst 1, 1) := by decide +kernel
theorem dX9_meet_22 : decode cX9_meet 22 = .ok (.putfield 66, 3) := by decide +kernel
theorem dX9_meet_25 : decode cX9_meet 25 = .ok (.aload_n 0, 1) := by decide +kernel
theorem dX9_meet_26 : decode cX9_meet 26 = .ok (.getfield 66, 3) := by decide +kernel
theorem dX9_meet_29 : decode cX9_meet 29 = .ok (.ifCond .le 5, 3) := by decide +kernel
theorem dX9_meet_32 : decode cX9_meet 32 = .ok (.iconst 0, 1) := by decide +kernel
theorem dX9_meet_33 : decode cX9_meet 33 = .ok (.ireturn, 1) := by decide +kernel
theorem dX9_meet_34 : decode cX9_meet 34 = .ok (.aload_n 0, 1) := by decide +kernel
theorem dX9_meet_35 : decode cX9_meet 35 = .ok (.invokevirtual 328, 3) := by decide +kernel
theorem dX9_meet_38 : decode cX9_meet 38 = .ok (.aload_n 0, 1) := by decide +kernel
theorem dX9_meet_39 : decode cX9_meet 39 = .ok (.invokevirtual 331, 3) := by decide +kernel
theorem dX9_meet_42 : decode cX9_meet 42 = .ok (.iload_n 1, 1) := by decide +kernel
theorem dX9_meet_43 : decode cX9_meet 43 = .ok (.iload_n 2, 1) := by decide +kernel
theorem dX9_meet_44 : decode cX9_meet 44 = .ok (.if_icmp .ne 7, 3) := by decide +kernel
theorem dX9_meet_47 : decode cX9_meet 47 = .ok (.iconst (-1), 1) := by decide +kernel
theorem dX9_meet_48 : decode cX9_meet 48 = .ok (.goto 22, 3) := by decide +kernel
theorem dX9_meet_51 : decode cX9_meet 51 = .ok (.aload_n 0, 1) := by decide +kernel
theorem dX9_meet_52 : decode cX9_meet 52 = .ok (.getfield 54, 3) := by decide +kernel
theorem dX9_meet_55 : decode cX9_meet 55 = .ok (.bipush 12, 2) := by decide +kernel
theorem dX9_meet_57 : decode cX9_meet 57 = .ok (.iload_n 1, 1) := by decide +kernel
theorem dX9_meet_58 : decode cX9_meet 58 = .ok (.iload_n 2, 1) := by decide +kernel
theorem dX9_meet_59 : decode cX9_meet 59 = .ok (.invokestatic 114, 3) := by decide +kernel
theorem dX9_meet_62 : decode cX9_meet 62 = .ok (.imul, 1) := by decide +kernel
theorem dX9_meet_63 : decode cX9_meet 63 = .ok (.iload_n 1, 1) := by decide +kernel
theorem dX9_meet_64 : decode cX9_meet 64 = .ok (.iload_n 2, 1) := by decide +kernel
theorem dX9_meet_65 : decode cX9_meet 65 = .ok (.invokestatic 269, 3) := by decide +kernel
theorem dX9_meet_68 : decode cX9_meet 68 = .ok (.iadd, 1) := by decide +kernel
theorem dX9_meet_69 : decode cX9_meet 69 = .ok (.iaload, 1) := by decide +kernel
theorem dX9_meet_70 : decode cX9_meet 70 = .ok (.ireturn, 1) := by decide +kernel
theorem dX9_spares_0 : decode cX9_spares 0 = .ok (.aload_n 0, 1) := by decide +kernel
theorem dX9_spares_1 : decode cX9_spares 1 = .ok (.aload_n 0, 1) := by decide +kernel
theorem dX9_spares_2 : decode cX9_spares 2 = .ok (.iload_n 1, 1) := by decide +kernel
theorem dX9_spares_3 : decode cX9_spares 3 = .ok (.invokevirtual 296, 3) := by decide +kernel
theorem dX9_spares_6 : decode cX9_spares 6 = .ok (.ifCond .eq 14, 3) := by decide +kernel
theorem dX9_spares_9 : decode cX9_spares 9 = .ok (.iload_n 2, 1) := by decide +kernel
theorem dX9_spares_10 : decode cX9_spares 10 = .ok (.invokestatic 311, 3) := by decide +kernel
theorem dX9_spares_13 : decode cX9_spares 13 = .ok (.ifCond .eq 7, 3) := by decide +kernel
theorem dX9_spares_16 : decode cX9_spares 16 = .ok (.iconst 0, 1) := by decide +kernel
theorem dX9_spares_17 : decode cX9_spares 17 = .ok (.goto 4, 3) := by decide +kernel
theorem dX9_spares_20 : decode cX9_spares 20 = .ok (.iconst 1, 1) := by decide +kernel
theorem dX9_spares_21 : decode cX9_spares 21 = .ok (.putfield 66, 3) := by decide +kernel
theorem dX9_spares_24 : decode cX9_spares 24 = .ok (.aload_n 0, 1) := by decide +kernel
theorem dX9_spares_25 : decode cX9_spares 25 = .ok (.getfield 66, 3) := by decide +kernel
theorem dX9_spares_28 : decode cX9_spares 28 = .ok (.ifCond .le 5, 3) := by decide +kernel
theorem dX9_spares_31 : decode cX9_spares 31 = .ok (.iconst 0, 1) := by decide +kernel
theorem dX9_spares_32 : decode cX9_spares 32 = .ok (.ireturn, 1) := by decide +kernel
theorem dX9_spares_33 : decode cX9_spares 33 = .ok (.iconst 0, 1) := by decide +kernel
theorem dX9_spares_34 : decode cX9_spares 34 = .ok (.istore_n 3, 1) := by decide +kernel
theorem dX9_spares_35 : decode cX9_spares 35 = .ok (.iconst (-1), 1) := by decide +kernel
theorem dX9_spares_36 : decode cX9_spares 36 = .ok (.istore 4, 2) := by decide +kernel
theorem dX9_spares_38 : decode cX9_spares 38 = .ok (.aload_n 0, 1) := by decide +kernel
theorem dX9_spares_39 : decode cX9_spares 39 = .ok (.iload_n 1, 1) := by decide +kernel
theorem dX9_spares_40 : decode cX9_spares 40 = .ok (.bipush 11, 2) := by decide +kernel
theorem dX9_spares_42 : decode cX9_spares 42 = .ok (.iload_n 2, 1) := by decide +kernel
theorem dX9_spares_43 : decode cX9_spares 43 = .ok (.iadd, 1) := by decide +kernel
theorem dX9_spares_44 : decode cX9_spares 44 = .ok (.invokevirtual 213, 3) := by decide +kernel
theorem dX9_spares_47 : decode cX9_spares 47 = .ok (.istore 5, 2) := by decide +kernel
theorem dX9_spares_49 : decode cX9_spares 49 = .ok (.iconst 1, 1) := by decide +kernel
theorem dX9_spares_50 : decode cX9_spares 50 = .ok (.istore 6, 2) := by decide +kernel
theorem dX9_spares_52 : decode cX9_spares 52 = .ok (.iload 6, 2) := by decide +kernel
theorem dX9_spares_54 : decode cX9_spares 54 = .ok (.iconst 4, 1) := by decide +kernel
theorem dX9_spares_55 : decode cX9_spares 55 = .ok (.if_icmp .gt 53, 3) := by decide +kernel
theorem dX9_spares_58 : decode cX9_spares 58 = .ok (.aload_n 0, 1) := by decide +kernel
theorem dX9_spares_59 : decode cX9_spares 59 = .ok (.iload_n 1, 1) := by decide +kernel
theorem dX9_spares_60 : decode cX9_spares 60 = .ok (.bipush 11, 2) := by decide +kernel
theorem dX9_spares_62 : decode cX9_spares 62 = .ok (.iload_n 2, 1) := by decide +kernel
theorem dX9_spares_63 : decode cX9_spares 63 = .ok (.iadd, 1) := by decide +kernel
theorem dX9_spares_64 : decode cX9_spares 64 = .ok (.iload 6, 2) := by decide +kernel
theorem dX9_spares_66 : decode cX9_spares 66 = .ok (.invokevirtual 228, 3) := by decide +kernel
theorem dX9_spares_69 : decode cX9_spares 69 = .ok (.aload_n 0, 1) := by decide +kernel
theorem dX9_spares_70 : decode cX9_spares 70 = .ok (.invokevirtual 328, 3) := by decide +kernel
theorem dX9_spares_73 : decode cX9_spares 73 = .ok (.aload_n 0, 1) := by decide +kernel
theorem dX9_spares_74 : decode cX9_spares 74 = .ok (.iload_n 1, 1) := by decide +kernel
theorem dX9_spares_75 : decode cX9_spares 75 = .ok (.iconst 4, 1) := by decide +kernel
theorem dX9_spares_76 : decode cX9_spares 76 = .ok (.invokevirtual 213, 3) := by decide +kernel
theorem dX9_spares_79 : decode cX9_spares 79 = .ok (.istore 7, 2) := by decide +kernel
theorem dX9_spares_81 : decode cX9_spares 81 = .ok (.aload_n 0, 1) := by decide +kernel
theorem dX9_spares_82 : decode cX9_spares 82 = .ok (.invokevirtual 331, 3) := by decide +kernel
theorem dX9_spares_85 : decode cX9_spares 85 = .ok (.iload 7, 2) := by decide +kernel
theorem dX9_spares_87 : decode cX9_spares 87 = .ok (.iload 4, 2) := by decide +kernel
theorem dX9_spares_89 : decode cX9_spares 89 = .ok (.if_icmp .gt 6, 3) := by decide +kernel
theorem dX9_spares_92 : decode cX9_spares 92 = .ok (.goto 10, 3) := by decide +kernel
theorem dX9_spares_95 : decode cX9_spares 95 = .ok (.iload 7, 2) := by decide +kernel
theorem dX9_spares_97 : decode cX9_spares 97 = .ok (.istore 4, 2) := by decide +kernel
theorem dX9_spares_99 : decode cX9_spares 99 = .ok (.iload 6, 2) := by decide +kernel
theorem dX9_spares_101 : decode cX9_spares 101 = .ok (.istore_n 3, 1) := by decide +kernel
theorem dX9_spares_102 : decode cX9_spares 102 = .ok (.iinc 6 1, 3) := by decide +kernel
theorem dX9_spares_105 : decode cX9_spares 105 = .ok (.goto (-53), 3) := by decide +kernel
theorem dX9_spares_108 : decode cX9_spares 108 = .ok (.aload_n 0, 1) := by decide +kernel
theorem dX9_spares_109 : decode cX9_spares 109 = .ok (.iload_n 1, 1) := by decide +kernel
theorem dX9_spares_110 : decode cX9_spares 110 = .ok (.bipush 11, 2) := by decide +kernel
theorem dX9_spares_112 : decode cX9_spares 112 = .ok (.iload_n 2, 1) := by decide +kernel
theorem dX9_spares_113 : decode cX9_spares 113 = .ok (.iadd, 1) := by decide +kernel
theorem dX9_spares_114 : decode cX9_spares 114 = .ok (.iload 5, 2) := by decide +kernel
theorem dX9_spares_116 : decode cX9_spares 116 = .ok (.invokevirtual 228, 3) := by decide +kernel
theorem dX9_spares_119 : decode cX9_spares 119 = .ok (.iload_n 3, 1) := by decide +kernel
theorem dX9_spares_120 : decode cX9_spares 120 = .ok (.ireturn, 1) := by decide +kernel
theorem dX9_bestWind_0 : decode cX9_bestWind 0 = .ok (.aload_n 0, 1) := by decide +kernel
theorem dX9_bestWind_1 : decode cX9_bestWind 1 = .ok (.aload_n 0, 1) := by decide +kernel
theorem dX9_bestWind_2 : decode cX9_bestWind 2 = .ok (.iload_n 1, 1) := by decide +kernel
theorem dX9_bestWind_3 : decode cX9_bestWind 3 = .ok (.invokevirtual 275, 3) := by decide +kernel
theorem dX9_bestWind_6 : decode cX9_bestWind 6 = .ok (.ifCond .eq 7, 3) := by decide +kernel
theorem dX9_bestWind_9 : decode cX9_bestWind 9 = .ok (.iconst 0, 1) := by decide +kernel
theorem dX9_bestWind_10 : decode cX9_bestWind 10 = .ok (.goto 4, 3) := by decide +kernel
theorem dX9_bestWind_13 : decode cX9_bestWind 13 = .ok (.iconst 1, 1) := by decide +kernel
theorem dX9_bestWind_14 : decode cX9_bestWind 14 = .ok (.putfield 66, 3) := by decide +kernel
theorem dX9_bestWind_17 : decode cX9_bestWind 17 = .ok (.aload_n 0, 1) := by decide +kernel
theorem dX9_bestWind_18 : decode cX9_bestWind 18 = .ok (.getfield 66, 3) := by decide +kernel
theorem dX9_bestWind_21 : decode cX9_bestWind 21 = .ok (.ifCond .le 5, 3) := by decide +kernel
theorem dX9_bestWind_24 : decode cX9_bestWind 24 = .ok (.iconst 0, 1) := by decide +kernel
theorem dX9_bestWind_25 : decode cX9_bestWind 25 = .ok (.ireturn, 1) := by decide +kernel
theorem dX9_bestWind_26 : decode cX9_bestWind 26 = .ok (.iconst 0, 1) := by decide +kernel
theorem dX9_bestWind_27 : decode cX9_bestWind 27 = .ok (.istore_n 2, 1) := by decide +kernel
theorem dX9_bestWind_28 : decode cX9_bestWind 28 = .ok (.iconst (-1), 1) := by decide +kernel
theorem dX9_bestWind_29 : decode cX9_bestWind 29 = .ok (.istore_n 3, 1) := by decide +kernel
theorem dX9_bestWind_30 : decode cX9_bestWind 30 = .ok (.iconst 0, 1) := by decide +kernel
theorem dX9_bestWind_31 : decode cX9_bestWind 31 = .ok (.istore 4, 2) := by decide +kernel
theorem dX9_bestWind_33 : decode cX9_bestWind 33 = .ok (.iload 4, 2) := by decide +kernel
theorem dX9_bestWind_35 : decode cX9_bestWind 35 = .ok (.bipush 8, 2) := by decide +kernel
theorem dX9_bestWind_37 : decode cX9_bestWind 37 = .ok (.if_icmp .ge 61, 3) := by decide +kernel
theorem dX9_bestWind_40 : decode cX9_bestWind 40 = .ok (.aload_n 0, 1) := by decide +kernel
theorem dX9_bestWind_41 : decode cX9_bestWind 41 = .ok (.getfield 16, 3) := by decide +kernel
theorem dX9_bestWind_44 : decode cX9_bestWind 44 = .ok (.iconst 0, 1) := by decide +kernel
theorem dX9_bestWind_45 : decode cX9_bestWind 45 = .ok (.aload_n 0, 1) := by decide +kernel
theorem dX9_bestWind_46 : decode cX9_bestWind 46 = .ok (.getfield 7, 3) := by decide +kernel
theorem dX9_bestWind_49 : decode cX9_bestWind 49 = .ok (.iconst 0, 1) := by decide +kernel
theorem dX9_bestWind_50 : decode cX9_bestWind 50 = .ok (.invokestatic 72, 3) := by decide +kernel
theorem dX9_bestWind_53 : decode cX9_bestWind 53 = .ok (.aload_n 0, 1) := by decide +kernel
theorem dX9_bestWind_54 : decode cX9_bestWind 54 = .ok (.getfield 7, 3) := by decide +kernel
theorem dX9_bestWind_57 : decode cX9_bestWind 57 = .ok (.iconst 5, 1) := by decide +kernel
theorem dX9_bestWind_58 : decode cX9_bestWind 58 = .ok (.iload 4, 2) := by decide +kernel
theorem dX9_bestWind_60 : decode cX9_bestWind 60 = .ok (.iastore, 1) := by decide +kernel
theorem dX9_bestWind_61 : decode cX9_bestWind 61 = .ok (.aload_n 0, 1) := by decide +kernel
theorem dX9_bestWind_62 : decode cX9_bestWind 62 = .ok (.iconst 0, 1) := by decide +kernel
theorem dX9_bestWind_63 : decode cX9_bestWind 63 = .ok (.invokevirtual 325, 3) := by decide +kernel
theorem dX9_bestWind_66 : decode cX9_bestWind 66 = .ok (.aload_n 0, 1) := by decide +kernel
theorem dX9_bestWind_67 : decode cX9_bestWind 67 = .ok (.iload_n 1, 1) := by decide +kernel
theorem dX9_bestWind_68 : decode cX9_bestWind 68 = .ok (.invokevirtual 305, 3) := by decide +kernel
theorem dX9_bestWind_71 : decode cX9_bestWind 71 = .ok (.istore 5, 2) := by decide +kernel
theorem dX9_bestWind_73 : decode cX9_bestWind 73 = .ok (.aload_n 0, 1) := by decide +kernel
theorem dX9_bestWind_74 : decode cX9_bestWind 74 = .ok (.invokevirtual 331, 3) := by decide +kernel
theorem dX9_bestWind_77 : decode cX9_bestWind 77 = .ok (.iload 5, 2) := by decide +kernel
theorem dX9_bestWind_79 : decode cX9_bestWind 79 = .ok (.iload_n 3, 1) := by decide +kernel
theorem dX9_bestWind_80 : decode cX9_bestWind 80 = .ok (.if_icmp .gt 6, 3) := by decide +kernel
theorem dX9_bestWind_83 : decode cX9_bestWind 83 = .ok (.goto 9, 3) := by decide +kernel
theorem dX9_bestWind_86 : decode cX9_bestWind 86 = .ok (.iload 5, 2) := by decide +kernel
theorem dX9_bestWind_88 : decode cX9_bestWind 88 = .ok (.istore_n 3, 1) := by decide +kernel
theorem dX9_bestWind_89 : decode cX9_bestWind 89 = .ok (.iload 4, 2) := by decide +kernel
theorem dX9_bestWind_91 : decode cX9_bestWind 91 = .ok (.istore_n 2, 1) := by decide +kernel
theorem dX9_bestWind_92 : decode cX9_bestWind 92 = .ok (.iinc 4 1, 3) := by decide +kernel
theorem dX9_bestWind_95 : decode cX9_bestWind 95 = .ok (.goto (-62), 3) := by decide +kernel
theorem dX9_bestWind_98 : decode cX9_bestWind 98 = .ok (.iload_n 2, 1) := by decide +kernel
theorem dX9_bestWind_99 : decode cX9_bestWind 99 = .ok (.ireturn, 1) := by decide +kernel
theorem dX9_pace_0 : decode cX9_pace 0 = .ok (.aload_n 0, 1) := by decide +kernel
theorem dX9_pace_1 : decode cX9_pace 1 = .ok (.aload_n 0, 1) := by decide +kernel
theorem dX9_pace_2 : decode cX9_pace 2 = .ok (.iload_n 1, 1) := by decide +kernel
theorem dX9_pace_3 : decode cX9_pace 3 = .ok (.invokevirtual 275, 3) := by decide +kernel
theorem dX9_pace_6 : decode cX9_pace 6 = .ok (.ifCond .eq 7, 3) := by decide +kernel
theorem dX9_pace_9 : decode cX9_pace 9 = .ok (.iconst 0, 1) := by decide +kernel
theorem dX9_pace_10 : decode cX9_pace 10 = .ok (.goto 4, 3) := by decide +kernel
theorem dX9_pace_13 : decode cX9_pace 13 = .ok (.iconst 1, 1) := by decide +kernel
theorem dX9_pace_14 : decode cX9_pace 14 = .ok (.putfield 66, 3) := by decide +kernel
theorem dX9_pace_17 : decode cX9_pace 17 = .ok (.aload_n 0, 1) := by decide +kernel
theorem dX9_pace_18 : decode cX9_pace 18 = .ok (.getfield 66, 3) := by decide +kernel
theorem dX9_pace_21 : decode cX9_pace 21 = .ok (.ifCond .le 5, 3) := by decide +kernel
theorem dX9_pace_24 : decode cX9_pace 24 = .ok (.fconst 0, 1) := by decide +kernel
theorem dX9_pace_25 : decode cX9_pace 25 = .ok (.freturn, 1) := by decide +kernel
theorem dX9_pace_26 : decode cX9_pace 26 = .ok (.aload_n 0, 1) := by decide +kernel
theorem dX9_pace_27 : decode cX9_pace 27 = .ok (.iload_n 1, 1) := by decide +kernel
theorem dX9_pace_28 : decode cX9_pace 28 = .ok (.invokevirtual 302, 3) := by decide +kernel
theorem dX9_pace_31 : decode cX9_pace 31 = .ok (.istore_n 2, 1) := by decide +kernel
theorem dX9_pace_32 : decode cX9_pace 32 = .ok (.aload_n 0, 1) := by decide +kernel
theorem dX9_pace_33 : decode cX9_pace 33 = .ok (.invokevirtual 328, 3) := by decide +kernel
theorem dX9_pace_36 : decode cX9_pace 36 = .ok (.aload_n 0, 1) := by decide +kernel
theorem dX9_pace_37 : decode cX9_pace 37 = .ok (.invokevirtual 331, 3) := by decide +kernel
theorem dX9_pace_40 : decode cX9_pace 40 = .ok (.iconst 0, 1) := by decide +kernel
theorem dX9_pace_41 : decode cX9_pace 41 = .ok (.istore_n 3, 1) := by decide +kernel
theorem dX9_pace_42 : decode cX9_pace 42 = .ok (.iconst 0, 1) := by decide +kernel
theorem dX9_pace_43 : decode cX9_pace 43 = .ok (.istore 4, 2) := by decide +kernel
theorem dX9_pace_45 : decode cX9_pace 45 = .ok (.iconst 0, 1) := by decide +kernel
theorem dX9_pace_46 : decode cX9_pace 46 = .ok (.istore 5, 2) := by decide +kernel
theorem dX9_pace_48 : decode cX9_pace 48 = .ok (.iload 5, 2) := by decide +kernel
theorem dX9_pace_50 : decode cX9_pace 50 = .ok (.aload_n 0, 1) := by decide +kernel
theorem dX9_pace_51 : decode cX9_pace 51 = .ok (.getfield 7, 3) := by decide +kernel
theorem dX9_pace_54 : decode cX9_pace 54 = .ok (.iconst 3, 1) := by decide +kernel
theorem dX9_pace_55 : decode cX9_pace 55 = .ok (.iaload, 1) := by decide +kernel
theorem dX9_pace_56 : decode cX9_pace 56 = .ok (.if_icmp .ge 34, 3) := by decide +kernel
theorem dX9_pace_59 : decode cX9_pace 59 = .ok (.iload_n 2, 1) := by decide +kernel
theorem dX9_pace_60 : decode cX9_pace 60 = .ok (.iload 5, 2) := by decide +kernel
theorem dX9_pace_62 : decode cX9_pace 62 = .ok (.ishr, 1) := by decide +kernel
theorem dX9_pace_63 : decode cX9_pace 63 = .ok (.iconst 1, 1) := by decide +kernel
theorem dX9_pace_64 : decode cX9_pace 64 = .ok (.iand, 1) := by decide +kernel
theorem dX9_pace_65 : decode cX9_pace 65 = .ok (.ifCond .ne 6, 3) := by decide +kernel
theorem dX9_pace_68 : decode cX9_pace 68 = .ok (.goto 16, 3) := by decide +kernel
theorem dX9_pace_71 : decode cX9_pace 71 = .ok (.iinc 4 1, 3) := by decide +kernel
theorem dX9_pace_74 : decode cX9_pace 74 = .ok (.iload_n 3, 1) := by decide +kernel
theorem dX9_pace_75 : decode cX9_pace 75 = .ok (.aload_n 0, 1) := by decide +kernel
theorem dX9_pace_76 : decode cX9_pace 76 = .ok (.getfield 51, 3) := by decide +kernel
theorem dX9_pace_79 : decode cX9_pace 79 = .ok (.iload 5, 2) := by decide +kernel
theorem dX9_pace_81 : decode cX9_pace 81 = .ok (.iaload, 1) := by decide +kernel
theorem dX9_pace_82 : decode cX9_pace 82 = .ok (.iadd, 1) := by decide +kernel
theorem dX9_pace_83 : decode cX9_pace 83 = .ok (.istore_n 3, 1) := by decide +kernel
theorem dX9_pace_84 : decode cX9_pace 84 = .ok (.iinc 5 1, 3) := by decide +kernel
theorem dX9_pace_87 : decode cX9_pace 87 = .ok (.goto (-39), 3) := by decide +kernel
theorem dX9_pace_90 : decode cX9_pace 90 = .ok (.iload 4, 2) := by decide +kernel
theorem dX9_pace_92 : decode cX9_pace 92 = .ok (.ifCond .ne 7, 3) := by decide +kernel
theorem dX9_pace_95 : decode cX9_pace 95 = .ok (.fconst 0, 1) := by decide +kernel
theorem dX9_pace_96 : decode cX9_pace 96 = .ok (.goto 9, 3) := by decide +kernel
theorem dX9_pace_99 : decode cX9_pace 99 = .ok (.iload_n 3, 1) := by decide +kernel
theorem dX9_pace_100 : decode cX9_pace 100 = .ok (.i2f, 1) := by decide +kernel
theorem dX9_pace_101 : decode cX9_pace 101 = .ok (.iload 4, 2) := by decide +kernel
theorem dX9_pace_103 : decode cX9_pace 103 = .ok (.i2f, 1) := by decide +kernel
theorem dX9_pace_104 : decode cX9_pace 104 = .ok (.fdiv, 1) := by decide +kernel
theorem dX9_pace_105 : decode cX9_pace 105 = .ok (.freturn, 1) := by decide +kernel
theorem dX9_letterOf_0 : decode cX9_letterOf 0 = .ok (.iload_n 0, 1) := by decide +kernel
theorem dX9_letterOf_1 : decode cX9_letterOf 1 = .ok (.bipush 97, 2) := by decide +kernel
theorem dX9_letterOf_3 : decode cX9_letterOf 3 = .ok (.if_icmp .ne 7, 3) := by decide +kernel
theorem dX9_letterOf_6 : decode cX9_letterOf 6 = .ok (.iconst 1, 1) := by decide +kernel
theorem dX9_letterOf_7 : decode cX9_letterOf 7 = .ok (.goto 34, 3) := by decide +kernel
theorem dX9_letterOf_10 : decode cX9_letterOf 10 = .ok (.iload_n 0, 1) := by decide +kernel
theorem dX9_letterOf_11 : decode cX9_letterOf 11 = .ok (.bipush 108, 2) := by decide +kernel
theorem dX9_letterOf_13 : decode cX9_letterOf 13 = .ok (.if_icmp .ne 7, 3) := by decide +kernel
theorem dX9_letterOf_16 : decode cX9_letterOf 16 = .ok (.iconst 2, 1) := by decide +kernel
theorem dX9_letterOf_17 : decode cX9_letterOf 17 = .ok (.goto 24, 3) := by decide +kernel
theorem dX9_letterOf_20 : decode cX9_letterOf 20 = .ok (.iload_n 0, 1) := by decide +kernel
theorem dX9_letterOf_21 : decode cX9_letterOf 21 = .ok (.bipush 114, 2) := by decide +kernel
theorem dX9_letterOf_23 : decode cX9_letterOf 23 = .ok (.if_icmp .ne 7, 3) := by decide +kernel
theorem dX9_letterOf_26 : decode cX9_letterOf 26 = .ok (.iconst 3, 1) := by decide +kernel
theorem dX9_letterOf_27 : decode cX9_letterOf 27 = .ok (.goto 14, 3) := by decide +kernel
theorem dX9_letterOf_30 : decode cX9_letterOf 30 = .ok (.iload_n 0, 1) := by decide +kernel
theorem dX9_letterOf_31 : decode cX9_letterOf 31 = .ok (.bipush 104, 2) := by decide +kernel
theorem dX9_letterOf_33 : decode cX9_letterOf 33 = .ok (.if_icmp .ne 7, 3) := by decide +kernel
theorem dX9_letterOf_36 : decode cX9_letterOf 36 = .ok (.iconst 4, 1) := by decide +kernel
theorem dX9_letterOf_37 : decode cX9_letterOf 37 = .ok (.goto 4, 3) := by decide +kernel
theorem dX9_letterOf_40 : decode cX9_letterOf 40 = .ok (.iconst 0, 1) := by decide +kernel
theorem dX9_letterOf_41 : decode cX9_letterOf 41 = .ok (.ireturn, 1) := by decide +kernel
theorem dX9_namedOf_0 : decode cX9_namedOf 0 = .ok (.iconst 0, 1) := by decide +kernel
theorem dX9_namedOf_1 : decode cX9_namedOf 1 = .ok (.istore_n 2, 1) := by decide +kernel
theorem dX9_namedOf_2 : decode cX9_namedOf 2 = .ok (.iload_n 2, 1) := by decide +kernel
theorem dX9_namedOf_3 : decode cX9_namedOf 3 = .ok (.aload_n 0, 1) := by decide +kernel
theorem dX9_namedOf_4 : decode cX9_namedOf 4 = .ok (.getfield 7, 3) := by decide +kernel
theorem dX9_namedOf_7 : decode cX9_namedOf 7 = .ok (.iconst 3, 1) := by decide +kernel
theorem dX9_namedOf_8 : decode cX9_namedOf 8 = .ok (.iaload, 1) := by decide +kernel
theorem dX9_namedOf_9 : decode cX9_namedOf 9 = .ok (.if_icmp .ge 41, 3) := by decide +kernel
theorem dX9_namedOf_12 : decode cX9_namedOf 12 = .ok (.aload_n 0, 1) := by decide +kernel
theorem dX9_namedOf_13 : decode cX9_namedOf 13 = .ok (.iload_n 2, 1) := by decide +kernel
theorem dX9_namedOf_14 : decode cX9_namedOf 14 = .ok (.iload_n 1, 1) := by decide +kernel
theorem dX9_namedOf_15 : decode cX9_namedOf 15 = .ok (.invokevirtual 299, 3) := by decide +kernel
theorem dX9_namedOf_18 : decode cX9_namedOf 18 = .ok (.ifCond .eq 26, 3) := by decide +kernel
theorem dX9_namedOf_21 : decode cX9_namedOf 21 = .ok (.aload_n 0, 1) := by decide +kernel
theorem dX9_namedOf_22 : decode cX9_namedOf 22 = .ok (.aload_n 0, 1) := by decide +kernel
theorem dX9_namedOf_23 : decode cX9_namedOf 23 = .ok (.getfield 7, 3) := by decide +kernel
theorem dX9_namedOf_26 : decode cX9_namedOf 26 = .ok (.bipush 46, 2) := by decide +kernel
theorem dX9_namedOf_28 : decode cX9_namedOf 28 = .ok (.bipush 25, 2) := by decide +kernel
theorem dX9_namedOf_30 : decode cX9_namedOf 30 = .ok (.iload_n 2, 1) := by decide +kernel
theorem dX9_namedOf_31 : decode cX9_namedOf 31 = .ok (.imul, 1) := by decide +kernel
theorem dX9_namedOf_32 : decode cX9_namedOf 32 = .ok (.iadd, 1) := by decide +kernel
theorem dX9_namedOf_33 : decode cX9_namedOf 33 = .ok (.bipush 17, 2) := by decide +kernel
theorem dX9_namedOf_35 : decode cX9_namedOf 35 = .ok (.iadd, 1) := by decide +kernel
theorem dX9_namedOf_36 : decode cX9_namedOf 36 = .ok (.invokevirtual 162, 3) := by decide +kernel
theorem dX9_namedOf_39 : decode cX9_namedOf 39 = .ok (.ifCond .eq 5, 3) := by decide +kernel
theorem dX9_namedOf_42 : decode cX9_namedOf 42 = .ok (.iload_n 2, 1) := by decide +kernel
theorem dX9_namedOf_43 : decode cX9_namedOf 43 = .ok (.ireturn, 1) := by decide +kernel
theorem dX9_namedOf_44 : decode cX9_namedOf 44 = .ok (.iinc 2 1, 3) := by decide +kernel
theorem dX9_namedOf_47 : decode cX9_namedOf 47 = .ok (.goto (-45), 3) := by decide +kernel
theorem dX9_namedOf_50 : decode cX9_namedOf 50 = .ok (.iconst (-1), 1) := by decide +kernel
theorem dX9_namedOf_51 : decode cX9_namedOf 51 = .ok (.ireturn, 1) := by decide +kernel
theorem dX9_readsLetters_0 : decode cX9_readsLetters 0 = .ok (.aload_n 0, 1) := by decide +kernel
theorem dX9_readsLetters_1 : decode cX9_readsLetters 1 = .ok (.getfield 104, 3) := by decide +kernel
theorem dX9_readsLetters_4 : decode cX9_readsLetters 4 = .ok (.ifCond .eq 9, 3) := by decide +kernel
theorem dX9_readsLetters_7 : decode cX9_readsLetters 7 = .ok (.aload_n 0, 1) := by decide +kernel
theorem dX9_readsLetters_8 : decode cX9_readsLetters 8 = .ok (.bipush (-2), 2) := by decide +kernel
theorem dX9_readsLetters_10 : decode cX9_readsLetters 10 = .ok (.invokevirtual 126, 3) := by decide +kernel
theorem dX9_readsLetters_13 : decode cX9_readsLetters 13 = .ok (.iconst 0, 1) := by decide +kernel
theorem dX9_readsLetters_14 : decode cX9_readsLetters 14 = .ok (.istore_n 2, 1) := by decide +kernel
theorem dX9_readsLetters_15 : decode cX9_readsLetters 15 = .ok (.aload_n 0, 1) := by decide +kernel
theorem dX9_readsLetters_16 : decode cX9_readsLetters 16 = .ok (.getfield 120, 3) := by decide +kernel
theorem dX9_readsLetters_19 : decode cX9_readsLetters 19 = .ok (.ifCond .ne 82, 3) := by decide +kernel
theorem dX9_readsLetters_22 : decode cX9_readsLetters 22 = .ok (.aload_n 0, 1) := by decide +kernel
theorem dX9_readsLetters_23 : decode cX9_readsLetters 23 = .ok (.getfield 98, 3) := by decide +kernel
theorem dX9_readsLetters_26 : decode cX9_readsLetters 26 = .ok (.iload_n 2, 1) := by decide +kernel
theorem dX9_readsLetters_27 : decode cX9_readsLetters 27 = .ok (.iadd, 1) := by decide +kernel
theorem dX9_readsLetters_28 : decode cX9_readsLetters 28 = .ok (.aload_n 0, 1) := by decide +kernel
theorem dX9_readsLetters_29 : decode cX9_readsLetters 29 = .ok (.getfield 95, 3) := by decide +kernel
theorem dX9_readsLetters_32 : decode cX9_readsLetters 32 = .ok (.if_icmp .ge 69, 3) := by decide +kernel
theorem dX9_readsLetters_35 : decode cX9_readsLetters 35 = .ok (.iload_n 2, 1) := by decide +kernel
theorem dX9_readsLetters_36 : decode cX9_readsLetters 36 = .ok (.bipush 6, 2) := by decide +kernel
theorem dX9_readsLetters_38 : decode cX9_readsLetters 38 = .ok (.if_icmp .ge 20, 3) := by decide +kernel
theorem dX9_readsLetters_41 : decode cX9_readsLetters 41 = .ok (.aload_n 0, 1) := by decide +kernel
theorem dX9_readsLetters_42 : decode cX9_readsLetters 42 = .ok (.getfield 29, 3) := by decide +kernel
theorem dX9_readsLetters_45 : decode cX9_readsLetters 45 = .ok (.aload_n 0, 1) := by decide +kernel
theorem dX9_readsLetters_46 : decode cX9_readsLetters 46 = .ok (.getfield 98, 3) := by decide +kernel
theorem dX9_readsLetters_49 : decode cX9_readsLetters 49 = .ok (.iload_n 2, 1) := by decide +kernel
theorem dX9_readsLetters_50 : decode cX9_readsLetters 50 = .ok (.iadd, 1) := by decide +kernel
theorem dX9_readsLetters_51 : decode cX9_readsLetters 51 = .ok (.iaload, 1) := by decide +kernel
theorem dX9_readsLetters_52 : decode cX9_readsLetters 52 = .ok (.invokestatic 334, 3) := by decide +kernel
theorem dX9_readsLetters_55 : decode cX9_readsLetters 55 = .ok (.goto 4, 3) := by decide +kernel
theorem dX9_readsLetters_58 : decode cX9_readsLetters 58 = .ok (.iconst 0, 1) := by decide +kernel
theorem dX9_readsLetters_59 : decode cX9_readsLetters 59 = .ok (.istore_n 3, 1) := by decide +kernel
theorem dX9_readsLetters_60 : decode cX9_readsLetters 60 = .ok (.iload_n 3, 1) := by decide +kernel
theorem dX9_readsLetters_61 : decode cX9_readsLetters 61 = .ok (.ifCond .ne 22, 3) := by decide +kernel
theorem dX9_readsLetters_64 : decode cX9_readsLetters 64 = .ok (.aload_n 0, 1) := by decide +kernel
theorem dX9_readsLetters_65 : decode cX9_readsLetters 65 = .ok (.bipush (-3), 2) := by decide +kernel
theorem dX9_readsLetters_67 : decode cX9_readsLetters 67 = .ok (.putfield 120, 3) := by decide +kernel
theorem dX9_readsLetters_70 : decode cX9_readsLetters 70 = .ok (.aload_n 0, 1) := by decide +kernel
theorem dX9_readsLetters_71 : decode cX9_readsLetters 71 = .ok (.aload_n 0, 1) := by decide +kernel
theorem dX9_readsLetters_72 : decode cX9_readsLetters 72 = .ok (.getfield 98, 3) := by decide +kernel
theorem dX9_readsLetters_75 : decode cX9_readsLetters 75 = .ok (.iload_n 2, 1) := by decide +kernel
theorem dX9_readsLetters_76 : decode cX9_readsLetters 76 = .ok (.iadd, 1) := by decide +kernel
theorem dX9_readsLetters_77 : decode cX9_readsLetters 77 = .ok (.putfield 130, 3) := by decide +kernel
theorem dX9_readsLetters_80 : decode cX9_readsLetters 80 = .ok (.goto 15, 3) := by decide +kernel
theorem dX9_readsLetters_83 : decode cX9_readsLetters 83 = .ok (.aload_n 0, 1) := by decide +kernel
theorem dX9_readsLetters_84 : decode cX9_readsLetters 84 = .ok (.getfield 57, 3) := by decide +kernel
theorem dX9_readsLetters_87 : decode cX9_readsLetters 87 = .ok (.bipush 6, 2) := by decide +kernel
theorem dX9_readsLetters_89 : decode cX9_readsLetters 89 = .ok (.iload_n 1, 1) := by decide +kernel
theorem dX9_readsLetters_90 : decode cX9_readsLetters 90 = .ok (.imul, 1) := by decide +kernel
theorem dX9_readsLetters_91 : decode cX9_readsLetters 91 = .ok (.iload_n 2, 1) := by decide +kernel
theorem dX9_readsLetters_92 : decode cX9_readsLetters 92 = .ok (.iadd, 1) := by decide +kernel
theorem dX9_readsLetters_93 : decode cX9_readsLetters 93 = .ok (.iload_n 3, 1) := by decide +kernel
theorem dX9_readsLetters_94 : decode cX9_readsLetters 94 = .ok (.iastore, 1) := by decide +kernel
theorem dX9_readsLetters_95 : decode cX9_readsLetters 95 = .ok (.iinc 2 1, 3) := by decide +kernel
theorem dX9_readsLetters_98 : decode cX9_readsLetters 98 = .ok (.goto (-83), 3) := by decide +kernel
theorem dX9_readsLetters_101 : decode cX9_readsLetters 101 = .ok (.aload_n 0, 1) := by decide +kernel
theorem dX9_readsLetters_102 : decode cX9_readsLetters 102 = .ok (.iconst 1, 1) := by decide +kernel
theorem dX9_readsLetters_103 : decode cX9_readsLetters 103 = .ok (.invokevirtual 143, 3) := by decide +kernel
theorem dX9_readsLetters_106 : decode cX9_readsLetters 106 = .ok (.return_, 1) := by decide +kernel
theorem dX9_write_0 : decode cX9_write 0 = .ok (.aload_n 0, 1) := by decide +kernel
theorem dX9_write_1 : decode cX9_write 1 = .ok (.aload_n 0, 1) := by decide +kernel
theorem dX9_write_2 : decode cX9_write 2 = .ok (.iload_n 1, 1) := by decide +kernel
theorem dX9_write_3 : decode cX9_write 3 = .ok (.invokevirtual 275, 3) := by decide +kernel
theorem dX9_write_6 : decode cX9_write 6 = .ok (.ifCond .ne 7, 3) := by decide +kernel
theorem dX9_write_9 : decode cX9_write 9 = .ok (.iconst 1, 1) := by decide +kernel
theorem dX9_write_10 : decode cX9_write 10 = .ok (.goto 25, 3) := by decide +kernel
theorem dX9_write_13 : decode cX9_write 13 = .ok (.aload_n 0, 1) := by decide +kernel
theorem dX9_write_14 : decode cX9_write 14 = .ok (.getfield 7, 3) := by decide +kernel
theorem dX9_write_17 : decode cX9_write 17 = .ok (.bipush 34, 2) := by decide +kernel
theorem dX9_write_19 : decode cX9_write 19 = .ok (.iconst 3, 1) := by decide +kernel
theorem dX9_write_20 : decode cX9_write 20 = .ok (.iload_n 1, 1) := by decide +kernel
theorem dX9_write_21 : decode cX9_write 21 = .ok (.imul, 1) := by decide +kernel
theorem dX9_write_22 : decode cX9_write 22 = .ok (.iadd, 1) := by decide +kernel
theorem dX9_write_23 : decode cX9_write 23 = .ok (.iconst 1, 1) := by decide +kernel
theorem dX9_write_24 : decode cX9_write 24 = .ok (.iadd, 1) := by decide +kernel
theorem dX9_write_25 : decode cX9_write 25 = .ok (.iaload, 1) := by decide +kernel
theorem dX9_write_26 : decode cX9_write 26 = .ok (.iconst 1, 1) := by decide +kernel
theorem dX9_write_27 : decode cX9_write 27 = .ok (.if_icmp .ne 7, 3) := by decide +kernel
theorem dX9_write_30 : decode cX9_write 30 = .ok (.iconst 2, 1) := by decide +kernel
theorem dX9_write_31 : decode cX9_write 31 = .ok (.goto 4, 3) := by decide +kernel
theorem dX9_write_34 : decode cX9_write 34 = .ok (.iconst 0, 1) := by decide +kernel
theorem dX9_write_35 : decode cX9_write 35 = .ok (.putfield 66, 3) := by decide +kernel
theorem dX9_write_38 : decode cX9_write 38 = .ok (.aload_n 0, 1) := by decide +kernel
theorem dX9_write_39 : decode cX9_write 39 = .ok (.getfield 66, 3) := by decide +kernel
theorem dX9_write_42 : decode cX9_write 42 = .ok (.ifCond .le 5, 3) := by decide +kernel
theorem dX9_write_45 : decode cX9_write 45 = .ok (.iconst 0, 1) := by decide +kernel
theorem dX9_write_46 : decode cX9_write 46 = .ok (.ireturn, 1) := by decide +kernel
theorem dX9_write_47 : decode cX9_write 47 = .ok (.iconst 0, 1) := by decide +kernel
theorem dX9_write_48 : decode cX9_write 48 = .ok (.istore_n 2, 1) := by decide +kernel
theorem dX9_write_49 : decode cX9_write 49 = .ok (.iload_n 2, 1) := by decide +kernel
theorem dX9_write_50 : decode cX9_write 50 = .ok (.bipush 72, 2) := by decide +kernel
theorem dX9_write_52 : decode cX9_write 52 = .ok (.if_icmp .ge 16, 3) := by decide +kernel
theorem dX9_write_55 : decode cX9_write 55 = .ok (.aload_n 0, 1) := by decide +kernel
theorem dX9_write_56 : decode cX9_write 56 = .ok (.getfield 57, 3) := by decide +kernel
theorem dX9_write_59 : decode cX9_write 59 = .ok (.iload_n 2, 1) := by decide +kernel
theorem dX9_write_60 : decode cX9_write 60 = .ok (.iconst 1, 1) := by decide +kernel
theorem dX9_write_61 : decode cX9_write 61 = .ok (.iastore, 1) := by decide +kernel
theorem dX9_write_62 : decode cX9_write 62 = .ok (.iinc 2 1, 3) := by decide +kernel
theorem dX9_write_65 : decode cX9_write 65 = .ok (.goto (-16), 3) := by decide +kernel
theorem dX9_write_68 : decode cX9_write 68 = .ok (.iconst 0, 1) := by decide +kernel
theorem dX9_write_69 : decode cX9_write 69 = .ok (.istore_n 2, 1) := by decide +kernel
theorem dX9_write_70 : decode cX9_write 70 = .ok (.iconst 0, 1) := by decide +kernel
theorem dX9_write_71 : decode cX9_write 71 = .ok (.istore_n 3, 1) := by decide +kernel
theorem dX9_write_72 : decode cX9_write 72 = .ok (.aload_n 0, 1) := by decide +kernel
theorem dX9_write_73 : decode cX9_write 73 = .ok (.invokevirtual 193, 3) := by decide +kernel
theorem dX9_write_76 : decode cX9_write 76 = .ok (.aload_n 0, 1) := by decide +kernel
theorem dX9_write_77 : decode cX9_write 77 = .ok (.getfield 120, 3) := by decide +kernel
theorem dX9_write_80 : decode cX9_write 80 = .ok (.ifCond .ne 105, 3) := by decide +kernel
theorem dX9_write_83 : decode cX9_write 83 = .ok (.aload_n 0, 1) := by decide +kernel
theorem dX9_write_84 : decode cX9_write 84 = .ok (.getfield 104, 3) := by decide +kernel
theorem dX9_write_87 : decode cX9_write 87 = .ok (.ifCond .ne 98, 3) := by decide +kernel
theorem dX9_write_90 : decode cX9_write 90 = .ok (.aload_n 0, 1) := by decide +kernel
theorem dX9_write_91 : decode cX9_write 91 = .ok (.invokevirtual 159, 3) := by decide +kernel
theorem dX9_write_94 : decode cX9_write 94 = .ok (.aload_n 0, 1) := by decide +kernel
theorem dX9_write_95 : decode cX9_write 95 = .ok (.getfield 120, 3) := by decide +kernel
theorem dX9_write_98 : decode cX9_write 98 = .ok (.ifCond .ne 11, 3) := by decide +kernel
theorem dX9_write_101 : decode cX9_write 101 = .ok (.aload_n 0, 1) := by decide +kernel
theorem dX9_write_102 : decode cX9_write 102 = .ok (.iload_n 1, 1) := by decide +kernel
theorem dX9_write_103 : decode cX9_write 103 = .ok (.invokevirtual 337, 3) := by decide +kernel
theorem dX9_write_106 : decode cX9_write 106 = .ok (.goto 4, 3) := by decide +kernel
theorem dX9_write_109 : decode cX9_write 109 = .ok (.iconst (-1), 1) := by decide +kernel
theorem dX9_write_110 : decode cX9_write 110 = .ok (.istore 4, 2) := by decide +kernel
theorem dX9_write_112 : decode cX9_write 112 = .ok (.iload 4, 2) := by decide +kernel
theorem dX9_write_114 : decode cX9_write 114 = .ok (.iconst (-1), 1) := by decide +kernel
theorem dX9_write_115 : decode cX9_write 115 = .ok (.if_icmp .ne 9, 3) := by decide +kernel
theorem dX9_write_118 : decode cX9_write 118 = .ok (.aload_n 0, 1) := by decide +kernel
theorem dX9_write_119 : decode cX9_write 119 = .ok (.bipush (-7), 2) := by decide +kernel
theorem dX9_write_121 : decode cX9_write 121 = .ok (.invokevirtual 126, 3) := by decide +kernel
theorem dX9_write_124 : decode cX9_write 124 = .ok (.aload_n 0, 1) := by decide +kernel
theorem dX9_write_125 : decode cX9_write 125 = .ok (.getfield 120, 3) := by decide +kernel
theorem dX9_write_128 : decode cX9_write 128 = .ok (.ifCond .ne 19, 3) := by decide +kernel
theorem dX9_write_131 : decode cX9_write 131 = .ok (.iload_n 2, 1) := by decide +kernel
theorem dX9_write_132 : decode cX9_write 132 = .ok (.iload 4, 2) := by decide +kernel
theorem dX9_write_134 : decode cX9_write 134 = .ok (.ishr, 1) := by decide +kernel
theorem dX9_write_135 : decode cX9_write 135 = .ok (.iconst 1, 1) := by decide +kernel
theorem dX9_write_136 : decode cX9_write 136 = .ok (.iand, 1) := by decide +kernel
theorem dX9_write_137 : decode cX9_write 137 = .ok (.iconst 1, 1) := by decide +kernel
theorem dX9_write_138 : decode cX9_write 138 = .ok (.if_icmp .ne 9, 3) := by decide +kernel
theorem dX9_write_141 : decode cX9_write 141 = .ok (.aload_n 0, 1) := by decide +kernel
theorem dX9_write_142 : decode cX9_write 142 = .ok (.bipush (-4), 2) := by decide +kernel
theorem dX9_write_144 : decode cX9_write 144 = .ok (.invokevirtual 126, 3) := by decide +kernel
theorem dX9_write_147 : decode cX9_write 147 = .ok (.aload_n 0, 1) := by decide +kernel
theorem dX9_write_148 : decode cX9_write 148 = .ok (.iconst 1, 1) := by decide +kernel
theorem dX9_write_149 : decode cX9_write 149 = .ok (.invokevirtual 143, 3) := by decide +kernel
theorem dX9_write_152 : decode cX9_write 152 = .ok (.aload_n 0, 1) := by decide +kernel
theorem dX9_write_153 : decode cX9_write 153 = .ok (.getfield 120, 3) := by decide +kernel
theorem dX9_write_156 : decode cX9_write 156 = .ok (.ifCond .eq 6, 3) := by decide +kernel
theorem dX9_write_159 : decode cX9_write 159 = .ok (.goto (-83), 3) := by decide +kernel
theorem dX9_write_162 : decode cX9_write 162 = .ok (.iload_n 2, 1) := by decide +kernel
theorem dX9_write_163 : decode cX9_write 163 = .ok (.iconst 1, 1) := by decide +kernel
theorem dX9_write_164 : decode cX9_write 164 = .ok (.iload 4, 2) := by decide +kernel
theorem dX9_write_166 : decode cX9_write 166 = .ok (.ishl, 1) := by decide +kernel
theorem dX9_write_167 : decode cX9_write 167 = .ok (.ior, 1) := by decide +kernel
theorem dX9_write_168 : decode cX9_write 168 = .ok (.istore_n 2, 1) := by decide +kernel
theorem dX9_write_169 : decode cX9_write 169 = .ok (.iinc 3 1, 3) := by decide +kernel
theorem dX9_write_172 : decode cX9_write 172 = .ok (.aload_n 0, 1) := by decide +kernel
theorem dX9_write_173 : decode cX9_write 173 = .ok (.iload 4, 2) := by decide +kernel
theorem dX9_write_175 : decode cX9_write 175 = .ok (.invokevirtual 340, 3) := by decide +kernel
theorem dX9_write_178 : decode cX9_write 178 = .ok (.aload_n 0, 1) := by decide +kernel
theorem dX9_write_179 : decode cX9_write 179 = .ok (.invokevirtual 156, 3) := by decide +kernel
theorem dX9_write_182 : decode cX9_write 182 = .ok (.goto (-106), 3) := by decide +kernel
theorem dX9_write_185 : decode cX9_write 185 = .ok (.aload_n 0, 1) := by decide +kernel
theorem dX9_write_186 : decode cX9_write 186 = .ok (.invokevirtual 210, 3) := by decide +kernel
theorem dX9_write_189 : decode cX9_write 189 = .ok (.aload_n 0, 1) := by decide +kernel
theorem dX9_write_190 : decode cX9_write 190 = .ok (.getfield 120, 3) := by decide +kernel
theorem dX9_write_193 : decode cX9_write 193 = .ok (.ifCond .eq 8, 3) := by decide +kernel
theorem dX9_write_196 : decode cX9_write 196 = .ok (.aload_n 0, 1) := by decide +kernel
theorem dX9_write_197 : decode cX9_write 197 = .ok (.getfield 120, 3) := by decide +kernel
theorem dX9_write_200 : decode cX9_write 200 = .ok (.ireturn, 1) := by decide +kernel
theorem dX9_write_201 : decode cX9_write 201 = .ok (.aload_n 0, 1) := by decide +kernel
theorem dX9_write_202 : decode cX9_write 202 = .ok (.aload_n 0, 1) := by decide +kernel
theorem dX9_write_203 : decode cX9_write 203 = .ok (.getfield 7, 3) := by decide +kernel
theorem dX9_write_206 : decode cX9_write 206 = .ok (.invokevirtual 80, 3) := by decide +kernel
theorem dX9_write_209 : decode cX9_write 209 = .ok (.iconst 0, 1) := by decide +kernel
theorem dX9_write_210 : decode cX9_write 210 = .ok (.istore 4, 2) := by decide +kernel
theorem dX9_write_212 : decode cX9_write 212 = .ok (.iload 4, 2) := by decide +kernel
theorem dX9_write_214 : decode cX9_write 214 = .ok (.aload_n 0, 1) := by decide +kernel
theorem dX9_write_215 : decode cX9_write 215 = .ok (.getfield 7, 3) := by decide +kernel
theorem dX9_write_218 : decode cX9_write 218 = .ok (.iconst 3, 1) := by decide +kernel
theorem dX9_write_219 : decode cX9_write 219 = .ok (.iaload, 1) := by decide +kernel
theorem dX9_write_220 : decode cX9_write 220 = .ok (.if_icmp .ge 60, 3) := by decide +kernel
theorem dX9_write_223 : decode cX9_write 223 = .ok (.iconst 0, 1) := by decide +kernel
theorem dX9_write_224 : decode cX9_write 224 = .ok (.istore 5, 2) := by decide +kernel
theorem dX9_write_226 : decode cX9_write 226 = .ok (.iload 5, 2) := by decide +kernel
theorem dX9_write_228 : decode cX9_write 228 = .ok (.bipush 6, 2) := by decide +kernel
theorem dX9_write_230 : decode cX9_write 230 = .ok (.if_icmp .ge 44, 3) := by decide +kernel
theorem dX9_write_233 : decode cX9_write 233 = .ok (.aload_n 0, 1) := by decide +kernel
theorem dX9_write_234 : decode cX9_write 234 = .ok (.iload 4, 2) := by decide +kernel
theorem dX9_write_236 : decode cX9_write 236 = .ok (.iconst 0, 1) := by decide +kernel
theorem dX9_write_237 : decode cX9_write 237 = .ok (.invokevirtual 213, 3) := by decide +kernel
theorem dX9_write_240 : decode cX9_write 240 = .ok (.iload_n 1, 1) := by decide +kernel
theorem dX9_write_241 : decode cX9_write 241 = .ok (.if_icmp .ne 27, 3) := by decide +kernel
theorem dX9_write_244 : decode cX9_write 244 = .ok (.aload_n 0, 1) := by decide +kernel
theorem dX9_write_245 : decode cX9_write 245 = .ok (.iload 4, 2) := by decide +kernel
theorem dX9_write_247 : decode cX9_write 247 = .ok (.bipush 11, 2) := by decide +kernel
theorem dX9_write_249 : decode cX9_write 249 = .ok (.iload 5, 2) := by decide +kernel
theorem dX9_write_251 : decode cX9_write 251 = .ok (.iadd, 1) := by decide +kernel
theorem dX9_write_252 : decode cX9_write 252 = .ok (.aload_n 0, 1) := by decide +kernel
theorem dX9_write_253 : decode cX9_write 253 = .ok (.getfield 57, 3) := by decide +kernel
theorem dX9_write_256 : decode cX9_write 256 = .ok (.bipush 6, 2) := by decide +kernel
theorem dX9_write_258 : decode cX9_write 258 = .ok (.iload 4, 2) := by decide +kernel
theorem dX9_write_260 : decode cX9_write 260 = .ok (.imul, 1) := by decide +kernel
theorem dX9_write_261 : decode cX9_write 261 = .ok (.iload 5, 2) := by decide +kernel
theorem dX9_write_263 : decode cX9_write 263 = .ok (.iadd, 1) := by decide +kernel
theorem dX9_write_264 : decode cX9_write 264 = .ok (.iaload, 1) := by decide +kernel
theorem dX9_write_265 : decode cX9_write 265 = .ok (.invokevirtual 228, 3) := by decide +kernel
theorem dX9_write_268 : decode cX9_write 268 = .ok (.iinc 5 1, 3) := by decide +kernel
theorem dX9_write_271 : decode cX9_write 271 = .ok (.goto (-45), 3) := by decide +kernel
theorem dX9_write_274 : decode cX9_write 274 = .ok (.iinc 4 1, 3) := by decide +kernel
theorem dX9_write_277 : decode cX9_write 277 = .ok (.goto (-65), 3) := by decide +kernel
theorem dX9_write_280 : decode cX9_write 280 = .ok (.iload_n 3, 1) := by decide +kernel
theorem dX9_write_281 : decode cX9_write 281 = .ok (.ireturn, 1) := by decide +kernel
theorem dX9_seal_0 : decode cX9_seal 0 = .ok (.aload_n 0, 1) := by decide +kernel
theorem dX9_seal_1 : decode cX9_seal 1 = .ok (.aload_n 0, 1) := by decide +kernel
theorem dX9_seal_2 : decode cX9_seal 2 = .ok (.iload_n 1, 1) := by decide +kernel
theorem dX9_seal_3 : decode cX9_seal 3 = .ok (.invokevirtual 275, 3) := by decide +kernel
theorem dX9_seal_6 : decode cX9_seal 6 = .ok (.ifCond .ne 7, 3) := by decide +kernel
theorem dX9_seal_9 : decode cX9_seal 9 = .ok (.iconst 1, 1) := by decide +kernel
theorem dX9_seal_10 : decode cX9_seal 10 = .ok (.goto 40, 3) := by decide +kernel
theorem dX9_seal_13 : decode cX9_seal 13 = .ok (.iload_n 2, 1) := by decide +kernel
theorem dX9_seal_14 : decode cX9_seal 14 = .ok (.iconst 0, 1) := by decide +kernel
theorem dX9_seal_15 : decode cX9_seal 15 = .ok (.ldc_w 321, 3) := by decide +kernel
theorem dX9_seal_18 : decode cX9_seal 18 = .ok (.invokestatic 76, 3) := by decide +kernel
theorem dX9_seal_21 : decode cX9_seal 21 = .ok (.ifCond .ne 7, 3) := by decide +kernel
theorem dX9_seal_24 : decode cX9_seal 24 = .ok (.iconst 2, 1) := by decide +kernel
theorem dX9_seal_25 : decode cX9_seal 25 = .ok (.goto 25, 3) := by decide +kernel
theorem dX9_seal_28 : decode cX9_seal 28 = .ok (.aload_n 0, 1) := by decide +kernel
theorem dX9_seal_29 : decode cX9_seal 29 = .ok (.getfield 7, 3) := by decide +kernel
theorem dX9_seal_32 : decode cX9_seal 32 = .ok (.bipush 34, 2) := by decide +kernel
theorem dX9_seal_34 : decode cX9_seal 34 = .ok (.iconst 3, 1) := by decide +kernel
theorem dX9_seal_35 : decode cX9_seal 35 = .ok (.iload_n 1, 1) := by decide +kernel
theorem dX9_seal_36 : decode cX9_seal 36 = .ok (.imul, 1) := by decide +kernel
theorem dX9_seal_37 : decode cX9_seal 37 = .ok (.iadd, 1) := by decide +kernel
theorem dX9_seal_38 : decode cX9_seal 38 = .ok (.iconst 1, 1) := by decide +kernel
theorem dX9_seal_39 : decode cX9_seal 39 = .ok (.iadd, 1) := by decide +kernel
theorem dX9_seal_40 : decode cX9_seal 40 = .ok (.iaload, 1) := by decide +kernel
theorem dX9_seal_41 : decode cX9_seal 41 = .ok (.iconst 1, 1) := by decide +kernel
theorem dX9_seal_42 : decode cX9_seal 42 = .ok (.if_icmp .ne 7, 3) := by decide +kernel
theorem dX9_seal_45 : decode cX9_seal 45 = .ok (.iconst 3, 1) := by decide +kernel
theorem dX9_seal_46 : decode cX9_seal 46 = .ok (.goto 4, 3) := by decide +kernel
theorem dX9_seal_49 : decode cX9_seal 49 = .ok (.iconst 0, 1) := by decide +kernel
theorem dX9_seal_50 : decode cX9_seal 50 = .ok (.putfield 66, 3) := by decide +kernel
theorem dX9_seal_53 : decode cX9_seal 53 = .ok (.aload_n 0, 1) := by decide +kernel
theorem dX9_seal_54 : decode cX9_seal 54 = .ok (.getfield 66, 3) := by decide +kernel
theorem dX9_seal_57 : decode cX9_seal 57 = .ok (.ifCond .le 5, 3) := by decide +kernel
theorem dX9_seal_60 : decode cX9_seal 60 = .ok (.iconst 0, 1) := by decide +kernel
theorem dX9_seal_61 : decode cX9_seal 61 = .ok (.ireturn, 1) := by decide +kernel
theorem dX9_seal_62 : decode cX9_seal 62 = .ok (.aload_n 0, 1) := by decide +kernel
theorem dX9_seal_63 : decode cX9_seal 63 = .ok (.aload_n 0, 1) := by decide +kernel
theorem dX9_seal_64 : decode cX9_seal 64 = .ok (.getfield 7, 3) := by decide +kernel
theorem dX9_seal_67 : decode cX9_seal 67 = .ok (.invokevirtual 80, 3) := by decide +kernel
theorem dX9_seal_70 : decode cX9_seal 70 = .ok (.iload_n 2, 1) := by decide +kernel
theorem dX9_seal_71 : decode cX9_seal 71 = .ok (.istore_n 3, 1) := by decide +kernel
theorem dX9_seal_72 : decode cX9_seal 72 = .ok (.iconst 0, 1) := by decide +kernel
theorem dX9_seal_73 : decode cX9_seal 73 = .ok (.istore 4, 2) := by decide +kernel
theorem dX9_seal_75 : decode cX9_seal 75 = .ok (.iload 4, 2) := by decide +kernel
theorem dX9_seal_77 : decode cX9_seal 77 = .ok (.aload_n 0, 1) := by decide +kernel
theorem dX9_seal_78 : decode cX9_seal 78 = .ok (.getfield 7, 3) := by decide +kernel
theorem dX9_seal_81 : decode cX9_seal 81 = .ok (.iconst 3, 1) := by decide +kernel
theorem dX9_seal_82 : decode cX9_seal 82 = .ok (.iaload, 1) := by decide +kernel
theorem dX9_seal_83 : decode cX9_seal 83 = .ok (.if_icmp .ge 51, 3) := by decide +kernel
theorem dX9_seal_86 : decode cX9_seal 86 = .ok (.iconst 0, 1) := by decide +kernel
theorem dX9_seal_87 : decode cX9_seal 87 = .ok (.istore 5, 2) := by decide +kernel
theorem dX9_seal_89 : decode cX9_seal 89 = .ok (.iload 5, 2) := by decide +kernel
theorem dX9_seal_91 : decode cX9_seal 91 = .ok (.bipush 6, 2) := by decide +kernel
theorem dX9_seal_93 : decode cX9_seal 93 = .ok (.if_icmp .ge 35, 3) := by decide +kernel
theorem dX9_seal_96 : decode cX9_seal 96 = .ok (.aload_n 0, 1) := by decide +kernel
theorem dX9_seal_97 : decode cX9_seal 97 = .ok (.iload 4, 2) := by decide +kernel
theorem dX9_seal_99 : decode cX9_seal 99 = .ok (.iload_n 1, 1) := by decide +kernel
theorem dX9_seal_100 : decode cX9_seal 100 = .ok (.invokevirtual 299, 3) := by decide +kernel
theorem dX9_seal_103 : decode cX9_seal 103 = .ok (.ifCond .eq 19, 3) := by decide +kernel
theorem dX9_seal_106 : decode cX9_seal 106 = .ok (.iload_n 3, 1) := by decide +kernel
theorem dX9_seal_107 : decode cX9_seal 107 = .ok (.aload_n 0, 1) := by decide +kernel
theorem dX9_seal_108 : decode cX9_seal 108 = .ok (.iload 4, 2) := by decide +kernel
theorem dX9_seal_110 : decode cX9_seal 110 = .ok (.bipush 11, 2) := by decide +kernel
theorem dX9_seal_112 : decode cX9_seal 112 = .ok (.iload 5, 2) := by decide +kernel
theorem dX9_seal_114 : decode cX9_seal 114 = .ok (.iadd, 1) := by decide +kernel
theorem dX9_seal_115 : decode cX9_seal 115 = .ok (.invokevirtual 213, 3) := by decide +kernel
theorem dX9_seal_118 : decode cX9_seal 118 = .ok (.invokestatic 322, 3) := by decide +kernel
theorem dX9_seal_121 : decode cX9_seal 121 = .ok (.istore_n 3, 1) := by decide +kernel
theorem dX9_seal_122 : decode cX9_seal 122 = .ok (.iinc 5 1, 3) := by decide +kernel
theorem dX9_seal_125 : decode cX9_seal 125 = .ok (.goto (-36), 3) := by decide +kernel
theorem dX9_seal_128 : decode cX9_seal 128 = .ok (.iinc 4 1, 3) := by decide +kernel
theorem dX9_seal_131 : decode cX9_seal 131 = .ok (.goto (-56), 3) := by decide +kernel
theorem dX9_seal_134 : decode cX9_seal 134 = .ok (.aload_n 0, 1) := by decide +kernel
theorem dX9_seal_135 : decode cX9_seal 135 = .ok (.getfield 7, 3) := by decide +kernel
theorem dX9_seal_138 : decode cX9_seal 138 = .ok (.bipush 34, 2) := by decide +kernel
theorem dX9_seal_140 : decode cX9_seal 140 = .ok (.iconst 3, 1) := by decide +kernel
theorem dX9_seal_141 : decode cX9_seal 141 = .ok (.iload_n 1, 1) := by decide +kernel
theorem dX9_seal_142 : decode cX9_seal 142 = .ok (.imul, 1) := by decide +kernel
theorem dX9_seal_143 : decode cX9_seal 143 = .ok (.iadd, 1) := by decide +kernel
theorem dX9_seal_144 : decode cX9_seal 144 = .ok (.iconst 1, 1) := by decide +kernel
theorem dX9_seal_145 : decode cX9_seal 145 = .ok (.iadd, 1) := by decide +kernel
theorem dX9_seal_146 : decode cX9_seal 146 = .ok (.iconst 1, 1) := by decide +kernel
theorem dX9_seal_147 : decode cX9_seal 147 = .ok (.iastore, 1) := by decide +kernel
theorem dX9_seal_148 : decode cX9_seal 148 = .ok (.aload_n 0, 1) := by decide +kernel
theorem dX9_seal_149 : decode cX9_seal 149 = .ok (.getfield 7, 3) := by decide +kernel
theorem dX9_seal_152 : decode cX9_seal 152 = .ok (.bipush 34, 2) := by decide +kernel
theorem dX9_seal_154 : decode cX9_seal 154 = .ok (.iconst 3, 1) := by decide +kernel
theorem dX9_seal_155 : decode cX9_seal 155 = .ok (.iload_n 1, 1) := by decide +kernel
theorem dX9_seal_156 : decode cX9_seal 156 = .ok (.imul, 1) := by decide +kernel
theorem dX9_seal_157 : decode cX9_seal 157 = .ok (.iadd, 1) := by decide +kernel
theorem dX9_seal_158 : decode cX9_seal 158 = .ok (.iconst 2, 1) := by decide +kernel
theorem dX9_seal_159 : decode cX9_seal 159 = .ok (.iadd, 1) := by decide +kernel
theorem dX9_seal_160 : decode cX9_seal 160 = .ok (.iload_n 3, 1) := by decide +kernel
theorem dX9_seal_161 : decode cX9_seal 161 = .ok (.iastore, 1) := by decide +kernel
theorem dX9_seal_162 : decode cX9_seal 162 = .ok (.iload_n 3, 1) := by decide +kernel
theorem dX9_seal_163 : decode cX9_seal 163 = .ok (.ireturn, 1) := by decide +kernel
theorem dX9_isReady_0 : decode cX9_isReady 0 = .ok (.iconst 0, 1) := by decide +kernel
theorem dX9_isReady_1 : decode cX9_isReady 1 = .ok (.istore_n 1, 1) := by decide +kernel
theorem dX9_isReady_2 : decode cX9_isReady 2 = .ok (.iload_n 1, 1) := by decide +kernel
theorem dX9_isReady_3 : decode cX9_isReady 3 = .ok (.aload_n 0, 1) := by decide +kernel
theorem dX9_isReady_4 : decode cX9_isReady 4 = .ok (.getfield 7, 3) := by decide +kernel
theorem dX9_isReady_7 : decode cX9_isReady 7 = .ok (.iconst 3, 1) := by decide +kernel
theorem dX9_isReady_8 : decode cX9_isReady 8 = .ok (.iaload, 1) := by decide +kernel
theorem dX9_isReady_9 : decode cX9_isReady 9 = .ok (.if_icmp .ge 40, 3) := by decide +kernel
theorem dX9_isReady_12 : decode cX9_isReady 12 = .ok (.aload_n 0, 1) := by decide +kernel
theorem dX9_isReady_13 : decode cX9_isReady 13 = .ok (.iload_n 1, 1) := by decide +kernel
theorem dX9_isReady_14 : decode cX9_isReady 14 = .ok (.invokevirtual 216, 3) := by decide +kernel
theorem dX9_isReady_17 : decode cX9_isReady 17 = .ok (.ifCond .eq 26, 3) := by decide +kernel
theorem dX9_isReady_20 : decode cX9_isReady 20 = .ok (.aload_n 0, 1) := by decide +kernel
theorem dX9_isReady_21 : decode cX9_isReady 21 = .ok (.getfield 7, 3) := by decide +kernel
theorem dX9_isReady_24 : decode cX9_isReady 24 = .ok (.bipush 34, 2) := by decide +kernel
theorem dX9_isReady_26 : decode cX9_isReady 26 = .ok (.iconst 3, 1) := by decide +kernel
theorem dX9_isReady_27 : decode cX9_isReady 27 = .ok (.aload_n 0, 1) := by decide +kernel
theorem dX9_isReady_28 : decode cX9_isReady 28 = .ok (.iload_n 1, 1) := by decide +kernel
theorem dX9_isReady_29 : decode cX9_isReady 29 = .ok (.iconst 0, 1) := by decide +kernel
theorem dX9_isReady_30 : decode cX9_isReady 30 = .ok (.invokevirtual 213, 3) := by decide +kernel
theorem dX9_isReady_33 : decode cX9_isReady 33 = .ok (.imul, 1) := by decide +kernel
theorem dX9_isReady_34 : decode cX9_isReady 34 = .ok (.iadd, 1) := by decide +kernel
theorem dX9_isReady_35 : decode cX9_isReady 35 = .ok (.iconst 1, 1) := by decide +kernel
theorem dX9_isReady_36 : decode cX9_isReady 36 = .ok (.iadd, 1) := by decide +kernel
theorem dX9_isReady_37 : decode cX9_isReady 37 = .ok (.iaload, 1) := by decide +kernel
theorem dX9_isReady_38 : decode cX9_isReady 38 = .ok (.ifCond .ne 5, 3) := by decide +kernel
theorem dX9_isReady_41 : decode cX9_isReady 41 = .ok (.iconst 0, 1) := by decide +kernel
theorem dX9_isReady_42 : decode cX9_isReady 42 = .ok (.ireturn, 1) := by decide +kernel
theorem dX9_isReady_43 : decode cX9_isReady 43 = .ok (.iinc 1 1, 3) := by decide +kernel
theorem dX9_isReady_46 : decode cX9_isReady 46 = .ok (.goto (-44), 3) := by decide +kernel
theorem dX9_isReady_49 : decode cX9_isReady 49 = .ok (.aload_n 0, 1) := by decide +kernel
theorem dX9_isReady_50 : decode cX9_isReady 50 = .ok (.getfield 7, 3) := by decide +kernel
theorem dX9_isReady_53 : decode cX9_isReady 53 = .ok (.iconst 4, 1) := by decide +kernel
theorem dX9_isReady_54 : decode cX9_isReady 54 = .ok (.iaload, 1) := by decide +kernel
theorem dX9_isReady_55 : decode cX9_isReady 55 = .ok (.sipush 1000, 3) := by decide +kernel
theorem dX9_isReady_58 : decode cX9_isReady 58 = .ok (.if_icmp .ge 7, 3) := by decide +kernel
theorem dX9_isReady_61 : decode cX9_isReady 61 = .ok (.iconst 1, 1) := by decide +kernel
theorem dX9_isReady_62 : decode cX9_isReady 62 = .ok (.goto 4, 3) := by decide +kernel
theorem dX9_isReady_65 : decode cX9_isReady 65 = .ok (.iconst 0, 1) := by decide +kernel
theorem dX9_isReady_66 : decode cX9_isReady 66 = .ok (.ireturn, 1) := by decide +kernel
theorem dX9_run_0 : decode cX9_run 0 = .ok (.aload_n 0, 1) := by decide +kernel
theorem dX9_run_1 : decode cX9_run 1 = .ok (.aload_n 0, 1) := by decide +kernel
theorem dX9_run_2 : decode cX9_run 2 = .ok (.invokevirtual 343, 3) := by decide +kernel
theorem dX9_run_5 : decode cX9_run 5 = .ok (.ifCond .eq 7, 3) := by decide +kernel
theorem dX9_run_8 : decode cX9_run 8 = .ok (.iconst 0, 1) := by decide +kernel
theorem dX9_run_9 : decode cX9_run 9 = .ok (.goto 4, 3) := by decide +kernel
theorem dX9_run_12 : decode cX9_run 12 = .ok (.iconst 1, 1) := by decide +kernel
theorem dX9_run_13 : decode cX9_run 13 = .ok (.putfield 66, 3) := by decide +kernel
theorem dX9_run_16 : decode cX9_run 16 = .ok (.aload_n 0, 1) := by decide +kernel
theorem dX9_run_17 : decode cX9_run 17 = .ok (.getfield 66, 3) := by decide +kernel
theorem dX9_run_20 : decode cX9_run 20 = .ok (.ifCond .le 5, 3) := by decide +kernel
theorem dX9_run_23 : decode cX9_run 23 = .ok (.iconst 0, 1) := by decide +kernel
theorem dX9_run_24 : decode cX9_run 24 = .ok (.ireturn, 1) := by decide +kernel
theorem dX9_run_25 : decode cX9_run 25 = .ok (.aload_n 0, 1) := by decide +kernel
theorem dX9_run_26 : decode cX9_run 26 = .ok (.aload_n 0, 1) := by decide +kernel
theorem dX9_run_27 : decode cX9_run 27 = .ok (.getfield 7, 3) := by decide +kernel
theorem dX9_run_30 : decode cX9_run 30 = .ok (.invokevirtual 80, 3) := by decide +kernel
theorem dX9_run_33 : decode cX9_run 33 = .ok (.aload_n 0, 1) := by decide +kernel
theorem dX9_run_34 : decode cX9_run 34 = .ok (.iconst 1, 1) := by decide +kernel
theorem dX9_run_35 : decode cX9_run 35 = .ok (.invokevirtual 325, 3) := by decide +kernel
theorem dX9_run_38 : decode cX9_run 38 = .ok (.aload_n 0, 1) := by decide +kernel
theorem dX9_run_39 : decode cX9_run 39 = .ok (.getfield 257, 3) := by decide +kernel
theorem dX9_run_42 : decode cX9_run 42 = .ok (.ireturn, 1) := by decide +kernel
theorem dX9_setWind_0 : decode cX9_setWind 0 = .ok (.aload_n 0, 1) := by decide +kernel
theorem dX9_setWind_1 : decode cX9_setWind 1 = .ok (.iload_n 1, 1) := by decide +kernel
theorem dX9_setWind_2 : decode cX9_setWind 2 = .ok (.iconst 0, 1) := by decide +kernel
theorem dX9_setWind_3 : decode cX9_setWind 3 = .ok (.bipush 7, 2) := by decide +kernel
theorem dX9_setWind_5 : decode cX9_setWind 5 = .ok (.invokestatic 76, 3) := by decide +kernel
theorem dX9_setWind_8 : decode cX9_setWind 8 = .ok (.ifCond .eq 17, 3) := by decide +kernel
theorem dX9_setWind_11 : decode cX9_setWind 11 = .ok (.iload_n 2, 1) := by decide +kernel
theorem dX9_setWind_12 : decode cX9_setWind 12 = .ok (.iconst 0, 1) := by decide +kernel
theorem dX9_setWind_13 : decode cX9_setWind 13 = .ok (.bipush 9, 2) := by decide +kernel
theorem dX9_setWind_15 : decode cX9_setWind 15 = .ok (.invokestatic 76, 3) := by decide +kernel
theorem dX9_setWind_18 : decode cX9_setWind 18 = .ok (.ifCond .eq 7, 3) := by decide +kernel
theorem dX9_setWind_21 : decode cX9_setWind 21 = .ok (.iconst 0, 1) := by decide +kernel
theorem dX9_setWind_22 : decode cX9_setWind 22 = .ok (.goto 4, 3) := by decide +kernel
theorem dX9_setWind_25 : decode cX9_setWind 25 = .ok (.iconst 1, 1) := by decide +kernel
theorem dX9_setWind_26 : decode cX9_setWind 26 = .ok (.putfield 66, 3) := by decide +kernel
theorem dX9_setWind_29 : decode cX9_setWind 29 = .ok (.aload_n 0, 1) := by decide +kernel
theorem dX9_setWind_30 : decode cX9_setWind 30 = .ok (.getfield 66, 3) := by decide +kernel
theorem dX9_setWind_33 : decode cX9_setWind 33 = .ok (.ifCond .le 5, 3) := by decide +kernel
theorem dX9_setWind_36 : decode cX9_setWind 36 = .ok (.iconst 0, 1) := by decide +kernel
theorem dX9_setWind_37 : decode cX9_setWind 37 = .ok (.ireturn, 1) := by decide +kernel
theorem dX9_setWind_38 : decode cX9_setWind 38 = .ok (.aload_n 0, 1) := by decide +kernel
theorem dX9_setWind_39 : decode cX9_setWind 39 = .ok (.aload_n 0, 1) := by decide +kernel
theorem dX9_setWind_40 : decode cX9_setWind 40 = .ok (.getfield 7, 3) := by decide +kernel
theorem dX9_setWind_43 : decode cX9_setWind 43 = .ok (.invokevirtual 80, 3) := by decide +kernel
theorem dX9_setWind_46 : decode cX9_setWind 46 = .ok (.bipush 10, 2) := by decide +kernel
theorem dX9_setWind_48 : decode cX9_setWind 48 = .ok (.aload_n 0, 1) := by decide +kernel
theorem dX9_setWind_49 : decode cX9_setWind 49 = .ok (.getfield 7, 3) := by decide +kernel
theorem dX9_setWind_52 : decode cX9_setWind 52 = .ok (.iconst 5, 1) := by decide +kernel
theorem dX9_setWind_53 : decode cX9_setWind 53 = .ok (.iaload, 1) := by decide +kernel
theorem dX9_setWind_54 : decode cX9_setWind 54 = .ok (.imul, 1) := by decide +kernel
theorem dX9_setWind_55 : decode cX9_setWind 55 = .ok (.aload_n 0, 1) := by decide +kernel
theorem dX9_setWind_56 : decode cX9_setWind 56 = .ok (.getfield 7, 3) := by decide +kernel
theorem dX9_setWind_59 : decode cX9_setWind 59 = .ok (.bipush 6, 2) := by decide +kernel
theorem dX9_setWind_61 : decode cX9_setWind 61 = .ok (.iaload, 1) := by decide +kernel
theorem dX9_setWind_62 : decode cX9_setWind 62 = .ok (.iadd, 1) := by decide +kernel
theorem dX9_setWind_63 : decode cX9_setWind 63 = .ok (.istore_n 3, 1) := by decide +kernel
theorem dX9_setWind_64 : decode cX9_setWind 64 = .ok (.aload_n 0, 1) := by decide +kernel
theorem dX9_setWind_65 : decode cX9_setWind 65 = .ok (.getfield 7, 3) := by decide +kernel
theorem dX9_setWind_68 : decode cX9_setWind 68 = .ok (.iconst 5, 1) := by decide +kernel
theorem dX9_setWind_69 : decode cX9_setWind 69 = .ok (.iload_n 1, 1) := by decide +kernel
theorem dX9_setWind_70 : decode cX9_setWind 70 = .ok (.iastore, 1) := by decide +kernel
theorem dX9_setWind_71 : decode cX9_setWind 71 = .ok (.aload_n 0, 1) := by decide +kernel
theorem dX9_setWind_72 : decode cX9_setWind 72 = .ok (.getfield 7, 3) := by decide +kernel
theorem dX9_setWind_75 : decode cX9_setWind 75 = .ok (.bipush 6, 2) := by decide +kernel
theorem dX9_setWind_77 : decode cX9_setWind 77 = .ok (.iload_n 2, 1) := by decide +kernel
theorem dX9_setWind_78 : decode cX9_setWind 78 = .ok (.iastore, 1) := by decide +kernel
theorem dX9_setWind_79 : decode cX9_setWind 79 = .ok (.iload_n 3, 1) := by decide +kernel
theorem dX9_setWind_80 : decode cX9_setWind 80 = .ok (.ireturn, 1) := by decide +kernel
theorem dX9_says_0 : decode cX9_says 0 = .ok (.aload_n 0, 1) := by decide +kernel
theorem dX9_says_1 : decode cX9_says 1 = .ok (.getfield 60, 3) := by decide +kernel
theorem dX9_says_4 : decode cX9_says 4 = .ok (.aload_n 0, 1) := by decide +kernel
theorem dX9_says_5 : decode cX9_says 5 = .ok (.getfield 347, 3) := by decide +kernel
theorem dX9_says_8 : decode cX9_says 8 = .ok (.iload_n 1, 1) := by decide +kernel
theorem dX9_says_9 : decode cX9_says 9 = .ok (.iastore, 1) := by decide +kernel
theorem dX9_says_10 : decode cX9_says 10 = .ok (.aload_n 0, 1) := by decide +kernel
theorem dX9_says_11 : decode cX9_says 11 = .ok (.dup, 1) := by decide +kernel
theorem dX9_says_12 : decode cX9_says 12 = .ok (.getfield 347, 3) := by decide +kernel
theorem dX9_says_15 : decode cX9_says 15 = .ok (.iconst 1, 1) := by decide +kernel
theorem dX9_says_16 : decode cX9_says 16 = .ok (.iadd, 1) := by decide +kernel
theorem dX9_says_17 : decode cX9_says 17 = .ok (.putfield 347, 3) := by decide +kernel
theorem dX9_says_20 : decode cX9_says 20 = .ok (.return_, 1) := by decide +kernel
theorem dX9_saysNumber_0 : decode cX9_saysNumber 0 = .ok (.iload_n 1, 1) := by decide +kernel
theorem dX9_saysNumber_1 : decode cX9_saysNumber 1 = .ok (.bipush 9, 2) := by decide +kernel
theorem dX9_saysNumber_3 : decode cX9_saysNumber 3 = .ok (.if_icmp .le 11, 3) := by decide +kernel
theorem dX9_saysNumber_6 : decode cX9_saysNumber 6 = .ok (.aload_n 0, 1) := by decide +kernel
theorem dX9_saysNumber_7 : decode cX9_saysNumber 7 = .ok (.iload_n 1, 1) := by decide +kernel
theorem dX9_saysNumber_8 : decode cX9_saysNumber 8 = .ok (.bipush 10, 2) := by decide +kernel
theorem dX9_saysNumber_10 : decode cX9_saysNumber 10 = .ok (.idiv, 1) := by decide +kernel
theorem dX9_saysNumber_11 : decode cX9_saysNumber 11 = .ok (.invokevirtual 350, 3) := by decide +kernel
theorem dX9_saysNumber_14 : decode cX9_saysNumber 14 = .ok (.aload_n 0, 1) := by decide +kernel
theorem dX9_saysNumber_15 : decode cX9_saysNumber 15 = .ok (.bipush 48, 2) := by decide +kernel
theorem dX9_saysNumber_17 : decode cX9_saysNumber 17 = .ok (.iload_n 1, 1) := by decide +kernel
theorem dX9_saysNumber_18 : decode cX9_saysNumber 18 = .ok (.bipush 10, 2) := by decide +kernel
theorem dX9_saysNumber_20 : decode cX9_saysNumber 20 = .ok (.irem, 1) := by decide +kernel
theorem dX9_saysNumber_21 : decode cX9_saysNumber 21 = .ok (.iadd, 1) := by decide +kernel
theorem dX9_saysNumber_22 : decode cX9_saysNumber 22 = .ok (.invokevirtual 353, 3) := by decide +kernel
theorem dX9_saysNumber_25 : decode cX9_saysNumber 25 = .ok (.return_, 1) := by decide +kernel
theorem dX9_saysHeading_0 : decode cX9_saysHeading 0 = .ok (.iload_n 1, 1) := by decide +kernel
theorem dX9_saysHeading_1 : decode cX9_saysHeading 1 = .ok (.iconst 2, 1) := by decide +kernel
theorem dX9_saysHeading_2 : decode cX9_saysHeading 2 = .ok (.if_icmp .lt 9, 3) := by decide +kernel
theorem dX9_saysHeading_5 : decode cX9_saysHeading 5 = .ok (.iload_n 1, 1) := by decide +kernel
theorem dX9_saysHeading_6 : decode cX9_saysHeading 6 = .ok (.bipush 7, 2) := by decide +kernel
theorem dX9_saysHeading_8 : decode cX9_saysHeading 8 = .ok (.if_icmp .ne 9, 3) := by decide +kernel
theorem dX9_saysHeading_11 : decode cX9_saysHeading 11 = .ok (.aload_n 0, 1) := by decide +kernel
theorem dX9_saysHeading_12 : decode cX9_saysHeading 12 = .ok (.bipush 78, 2) := by decide +kernel
theorem dX9_saysHeading_14 : decode cX9_saysHeading 14 = .ok (.invokevirtual 353, 3) := by decide +kernel
theorem dX9_saysHeading_17 : decode cX9_saysHeading 17 = .ok (.iload_n 1, 1) := by decide +kernel
theorem dX9_saysHeading_18 : decode cX9_saysHeading 18 = .ok (.iconst 3, 1) := by decide +kernel
theorem dX9_saysHeading_19 : decode cX9_saysHeading 19 = .ok (.iconst 5, 1) := by decide +kernel
theorem dX9_saysHeading_20 : decode cX9_saysHeading 20 = .ok (.invokestatic 76, 3) := by decide +kernel
theorem dX9_saysHeading_23 : decode cX9_saysHeading 23 = .ok (.ifCond .eq 9, 3) := by decide +kernel
theorem dX9_saysHeading_26 : decode cX9_saysHeading 26 = .ok (.aload_n 0, 1) := by decide +kernel
theorem dX9_saysHeading_27 : decode cX9_saysHeading 27 = .ok (.bipush 83, 2) := by decide +kernel
theorem dX9_saysHeading_29 : decode cX9_saysHeading 29 = .ok (.invokevirtual 353, 3) := by decide +kernel
theorem dX9_saysHeading_32 : decode cX9_saysHeading 32 = .ok (.iload_n 1, 1) := by decide +kernel
theorem dX9_saysHeading_33 : decode cX9_saysHeading 33 = .ok (.iconst 1, 1) := by decide +kernel
theorem dX9_saysHeading_34 : decode cX9_saysHeading 34 = .ok (.iconst 3, 1) := by decide +kernel
theorem dX9_saysHeading_35 : decode cX9_saysHeading 35 = .ok (.invokestatic 76, 3) := by decide +kernel
theorem dX9_saysHeading_38 : decode cX9_saysHeading 38 = .ok (.ifCond .eq 9, 3) := by decide +kernel
theorem dX9_saysHeading_41 : decode cX9_saysHeading 41 = .ok (.aload_n 0, 1) := by decide +kernel
theorem dX9_saysHeading_42 : decode cX9_saysHeading 42 = .ok (.bipush 69, 2) := by decide +kernel
theorem dX9_saysHeading_44 : decode cX9_saysHeading 44 = .ok (.invokevirtual 353, 3) := by decide +kernel
theorem dX9_saysHeading_47 : decode cX9_saysHeading 47 = .ok (.iload_n 1, 1) := by decide +kernel
theorem dX9_saysHeading_48 : decode cX9_saysHeading 48 = .ok (.iconst 4, 1) := by decide +kernel
theorem dX9_saysHeading_49 : decode cX9_saysHeading 49 = .ok (.if_icmp .le 9, 3) := by decide +kernel
theorem dX9_saysHeading_52 : decode cX9_saysHeading 52 = .ok (.aload_n 0, 1) := by decide +kernel
theorem dX9_saysHeading_53 : decode cX9_saysHeading 53 = .ok (.bipush 87, 2) := by decide +kernel
theorem dX9_saysHeading_55 : decode cX9_saysHeading 55 = .ok (.invokevirtual 353, 3) := by decide +kernel
theorem dX9_saysHeading_58 : decode cX9_saysHeading 58 = .ok (.return_, 1) := by decide +kernel
theorem dX9_writeShips_0 : decode cX9_writeShips 0 = .ok (.aload_n 0, 1) := by decide +kernel
theorem dX9_writeShips_1 : decode cX9_writeShips 1 = .ok (.iconst 0, 1) := by decide +kernel
theorem dX9_writeShips_2 : decode cX9_writeShips 2 = .ok (.putfield 66, 3) := by decide +kernel
theorem dX9_writeShips_5 : decode cX9_writeShips 5 = .ok (.aload_n 0, 1) := by decide +kernel
theorem dX9_writeShips_6 : decode cX9_writeShips 6 = .ok (.iconst 0, 1) := by decide +kernel
theorem dX9_writeShips_7 : decode cX9_writeShips 7 = .ok (.putfield 347, 3) := by decide +kernel
theorem dX9_writeShips_10 : decode cX9_writeShips 10 = .ok (.iconst 0, 1) := by decide +kernel
theorem dX9_writeShips_11 : decode cX9_writeShips 11 = .ok (.istore_n 1, 1) := by decide +kernel
theorem dX9_writeShips_12 : decode cX9_writeShips 12 = .ok (.iload_n 1, 1) := by decide +kernel
theorem dX9_writeShips_13 : decode cX9_writeShips 13 = .ok (.aload_n 0, 1) := by decide +kernel
theorem dX9_writeShips_14 : decode cX9_writeShips 14 = .ok (.getfield 7, 3) := by decide +kernel
theorem dX9_writeShips_17 : decode cX9_writeShips 17 = .ok (.iconst 3, 1) := by decide +kernel
theorem dX9_writeShips_18 : decode cX9_writeShips 18 = .ok (.iaload, 1) := by decide +kernel
theorem dX9_writeShips_19 : decode cX9_writeShips 19 = .ok (.if_icmp .ge 130, 3) := by decide +kernel
theorem dX9_writeShips_22 : decode cX9_writeShips 22 = .ok (.aload_n 0, 1) := by decide +kernel
theorem dX9_writeShips_23 : decode cX9_writeShips 23 = .ok (.iload_n 1, 1) := by decide +kernel
theorem dX9_writeShips_24 : decode cX9_writeShips 24 = .ok (.invokevirtual 216, 3) := by decide +kernel
theorem dX9_writeShips_27 : decode cX9_writeShips 27 = .ok (.ifCond .ne 6, 3) := by decide +kernel
theorem dX9_writeShips_30 : decode cX9_writeShips 30 = .ok (.goto 113, 3) := by decide +kernel
theorem dX9_writeShips_33 : decode cX9_writeShips 33 = .ok (.aload_n 0, 1) := by decide +kernel
theorem dX9_writeShips_34 : decode cX9_writeShips 34 = .ok (.getfield 347, 3) := by decide +kernel
theorem dX9_writeShips_37 : decode cX9_writeShips 37 = .ok (.ifCond .le 9, 3) := by decide +kernel
theorem dX9_writeShips_40 : decode cX9_writeShips 40 = .ok (.aload_n 0, 1) := by decide +kernel
theorem dX9_writeShips_41 : decode cX9_writeShips 41 = .ok (.bipush 32, 2) := by decide +kernel
theorem dX9_writeShips_43 : decode cX9_writeShips 43 = .ok (.invokevirtual 353, 3) := by decide +kernel
theorem dX9_writeShips_46 : decode cX9_writeShips 46 = .ok (.iconst 0, 1) := by decide +kernel
theorem dX9_writeShips_47 : decode cX9_writeShips 47 = .ok (.istore_n 2, 1) := by decide +kernel
theorem dX9_writeShips_48 : decode cX9_writeShips 48 = .ok (.iload_n 2, 1) := by decide +kernel
theorem dX9_writeShips_49 : decode cX9_writeShips 49 = .ok (.bipush 8, 2) := by decide +kernel
theorem dX9_writeShips_51 : decode cX9_writeShips 51 = .ok (.if_icmp .ge 34, 3) := by decide +kernel
theorem dX9_writeShips_54 : decode cX9_writeShips 54 = .ok (.aload_n 0, 1) := by decide +kernel
theorem dX9_writeShips_55 : decode cX9_writeShips 55 = .ok (.iload_n 1, 1) := by decide +kernel
theorem dX9_writeShips_56 : decode cX9_writeShips 56 = .ok (.bipush 17, 2) := by decide +kernel
theorem dX9_writeShips_58 : decode cX9_writeShips 58 = .ok (.iload_n 2, 1) := by decide +kernel
theorem dX9_writeShips_59 : decode cX9_writeShips 59 = .ok (.iadd, 1) := by decide +kernel
theorem dX9_writeShips_60 : decode cX9_writeShips 60 = .ok (.invokevirtual 213, 3) := by decide +kernel
theorem dX9_writeShips_63 : decode cX9_writeShips 63 = .ok (.ifCond .le 22, 3) := by decide +kernel
theorem dX9_writeShips_66 : decode cX9_writeShips 66 = .ok (.aload_n 0, 1) := by decide +kernel
theorem dX9_writeShips_67 : decode cX9_writeShips 67 = .ok (.aload_n 0, 1) := by decide +kernel
theorem dX9_writeShips_68 : decode cX9_writeShips 68 = .ok (.iload_n 1, 1) := by decide +kernel
theorem dX9_writeShips_69 : decode cX9_writeShips 69 = .ok (.bipush 17, 2) := by decide +kernel
theorem dX9_writeShips_71 : decode cX9_writeShips 71 = .ok (.iload_n 2, 1) := by decide +kernel
theorem dX9_writeShips_72 : decode cX9_writeShips 72 = .ok (.iadd, 1) := by decide +kernel
theorem dX9_writeShips_73 : decode cX9_writeShips 73 = .ok (.invokevirtual 213, 3) := by decide +kernel
theorem dX9_writeShips_76 : decode cX9_writeShips 76 = .ok (.invokevirtual 353, 3) := by decide +kernel
theorem dX9_writeShips_79 : decode cX9_writeShips 79 = .ok (.iinc 2 1, 3) := by decide +kernel
theorem dX9_writeShips_82 : decode cX9_writeShips 82 = .ok (.goto (-34), 3) := by decide +kernel
theorem dX9_writeShips_85 : decode cX9_writeShips 85 = .ok (.aload_n 0, 1) := by decide +kernel
theorem dX9_writeShips_86 : decode cX9_writeShips 86 = .ok (.bipush 61, 2) := by decide +kernel
theorem dX9_writeShips_88 : decode cX9_writeShips 88 = .ok (.invokevirtual 353, 3) := by decide +kernel
theorem dX9_writeShips_91 : decode cX9_writeShips 91 = .ok (.aload_n 0, 1) := by decide +kernel
theorem dX9_writeShips_92 : decode cX9_writeShips 92 = .ok (.aload_n 0, 1) := by decide +kernel
theorem dX9_writeShips_93 : decode cX9_writeShips 93 = .ok (.iload_n 1, 1) := by decide +kernel
theorem dX9_writeShips_94 : decode cX9_writeShips 94 = .ok (.iconst 1, 1) := by decide +kernel
theorem dX9_writeShips_95 : decode cX9_writeShips 95 = .ok (.invokevirtual 213, 3) := by decide +kernel
theorem dX9_writeShips_98 : decode cX9_writeShips 98 = .ok (.invokevirtual 350, 3) := by decide +kernel
theorem dX9_writeShips_101 : decode cX9_writeShips 101 = .ok (.aload_n 0, 1) := by decide +kernel
theorem dX9_writeShips_102 : decode cX9_writeShips 102 = .ok (.bipush 44, 2) := by decide +kernel
theorem dX9_writeShips_104 : decode cX9_writeShips 104 = .ok (.invokevirtual 353, 3) := by decide +kernel
theorem dX9_writeShips_107 : decode cX9_writeShips 107 = .ok (.aload_n 0, 1) := by decide +kernel
theorem dX9_writeShips_108 : decode cX9_writeShips 108 = .ok (.aload_n 0, 1) := by decide +kernel
theorem dX9_writeShips_109 : decode cX9_writeShips 109 = .ok (.iload_n 1, 1) := by decide +kernel
theorem dX9_writeShips_110 : decode cX9_writeShips 110 = .ok (.iconst 2, 1) := by decide +kernel
theorem dX9_writeShips_111 : decode cX9_writeShips 111 = .ok (.invokevirtual 213, 3) := by decide +kernel
theorem dX9_writeShips_114 : decode cX9_writeShips 114 = .ok (.invokevirtual 350, 3) := by decide +kernel
theorem dX9_writeShips_117 : decode cX9_writeShips 117 = .ok (.aload_n 0, 1) := by decide +kernel
theorem dX9_writeShips_118 : decode cX9_writeShips 118 = .ok (.aload_n 0, 1) := by decide +kernel
theorem dX9_writeShips_119 : decode cX9_writeShips 119 = .ok (.iload_n 1, 1) := by decide +kernel
theorem dX9_writeShips_120 : decode cX9_writeShips 120 = .ok (.iconst 3, 1) := by decide +kernel
theorem dX9_writeShips_121 : decode cX9_writeShips 121 = .ok (.invokevirtual 213, 3) := by decide +kernel
theorem dX9_writeShips_124 : decode cX9_writeShips 124 = .ok (.invokevirtual 356, 3) := by decide +kernel
theorem dX9_writeShips_127 : decode cX9_writeShips 127 = .ok (.aload_n 0, 1) := by decide +kernel
theorem dX9_writeShips_128 : decode cX9_writeShips 128 = .ok (.bipush 47, 2) := by decide +kernel
theorem dX9_writeShips_130 : decode cX9_writeShips 130 = .ok (.invokevirtual 353, 3) := by decide +kernel
theorem dX9_writeShips_133 : decode cX9_writeShips 133 = .ok (.aload_n 0, 1) := by decide +kernel
theorem dX9_writeShips_134 : decode cX9_writeShips 134 = .ok (.aload_n 0, 1) := by decide +kernel
theorem dX9_writeShips_135 : decode cX9_writeShips 135 = .ok (.iload_n 1, 1) := by decide +kernel
theorem dX9_writeShips_136 : decode cX9_writeShips 136 = .ok (.iconst 4, 1) := by decide +kernel
theorem dX9_writeShips_137 : decode cX9_writeShips 137 = .ok (.invokevirtual 213, 3) := by decide +kernel
theorem dX9_writeShips_140 : decode cX9_writeShips 140 = .ok (.invokevirtual 350, 3) := by decide +kernel
theorem dX9_writeShips_143 : decode cX9_writeShips 143 = .ok (.iinc 1 1, 3) := by decide +kernel
theorem dX9_writeShips_146 : decode cX9_writeShips 146 = .ok (.goto (-134), 3) := by decide +kernel
theorem dX9_writeShips_149 : decode cX9_writeShips 149 = .ok (.aload_n 0, 1) := by decide +kernel
theorem dX9_writeShips_150 : decode cX9_writeShips 150 = .ok (.getfield 347, 3) := by decide +kernel
theorem dX9_writeShips_153 : decode cX9_writeShips 153 = .ok (.ireturn, 1) := by decide +kernel
theorem dX9_writtenByte_0 : decode cX9_writtenByte 0 = .ok (.aload_n 0, 1) := by decide +kernel
theorem dX9_writtenByte_1 : decode cX9_writtenByte 1 = .ok (.iload_n 1, 1) := by decide +kernel
theorem dX9_writtenByte_2 : decode cX9_writtenByte 2 = .ok (.iconst 0, 1) := by decide +kernel
theorem dX9_writtenByte_3 : decode cX9_writtenByte 3 = .ok (.aload_n 0, 1) := by decide +kernel
theorem dX9_writtenByte_4 : decode cX9_writtenByte 4 = .ok (.getfield 347, 3) := by decide +kernel
theorem dX9_writtenByte_7 : decode cX9_writtenByte 7 = .ok (.iconst 1, 1) := by decide +kernel
theorem dX9_writtenByte_8 : decode cX9_writtenByte 8 = .ok (.isub, 1) := by decide +kernel
theorem dX9_writtenByte_9 : decode cX9_writtenByte 9 = .ok (.invokestatic 76, 3) := by decide +kernel
theorem dX9_writtenByte_12 : decode cX9_writtenByte 12 = .ok (.ifCond .eq 7, 3) := by decide +kernel
theorem dX9_writtenByte_15 : decode cX9_writtenByte 15 = .ok (.iconst 0, 1) := by decide +kernel
theorem dX9_writtenByte_16 : decode cX9_writtenByte 16 = .ok (.goto 4, 3) := by decide +kernel
theorem dX9_writtenByte_19 : decode cX9_writtenByte 19 = .ok (.iconst 1, 1) := by decide +kernel
theorem dX9_writtenByte_20 : decode cX9_writtenByte 20 = .ok (.putfield 66, 3) := by decide +kernel
theorem dX9_writtenByte_23 : decode cX9_writtenByte 23 = .ok (.aload_n 0, 1) := by decide +kernel
theorem dX9_writtenByte_24 : decode cX9_writtenByte 24 = .ok (.getfield 66, 3) := by decide +kernel
theorem dX9_writtenByte_27 : decode cX9_writtenByte 27 = .ok (.ifCond .le 7, 3) := by decide +kernel
theorem dX9_writtenByte_30 : decode cX9_writtenByte 30 = .ok (.iconst 0, 1) := by decide +kernel
theorem dX9_writtenByte_31 : decode cX9_writtenByte 31 = .ok (.goto 9, 3) := by decide +kernel
theorem dX9_writtenByte_34 : decode cX9_writtenByte 34 = .ok (.aload_n 0, 1) := by decide +kernel
theorem dX9_writtenByte_35 : decode cX9_writtenByte 35 = .ok (.getfield 60, 3) := by decide +kernel
theorem dX9_writtenByte_38 : decode cX9_writtenByte 38 = .ok (.iload_n 1, 1) := by decide +kernel
theorem dX9_writtenByte_39 : decode cX9_writtenByte 39 = .ok (.iaload, 1) := by decide +kernel
theorem dX9_writtenByte_40 : decode cX9_writtenByte 40 = .ok (.ireturn, 1) := by decide +kernel

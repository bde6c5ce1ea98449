/-! decode rows -/
theorem dX9_init_0 : decode cX9_init 0 = .ok (.aload_n 0, 1) := by decide +kernel
theorem dX9_init_1 : decode cX9_init 1 = .ok (.invokespecial 1, 3) := by decide +kernel
theorem dX9_init_4 : decode cX9_init 4 = .ok (.aload_n 0, 1) := by decide +kernel
theorem dX9_init_5 : decode cX9_init 5 = .ok (.sipush 156, 3) := by decide +kernel
theorem dX9_init_8 : decode cX9_init 8 = .ok (.newarray .int, 2) := by decide +kernel
theorem dX9_init_10 : decode cX9_init 10 = .ok (.putfield 7, 3) := by decide +kernel
theorem dX9_init_13 : decode cX9_init 13 = .ok (.aload_n 0, 1) := by decide +kernel
theorem dX9_init_14 : decode cX9_init 14 = .ok (.iconst 2, 1) := by decide +kernel
theorem dX9_init_15 : decode cX9_init 15 = .ok (.newarray .boolean, 2) := by decide +kernel
theorem dX9_init_17 : decode cX9_init 17 = .ok (.putfield 13, 3) := by decide +kernel
theorem dX9_init_20 : decode cX9_init 20 = .ok (.aload_n 0, 1) := by decide +kernel
theorem dX9_init_21 : decode cX9_init 21 = .ok (.bipush 6, 2) := by decide +kernel
theorem dX9_init_23 : decode cX9_init 23 = .ok (.newarray .int, 2) := by decide +kernel
theorem dX9_init_25 : decode cX9_init 25 = .ok (.putfield 17, 3) := by decide +kernel
theorem dX9_init_28 : decode cX9_init 28 = .ok (.aload_n 0, 1) := by decide +kernel
theorem dX9_init_29 : decode cX9_init 29 = .ok (.bipush 6, 2) := by decide +kernel
theorem dX9_init_31 : decode cX9_init 31 = .ok (.newarray .int, 2) := by decide +kernel
theorem dX9_init_33 : decode cX9_init 33 = .ok (.putfield 20, 3) := by decide +kernel
theorem dX9_init_36 : decode cX9_init 36 = .ok (.aload_n 0, 1) := by decide +kernel
theorem dX9_init_37 : decode cX9_init 37 = .ok (.bipush 120, 2) := by decide +kernel
theorem dX9_init_39 : decode cX9_init 39 = .ok (.newarray .int, 2) := by decide +kernel
theorem dX9_init_41 : decode cX9_init 41 = .ok (.putfield 23, 3) := by decide +kernel
theorem dX9_init_44 : decode cX9_init 44 = .ok (.aload_n 0, 1) := by decide +kernel
theorem dX9_init_45 : decode cX9_init 45 = .ok (.bipush 8, 2) := by decide +kernel
theorem dX9_init_47 : decode cX9_init 47 = .ok (.newarray .int, 2) := by decide +kernel
theorem dX9_init_49 : decode cX9_init 49 = .ok (.putfield 26, 3) := by decide +kernel
theorem dX9_init_52 : decode cX9_init 52 = .ok (.aload_n 0, 1) := by decide +kernel
theorem dX9_init_53 : decode cX9_init 53 = .ok (.bipush 8, 2) := by decide +kernel
theorem dX9_init_55 : decode cX9_init 55 = .ok (.newarray .int, 2) := by decide +kernel
theorem dX9_init_57 : decode cX9_init 57 = .ok (.putfield 29, 3) := by decide +kernel
theorem dX9_init_60 : decode cX9_init 60 = .ok (.aload_n 0, 1) := by decide +kernel
theorem dX9_init_61 : decode cX9_init 61 = .ok (.bipush 10, 2) := by decide +kernel
theorem dX9_init_63 : decode cX9_init 63 = .ok (.newarray .int, 2) := by decide +kernel
theorem dX9_init_65 : decode cX9_init 65 = .ok (.putfield 32, 3) := by decide +kernel
theorem dX9_init_68 : decode cX9_init 68 = .ok (.aload_n 0, 1) := by decide +kernel
theorem dX9_init_69 : decode cX9_init 69 = .ok (.bipush 40, 2) := by decide +kernel
theorem dX9_init_71 : decode cX9_init 71 = .ok (.newarray .int, 2) := by decide +kernel
theorem dX9_init_73 : decode cX9_init 73 = .ok (.putfield 35, 3) := by decide +kernel
theorem dX9_init_76 : decode cX9_init 76 = .ok (.aload_n 0, 1) := by decide +kernel
theorem dX9_init_77 : decode cX9_init 77 = .ok (.bipush 8, 2) := by decide +kernel
theorem dX9_init_79 : decode cX9_init 79 = .ok (.newarray .int, 2) := by decide +kernel
theorem dX9_init_81 : decode cX9_init 81 = .ok (.putfield 38, 3) := by decide +kernel
theorem dX9_init_84 : decode cX9_init 84 = .ok (.aload_n 0, 1) := by decide +kernel
theorem dX9_init_85 : decode cX9_init 85 = .ok (.bipush 8, 2) := by decide +kernel
theorem dX9_init_87 : decode cX9_init 87 = .ok (.newarray .int, 2) := by decide +kernel
theorem dX9_init_89 : decode cX9_init 89 = .ok (.putfield 41, 3) := by decide +kernel
theorem dX9_init_92 : decode cX9_init 92 = .ok (.aload_n 0, 1) := by decide +kernel
theorem dX9_init_93 : decode cX9_init 93 = .ok (.bipush 10, 2) := by decide +kernel
theorem dX9_init_95 : decode cX9_init 95 = .ok (.newarray .int, 2) := by decide +kernel
theorem dX9_init_97 : decode cX9_init 97 = .ok (.putfield 44, 3) := by decide +kernel
theorem dX9_init_100 : decode cX9_init 100 = .ok (.aload_n 0, 1) := by decide +kernel
theorem dX9_init_101 : decode cX9_init 101 = .ok (.bipush 40, 2) := by decide +kernel
theorem dX9_init_103 : decode cX9_init 103 = .ok (.newarray .int, 2) := by decide +kernel
theorem dX9_init_105 : decode cX9_init 105 = .ok (.putfield 47, 3) := by decide +kernel
theorem dX9_init_108 : decode cX9_init 108 = .ok (.aload_n 0, 1) := by decide +kernel
theorem dX9_init_109 : decode cX9_init 109 = .ok (.bipush 8, 2) := by decide +kernel
theorem dX9_init_111 : decode cX9_init 111 = .ok (.newarray .int, 2) := by decide +kernel
theorem dX9_init_113 : decode cX9_init 113 = .ok (.putfield 50, 3) := by decide +kernel
theorem dX9_init_116 : decode cX9_init 116 = .ok (.aload_n 0, 1) := by decide +kernel
theorem dX9_init_117 : decode cX9_init 117 = .ok (.bipush 8, 2) := by decide +kernel
theorem dX9_init_119 : decode cX9_init 119 = .ok (.newarray .int, 2) := by decide +kernel
theorem dX9_init_121 : decode cX9_init 121 = .ok (.putfield 53, 3) := by decide +kernel
theorem dX9_init_124 : decode cX9_init 124 = .ok (.aload_n 0, 1) := by decide +kernel
theorem dX9_init_125 : decode cX9_init 125 = .ok (.bipush 8, 2) := by decide +kernel
theorem dX9_init_127 : decode cX9_init 127 = .ok (.newarray .int, 2) := by decide +kernel
theorem dX9_init_129 : decode cX9_init 129 = .ok (.putfield 56, 3) := by decide +kernel
theorem dX9_init_132 : decode cX9_init 132 = .ok (.aload_n 0, 1) := by decide +kernel
theorem dX9_init_133 : decode cX9_init 133 = .ok (.bipush 9, 2) := by decide +kernel
theorem dX9_init_135 : decode cX9_init 135 = .ok (.newarray .int, 2) := by decide +kernel
theorem dX9_init_137 : decode cX9_init 137 = .ok (.putfield 59, 3) := by decide +kernel
theorem dX9_init_140 : decode cX9_init 140 = .ok (.aload_n 0, 1) := by decide +kernel
theorem dX9_init_141 : decode cX9_init 141 = .ok (.getfield 26, 3) := by decide +kernel
theorem dX9_init_144 : decode cX9_init 144 = .ok (.aload_n 0, 1) := by decide +kernel
theorem dX9_init_145 : decode cX9_init 145 = .ok (.getfield 29, 3) := by decide +kernel
theorem dX9_init_148 : decode cX9_init 148 = .ok (.invokestatic 62, 3) := by decide +kernel
theorem dX9_init_151 : decode cX9_init 151 = .ok (.aload_n 0, 1) := by decide +kernel
theorem dX9_init_152 : decode cX9_init 152 = .ok (.getfield 7, 3) := by decide +kernel
theorem dX9_init_155 : decode cX9_init 155 = .ok (.bipush 9, 2) := by decide +kernel
theorem dX9_init_157 : decode cX9_init 157 = .ok (.iconst 5, 1) := by decide +kernel
theorem dX9_init_158 : decode cX9_init 158 = .ok (.iastore, 1) := by decide +kernel
theorem dX9_init_159 : decode cX9_init 159 = .ok (.return_, 1) := by decide +kernel
theorem dX9_in_0 : decode cX9_in 0 = .ok (.lload_n 0, 1) := by decide +kernel
theorem dX9_in_1 : decode cX9_in 1 = .ok (.lload_n 2, 1) := by decide +kernel
theorem dX9_in_2 : decode cX9_in 2 = .ok (.lcmp, 1) := by decide +kernel
theorem dX9_in_3 : decode cX9_in 3 = .ok (.ifCond .lt 14, 3) := by decide +kernel
theorem dX9_in_6 : decode cX9_in 6 = .ok (.lload_n 0, 1) := by decide +kernel
theorem dX9_in_7 : decode cX9_in 7 = .ok (.lload 4, 2) := by decide +kernel
theorem dX9_in_9 : decode cX9_in 9 = .ok (.lcmp, 1) := by decide +kernel
theorem dX9_in_10 : decode cX9_in 10 = .ok (.ifCond .gt 7, 3) := by decide +kernel
theorem dX9_in_13 : decode cX9_in 13 = .ok (.iconst 1, 1) := by decide +kernel
theorem dX9_in_14 : decode cX9_in 14 = .ok (.goto 4, 3) := by decide +kernel
theorem dX9_in_17 : decode cX9_in 17 = .ok (.iconst 0, 1) := by decide +kernel
theorem dX9_in_18 : decode cX9_in 18 = .ok (.ireturn, 1) := by decide +kernel
theorem dX9_firstFlags_0 : decode cX9_firstFlags 0 = .ok (.iconst 0, 1) := by decide +kernel
theorem dX9_firstFlags_1 : decode cX9_firstFlags 1 = .ok (.istore_n 2, 1) := by decide +kernel
theorem dX9_firstFlags_2 : decode cX9_firstFlags 2 = .ok (.iload_n 2, 1) := by decide +kernel
theorem dX9_firstFlags_3 : decode cX9_firstFlags 3 = .ok (.bipush 8, 2) := by decide +kernel
theorem dX9_firstFlags_5 : decode cX9_firstFlags 5 = .ok (.if_icmp .ge 17, 3) := by decide +kernel
theorem dX9_firstFlags_8 : decode cX9_firstFlags 8 = .ok (.aload_n 0, 1) := by decide +kernel
theorem dX9_firstFlags_9 : decode cX9_firstFlags 9 = .ok (.iload_n 2, 1) := by decide +kernel
theorem dX9_firstFlags_10 : decode cX9_firstFlags 10 = .ok (.iload_n 2, 1) := by decide +kernel
theorem dX9_firstFlags_11 : decode cX9_firstFlags 11 = .ok (.iastore, 1) := by decide +kernel
theorem dX9_firstFlags_12 : decode cX9_firstFlags 12 = .ok (.aload_n 1, 1) := by decide +kernel
theorem dX9_firstFlags_13 : decode cX9_firstFlags 13 = .ok (.iload_n 2, 1) := by decide +kernel
theorem dX9_firstFlags_14 : decode cX9_firstFlags 14 = .ok (.iconst 5, 1) := by decide +kernel
theorem dX9_firstFlags_15 : decode cX9_firstFlags 15 = .ok (.iastore, 1) := by decide +kernel
theorem dX9_firstFlags_16 : decode cX9_firstFlags 16 = .ok (.iinc 2 1, 3) := by decide +kernel
theorem dX9_firstFlags_19 : decode cX9_firstFlags 19 = .ok (.goto (-17), 3) := by decide +kernel
theorem dX9_firstFlags_22 : decode cX9_firstFlags 22 = .ok (.return_, 1) := by decide +kernel
theorem dX9_copy_0 : decode cX9_copy 0 = .ok (.iconst 0, 1) := by decide +kernel
theorem dX9_copy_1 : decode cX9_copy 1 = .ok (.istore_n 3, 1) := by decide +kernel
theorem dX9_copy_2 : decode cX9_copy 2 = .ok (.iload_n 3, 1) := by decide +kernel
theorem dX9_copy_3 : decode cX9_copy 3 = .ok (.bipush 12, 2) := by decide +kernel
theorem dX9_copy_5 : decode cX9_copy 5 = .ok (.if_icmp .ge 25, 3) := by decide +kernel
theorem dX9_copy_8 : decode cX9_copy 8 = .ok (.aload_n 0, 1) := by decide +kernel
theorem dX9_copy_9 : decode cX9_copy 9 = .ok (.getfield 7, 3) := by decide +kernel
theorem dX9_copy_12 : decode cX9_copy 12 = .ok (.iload_n 2, 1) := by decide +kernel
theorem dX9_copy_13 : decode cX9_copy 13 = .ok (.iload_n 3, 1) := by decide +kernel
theorem dX9_copy_14 : decode cX9_copy 14 = .ok (.iadd, 1) := by decide +kernel
theorem dX9_copy_15 : decode cX9_copy 15 = .ok (.aload_n 0, 1) := by decide +kernel
theorem dX9_copy_16 : decode cX9_copy 16 = .ok (.getfield 7, 3) := by decide +kernel
theorem dX9_copy_19 : decode cX9_copy 19 = .ok (.iload_n 1, 1) := by decide +kernel
theorem dX9_copy_20 : decode cX9_copy 20 = .ok (.iload_n 3, 1) := by decide +kernel
theorem dX9_copy_21 : decode cX9_copy 21 = .ok (.iadd, 1) := by decide +kernel
theorem dX9_copy_22 : decode cX9_copy 22 = .ok (.iaload, 1) := by decide +kernel
theorem dX9_copy_23 : decode cX9_copy 23 = .ok (.iastore, 1) := by decide +kernel
theorem dX9_copy_24 : decode cX9_copy 24 = .ok (.iinc 3 1, 3) := by decide +kernel
theorem dX9_copy_27 : decode cX9_copy 27 = .ok (.goto (-25), 3) := by decide +kernel
theorem dX9_copy_30 : decode cX9_copy 30 = .ok (.return_, 1) := by decide +kernel
theorem dX9_minds_0 : decode cX9_minds 0 = .ok (.aload_n 0, 1) := by decide +kernel
theorem dX9_minds_1 : decode cX9_minds 1 = .ok (.getfield 66, 3) := by decide +kernel
theorem dX9_minds_4 : decode cX9_minds 4 = .ok (.bipush 10, 2) := by decide +kernel
theorem dX9_minds_6 : decode cX9_minds 6 = .ok (.if_icmp .ne 45, 3) := by decide +kernel
theorem dX9_minds_9 : decode cX9_minds 9 = .ok (.iconst 0, 1) := by decide +kernel
theorem dX9_minds_10 : decode cX9_minds 10 = .ok (.istore_n 1, 1) := by decide +kernel
theorem dX9_minds_11 : decode cX9_minds 11 = .ok (.iload_n 1, 1) := by decide +kernel
theorem dX9_minds_12 : decode cX9_minds 12 = .ok (.bipush 108, 2) := by decide +kernel
theorem dX9_minds_14 : decode cX9_minds 14 = .ok (.if_icmp .ge 27, 3) := by decide +kernel
theorem dX9_minds_17 : decode cX9_minds 17 = .ok (.aload_n 0, 1) := by decide +kernel
theorem dX9_minds_18 : decode cX9_minds 18 = .ok (.getfield 7, 3) := by decide +kernel
theorem dX9_minds_21 : decode cX9_minds 21 = .ok (.bipush 36, 2) := by decide +kernel
theorem dX9_minds_23 : decode cX9_minds 23 = .ok (.iload_n 1, 1) := by decide +kernel
theorem dX9_minds_24 : decode cX9_minds 24 = .ok (.iadd, 1) := by decide +kernel
theorem dX9_minds_25 : decode cX9_minds 25 = .ok (.aload_n 0, 1) := by decide +kernel
theorem dX9_minds_26 : decode cX9_minds 26 = .ok (.getfield 7, 3) := by decide +kernel
theorem dX9_minds_29 : decode cX9_minds 29 = .ok (.bipush 48, 2) := by decide +kernel
theorem dX9_minds_31 : decode cX9_minds 31 = .ok (.iload_n 1, 1) := by decide +kernel
theorem dX9_minds_32 : decode cX9_minds 32 = .ok (.iadd, 1) := by decide +kernel
theorem dX9_minds_33 : decode cX9_minds 33 = .ok (.iaload, 1) := by decide +kernel
theorem dX9_minds_34 : decode cX9_minds 34 = .ok (.iastore, 1) := by decide +kernel
theorem dX9_minds_35 : decode cX9_minds 35 = .ok (.iinc 1 1, 3) := by decide +kernel
theorem dX9_minds_38 : decode cX9_minds 38 = .ok (.goto (-27), 3) := by decide +kernel
theorem dX9_minds_41 : decode cX9_minds 41 = .ok (.aload_n 0, 1) := by decide +kernel
theorem dX9_minds_42 : decode cX9_minds 42 = .ok (.dup, 1) := by decide +kernel
theorem dX9_minds_43 : decode cX9_minds 43 = .ok (.getfield 66, 3) := by decide +kernel
theorem dX9_minds_46 : decode cX9_minds 46 = .ok (.iconst 1, 1) := by decide +kernel
theorem dX9_minds_47 : decode cX9_minds 47 = .ok (.isub, 1) := by decide +kernel
theorem dX9_minds_48 : decode cX9_minds 48 = .ok (.putfield 66, 3) := by decide +kernel
theorem dX9_minds_51 : decode cX9_minds 51 = .ok (.aload_n 0, 1) := by decide +kernel
theorem dX9_minds_52 : decode cX9_minds 52 = .ok (.iconst 0, 1) := by decide +kernel
theorem dX9_minds_53 : decode cX9_minds 53 = .ok (.bipush 36, 2) := by decide +kernel
theorem dX9_minds_55 : decode cX9_minds 55 = .ok (.bipush 12, 2) := by decide +kernel
theorem dX9_minds_57 : decode cX9_minds 57 = .ok (.aload_n 0, 1) := by decide +kernel
theorem dX9_minds_58 : decode cX9_minds 58 = .ok (.getfield 66, 3) := by decide +kernel
theorem dX9_minds_61 : decode cX9_minds 61 = .ok (.imul, 1) := by decide +kernel
theorem dX9_minds_62 : decode cX9_minds 62 = .ok (.iadd, 1) := by decide +kernel
theorem dX9_minds_63 : decode cX9_minds 63 = .ok (.invokevirtual 70, 3) := by decide +kernel
theorem dX9_minds_66 : decode cX9_minds 66 = .ok (.aload_n 0, 1) := by decide +kernel
theorem dX9_minds_67 : decode cX9_minds 67 = .ok (.dup, 1) := by decide +kernel
theorem dX9_minds_68 : decode cX9_minds 68 = .ok (.getfield 66, 3) := by decide +kernel
theorem dX9_minds_71 : decode cX9_minds 71 = .ok (.iconst 1, 1) := by decide +kernel
theorem dX9_minds_72 : decode cX9_minds 72 = .ok (.iadd, 1) := by decide +kernel
theorem dX9_minds_73 : decode cX9_minds 73 = .ok (.putfield 66, 3) := by decide +kernel
theorem dX9_minds_76 : decode cX9_minds 76 = .ok (.return_, 1) := by decide +kernel
theorem dX9_isDigit_0 : decode cX9_isDigit 0 = .ok (.iload_n 0, 1) := by decide +kernel
theorem dX9_isDigit_1 : decode cX9_isDigit 1 = .ok (.i2l, 1) := by decide +kernel
theorem dX9_isDigit_2 : decode cX9_isDigit 2 = .ok (.ldc2_w 74, 3) := by decide +kernel
theorem dX9_isDigit_5 : decode cX9_isDigit 5 = .ok (.ldc2_w 76, 3) := by decide +kernel
theorem dX9_isDigit_8 : decode cX9_isDigit 8 = .ok (.invokestatic 78, 3) := by decide +kernel
theorem dX9_isDigit_11 : decode cX9_isDigit 11 = .ok (.ireturn, 1) := by decide +kernel
theorem dX9_take_0 : decode cX9_take 0 = .ok (.aload_n 0, 1) := by decide +kernel
theorem dX9_take_1 : decode cX9_take 1 = .ok (.getfield 82, 3) := by decide +kernel
theorem dX9_take_4 : decode cX9_take 4 = .ok (.aload_n 0, 1) := by decide +kernel
theorem dX9_take_5 : decode cX9_take 5 = .ok (.getfield 85, 3) := by decide +kernel
theorem dX9_take_8 : decode cX9_take 8 = .ok (.if_icmp .ge 30, 3) := by decide +kernel
theorem dX9_take_11 : decode cX9_take 11 = .ok (.aload_n 0, 1) := by decide +kernel
theorem dX9_take_12 : decode cX9_take 12 = .ok (.getfield 23, 3) := by decide +kernel
theorem dX9_take_15 : decode cX9_take 15 = .ok (.aload_n 0, 1) := by decide +kernel
theorem dX9_take_16 : decode cX9_take 16 = .ok (.getfield 82, 3) := by decide +kernel
theorem dX9_take_19 : decode cX9_take 19 = .ok (.iaload, 1) := by decide +kernel
theorem dX9_take_20 : decode cX9_take 20 = .ok (.bipush 32, 2) := by decide +kernel
theorem dX9_take_22 : decode cX9_take 22 = .ok (.if_icmp .ne 16, 3) := by decide +kernel
theorem dX9_take_25 : decode cX9_take 25 = .ok (.aload_n 0, 1) := by decide +kernel
theorem dX9_take_26 : decode cX9_take 26 = .ok (.dup, 1) := by decide +kernel
theorem dX9_take_27 : decode cX9_take 27 = .ok (.getfield 82, 3) := by decide +kernel
theorem dX9_take_30 : decode cX9_take 30 = .ok (.iconst 1, 1) := by decide +kernel
theorem dX9_take_31 : decode cX9_take 31 = .ok (.iadd, 1) := by decide +kernel
theorem dX9_take_32 : decode cX9_take 32 = .ok (.putfield 82, 3) := by decide +kernel
theorem dX9_take_35 : decode cX9_take 35 = .ok (.goto (-35), 3) := by decide +kernel
theorem dX9_take_38 : decode cX9_take 38 = .ok (.aload_n 0, 1) := by decide +kernel
theorem dX9_take_39 : decode cX9_take 39 = .ok (.aload_n 0, 1) := by decide +kernel
theorem dX9_take_40 : decode cX9_take 40 = .ok (.getfield 82, 3) := by decide +kernel
theorem dX9_take_43 : decode cX9_take 43 = .ok (.putfield 88, 3) := by decide +kernel
theorem dX9_take_46 : decode cX9_take 46 = .ok (.aload_n 0, 1) := by decide +kernel
theorem dX9_take_47 : decode cX9_take 47 = .ok (.aload_n 0, 1) := by decide +kernel
theorem dX9_take_48 : decode cX9_take 48 = .ok (.getfield 82, 3) := by decide +kernel
theorem dX9_take_51 : decode cX9_take 51 = .ok (.aload_n 0, 1) := by decide +kernel
theorem dX9_take_52 : decode cX9_take 52 = .ok (.getfield 85, 3) := by decide +kernel
theorem dX9_take_55 : decode cX9_take 55 = .ok (.if_icmp .ge 15, 3) := by decide +kernel
theorem dX9_take_58 : decode cX9_take 58 = .ok (.aload_n 0, 1) := by decide +kernel
theorem dX9_take_59 : decode cX9_take 59 = .ok (.getfield 23, 3) := by decide +kernel
theorem dX9_take_62 : decode cX9_take 62 = .ok (.aload_n 0, 1) := by decide +kernel
theorem dX9_take_63 : decode cX9_take 63 = .ok (.getfield 82, 3) := by decide +kernel
theorem dX9_take_66 : decode cX9_take 66 = .ok (.iaload, 1) := by decide +kernel
theorem dX9_take_67 : decode cX9_take 67 = .ok (.goto 4, 3) := by decide +kernel
theorem dX9_take_70 : decode cX9_take 70 = .ok (.iconst (-1), 1) := by decide +kernel
theorem dX9_take_71 : decode cX9_take 71 = .ok (.putfield 91, 3) := by decide +kernel
theorem dX9_take_74 : decode cX9_take 74 = .ok (.aload_n 0, 1) := by decide +kernel
theorem dX9_take_75 : decode cX9_take 75 = .ok (.dup, 1) := by decide +kernel
theorem dX9_take_76 : decode cX9_take 76 = .ok (.getfield 82, 3) := by decide +kernel
theorem dX9_take_79 : decode cX9_take 79 = .ok (.aload_n 0, 1) := by decide +kernel
theorem dX9_take_80 : decode cX9_take 80 = .ok (.getfield 82, 3) := by decide +kernel
theorem dX9_take_83 : decode cX9_take 83 = .ok (.aload_n 0, 1) := by decide +kernel
theorem dX9_take_84 : decode cX9_take 84 = .ok (.getfield 85, 3) := by decide +kernel
theorem dX9_take_87 : decode cX9_take 87 = .ok (.if_icmp .ge 7, 3) := by decide +kernel
theorem dX9_take_90 : decode cX9_take 90 = .ok (.iconst 1, 1) := by decide +kernel
theorem dX9_take_91 : decode cX9_take 91 = .ok (.goto 4, 3) := by decide +kernel
theorem dX9_take_94 : decode cX9_take 94 = .ok (.iconst 0, 1) := by decide +kernel
theorem dX9_take_95 : decode cX9_take 95 = .ok (.iadd, 1) := by decide +kernel
theorem dX9_take_96 : decode cX9_take 96 = .ok (.putfield 82, 3) := by decide +kernel
theorem dX9_take_99 : decode cX9_take 99 = .ok (.aload_n 0, 1) := by decide +kernel
theorem dX9_take_100 : decode cX9_take 100 = .ok (.getfield 91, 3) := by decide +kernel
theorem dX9_take_103 : decode cX9_take 103 = .ok (.invokestatic 94, 3) := by decide +kernel
theorem dX9_take_106 : decode cX9_take 106 = .ok (.ifCond .eq 49, 3) := by decide +kernel
theorem dX9_take_109 : decode cX9_take 109 = .ok (.aload_n 0, 1) := by decide +kernel
theorem dX9_take_110 : decode cX9_take 110 = .ok (.getfield 82, 3) := by decide +kernel
theorem dX9_take_113 : decode cX9_take 113 = .ok (.aload_n 0, 1) := by decide +kernel
theorem dX9_take_114 : decode cX9_take 114 = .ok (.getfield 85, 3) := by decide +kernel
theorem dX9_take_117 : decode cX9_take 117 = .ok (.if_icmp .ge 38, 3) := by decide +kernel
theorem dX9_take_120 : decode cX9_take 120 = .ok (.aload_n 0, 1) := by decide +kernel
theorem dX9_take_121 : decode cX9_take 121 = .ok (.getfield 23, 3) := by decide +kernel
theorem dX9_take_124 : decode cX9_take 124 = .ok (.aload_n 0, 1) := by decide +kernel
theorem dX9_take_125 : decode cX9_take 125 = .ok (.getfield 82, 3) := by decide +kernel
theorem dX9_take_128 : decode cX9_take 128 = .ok (.iaload, 1) := by decide +kernel
theorem dX9_take_129 : decode cX9_take 129 = .ok (.invokestatic 94, 3) := by decide +kernel
theorem dX9_take_132 : decode cX9_take 132 = .ok (.ifCond .eq 23, 3) := by decide +kernel
theorem dX9_take_135 : decode cX9_take 135 = .ok (.aload_n 0, 1) := by decide +kernel
theorem dX9_take_136 : decode cX9_take 136 = .ok (.dup, 1) := by decide +kernel
theorem dX9_take_137 : decode cX9_take 137 = .ok (.getfield 82, 3) := by decide +kernel
theorem dX9_take_140 : decode cX9_take 140 = .ok (.iconst 1, 1) := by decide +kernel
theorem dX9_take_141 : decode cX9_take 141 = .ok (.iadd, 1) := by decide +kernel
theorem dX9_take_142 : decode cX9_take 142 = .ok (.putfield 82, 3) := by decide +kernel
theorem dX9_take_145 : decode cX9_take 145 = .ok (.aload_n 0, 1) := by decide +kernel
theorem dX9_take_146 : decode cX9_take 146 = .ok (.sipush 1000, 3) := by decide +kernel
theorem dX9_take_149 : decode cX9_take 149 = .ok (.putfield 91, 3) := by decide +kernel
theorem dX9_take_152 : decode cX9_take 152 = .ok (.goto (-43), 3) := by decide +kernel
theorem dX9_take_155 : decode cX9_take 155 = .ok (.return_, 1) := by decide +kernel
theorem dX9_isFlag_0 : decode cX9_isFlag 0 = .ok (.aload_n 0, 1) := by decide +kernel
theorem dX9_isFlag_1 : decode cX9_isFlag 1 = .ok (.getfield 91, 3) := by decide +kernel
theorem dX9_isFlag_4 : decode cX9_isFlag 4 = .ok (.i2l, 1) := by decide +kernel
theorem dX9_isFlag_5 : decode cX9_isFlag 5 = .ok (.ldc2_w 98, 3) := by decide +kernel
theorem dX9_isFlag_8 : decode cX9_isFlag 8 = .ok (.ldc2_w 100, 3) := by decide +kernel
theorem dX9_isFlag_11 : decode cX9_isFlag 11 = .ok (.invokestatic 78, 3) := by decide +kernel
theorem dX9_isFlag_14 : decode cX9_isFlag 14 = .ok (.ireturn, 1) := by decide +kernel
theorem dX9_isNumber_0 : decode cX9_isNumber 0 = .ok (.aload_n 0, 1) := by decide +kernel
theorem dX9_isNumber_1 : decode cX9_isNumber 1 = .ok (.getfield 91, 3) := by decide +kernel
theorem dX9_isNumber_4 : decode cX9_isNumber 4 = .ok (.i2l, 1) := by decide +kernel
theorem dX9_isNumber_5 : decode cX9_isNumber 5 = .ok (.bipush 48, 2) := by decide +kernel
theorem dX9_isNumber_7 : decode cX9_isNumber 7 = .ok (.iload_n 1, 1) := by decide +kernel
theorem dX9_isNumber_8 : decode cX9_isNumber 8 = .ok (.iadd, 1) := by decide +kernel
theorem dX9_isNumber_9 : decode cX9_isNumber 9 = .ok (.i2l, 1) := by decide +kernel
theorem dX9_isNumber_10 : decode cX9_isNumber 10 = .ok (.bipush 48, 2) := by decide +kernel
theorem dX9_isNumber_12 : decode cX9_isNumber 12 = .ok (.iload_n 2, 1) := by decide +kernel
theorem dX9_isNumber_13 : decode cX9_isNumber 13 = .ok (.iadd, 1) := by decide +kernel
theorem dX9_isNumber_14 : decode cX9_isNumber 14 = .ok (.i2l, 1) := by decide +kernel
theorem dX9_isNumber_15 : decode cX9_isNumber 15 = .ok (.invokestatic 78, 3) := by decide +kernel
theorem dX9_isNumber_18 : decode cX9_isNumber 18 = .ok (.ireturn, 1) := by decide +kernel
theorem dX9_readsEnd_0 : decode cX9_readsEnd 0 = .ok (.aload_n 0, 1) := by decide +kernel
theorem dX9_readsEnd_1 : decode cX9_readsEnd 1 = .ok (.getfield 91, 3) := by decide +kernel
theorem dX9_readsEnd_4 : decode cX9_readsEnd 4 = .ok (.bipush 59, 2) := by decide +kernel
theorem dX9_readsEnd_6 : decode cX9_readsEnd 6 = .ok (.if_icmp .ne 7, 3) := by decide +kernel
theorem dX9_readsEnd_9 : decode cX9_readsEnd 9 = .ok (.iconst 1, 1) := by decide +kernel
theorem dX9_readsEnd_10 : decode cX9_readsEnd 10 = .ok (.goto 4, 3) := by decide +kernel
theorem dX9_readsEnd_13 : decode cX9_readsEnd 13 = .ok (.iconst 0, 1) := by decide +kernel
theorem dX9_readsEnd_14 : decode cX9_readsEnd 14 = .ok (.istore_n 1, 1) := by decide +kernel
theorem dX9_readsEnd_15 : decode cX9_readsEnd 15 = .ok (.iload_n 1, 1) := by decide +kernel
theorem dX9_readsEnd_16 : decode cX9_readsEnd 16 = .ok (.ifCond .eq 7, 3) := by decide +kernel
theorem dX9_readsEnd_19 : decode cX9_readsEnd 19 = .ok (.aload_n 0, 1) := by decide +kernel
theorem dX9_readsEnd_20 : decode cX9_readsEnd 20 = .ok (.invokevirtual 102, 3) := by decide +kernel
theorem dX9_readsEnd_23 : decode cX9_readsEnd 23 = .ok (.iload_n 1, 1) := by decide +kernel
theorem dX9_readsEnd_24 : decode cX9_readsEnd 24 = .ok (.ireturn, 1) := by decide +kernel
theorem dX9_readsPlaces_0 : decode cX9_readsPlaces 0 = .ok (.aload_n 0, 1) := by decide +kernel
theorem dX9_readsPlaces_1 : decode cX9_readsPlaces 1 = .ok (.getfield 105, 3) := by decide +kernel
theorem dX9_readsPlaces_4 : decode cX9_readsPlaces 4 = .ok (.ifCond .le 5, 3) := by decide +kernel
theorem dX9_readsPlaces_7 : decode cX9_readsPlaces 7 = .ok (.iconst 0, 1) := by decide +kernel
theorem dX9_readsPlaces_8 : decode cX9_readsPlaces 8 = .ok (.ireturn, 1) := by decide +kernel
theorem dX9_readsPlaces_9 : decode cX9_readsPlaces 9 = .ok (.aload_n 0, 1) := by decide +kernel
theorem dX9_readsPlaces_10 : decode cX9_readsPlaces 10 = .ok (.invokevirtual 102, 3) := by decide +kernel
theorem dX9_readsPlaces_13 : decode cX9_readsPlaces 13 = .ok (.aload_n 0, 1) := by decide +kernel
theorem dX9_readsPlaces_14 : decode cX9_readsPlaces 14 = .ok (.iconst 3, 1) := by decide +kernel
theorem dX9_readsPlaces_15 : decode cX9_readsPlaces 15 = .ok (.bipush 7, 2) := by decide +kernel
theorem dX9_readsPlaces_17 : decode cX9_readsPlaces 17 = .ok (.invokevirtual 108, 3) := by decide +kernel
theorem dX9_readsPlaces_20 : decode cX9_readsPlaces 20 = .ok (.ifCond .ne 5, 3) := by decide +kernel
theorem dX9_readsPlaces_23 : decode cX9_readsPlaces 23 = .ok (.iconst 0, 1) := by decide +kernel
theorem dX9_readsPlaces_24 : decode cX9_readsPlaces 24 = .ok (.ireturn, 1) := by decide +kernel
theorem dX9_readsPlaces_25 : decode cX9_readsPlaces 25 = .ok (.aload_n 0, 1) := by decide +kernel
theorem dX9_readsPlaces_26 : decode cX9_readsPlaces 26 = .ok (.aload_n 0, 1) := by decide +kernel
theorem dX9_readsPlaces_27 : decode cX9_readsPlaces 27 = .ok (.getfield 91, 3) := by decide +kernel
theorem dX9_readsPlaces_30 : decode cX9_readsPlaces 30 = .ok (.bipush 48, 2) := by decide +kernel
theorem dX9_readsPlaces_32 : decode cX9_readsPlaces 32 = .ok (.isub, 1) := by decide +kernel
theorem dX9_readsPlaces_33 : decode cX9_readsPlaces 33 = .ok (.putfield 105, 3) := by decide +kernel
theorem dX9_readsPlaces_36 : decode cX9_readsPlaces 36 = .ok (.aload_n 0, 1) := by decide +kernel
theorem dX9_readsPlaces_37 : decode cX9_readsPlaces 37 = .ok (.invokevirtual 102, 3) := by decide +kernel
theorem dX9_readsPlaces_40 : decode cX9_readsPlaces 40 = .ok (.aload_n 0, 1) := by decide +kernel
theorem dX9_readsPlaces_41 : decode cX9_readsPlaces 41 = .ok (.invokevirtual 112, 3) := by decide +kernel
theorem dX9_readsPlaces_44 : decode cX9_readsPlaces 44 = .ok (.ireturn, 1) := by decide +kernel
theorem dX9_readsFlag_0 : decode cX9_readsFlag 0 = .ok (.aload_n 0, 1) := by decide +kernel
theorem dX9_readsFlag_1 : decode cX9_readsFlag 1 = .ok (.invokevirtual 102, 3) := by decide +kernel
theorem dX9_readsFlag_4 : decode cX9_readsFlag 4 = .ok (.aload_n 0, 1) := by decide +kernel
theorem dX9_readsFlag_5 : decode cX9_readsFlag 5 = .ok (.invokevirtual 116, 3) := by decide +kernel
theorem dX9_readsFlag_8 : decode cX9_readsFlag 8 = .ok (.ifCond .ne 5, 3) := by decide +kernel
theorem dX9_readsFlag_11 : decode cX9_readsFlag 11 = .ok (.iconst 0, 1) := by decide +kernel
theorem dX9_readsFlag_12 : decode cX9_readsFlag 12 = .ok (.ireturn, 1) := by decide +kernel
theorem dX9_readsFlag_13 : decode cX9_readsFlag 13 = .ok (.aload_n 0, 1) := by decide +kernel
theorem dX9_readsFlag_14 : decode cX9_readsFlag 14 = .ok (.getfield 91, 3) := by decide +kernel
theorem dX9_readsFlag_17 : decode cX9_readsFlag 17 = .ok (.bipush 97, 2) := by decide +kernel
theorem dX9_readsFlag_19 : decode cX9_readsFlag 19 = .ok (.isub, 1) := by decide +kernel
theorem dX9_readsFlag_20 : decode cX9_readsFlag 20 = .ok (.istore_n 1, 1) := by decide +kernel
theorem dX9_readsFlag_21 : decode cX9_readsFlag 21 = .ok (.aload_n 0, 1) := by decide +kernel
theorem dX9_readsFlag_22 : decode cX9_readsFlag 22 = .ok (.invokevirtual 102, 3) := by decide +kernel
theorem dX9_readsFlag_25 : decode cX9_readsFlag 25 = .ok (.aload_n 0, 1) := by decide +kernel
theorem dX9_readsFlag_26 : decode cX9_readsFlag 26 = .ok (.iconst 0, 1) := by decide +kernel
theorem dX9_readsFlag_27 : decode cX9_readsFlag 27 = .ok (.bipush 7, 2) := by decide +kernel
theorem dX9_readsFlag_29 : decode cX9_readsFlag 29 = .ok (.invokevirtual 108, 3) := by decide +kernel
theorem dX9_readsFlag_32 : decode cX9_readsFlag 32 = .ok (.ifCond .ne 5, 3) := by decide +kernel
theorem dX9_readsFlag_35 : decode cX9_readsFlag 35 = .ok (.iconst 0, 1) := by decide +kernel
theorem dX9_readsFlag_36 : decode cX9_readsFlag 36 = .ok (.ireturn, 1) := by decide +kernel
theorem dX9_readsFlag_37 : decode cX9_readsFlag 37 = .ok (.aload_n 0, 1) := by decide +kernel
theorem dX9_readsFlag_38 : decode cX9_readsFlag 38 = .ok (.getfield 38, 3) := by decide +kernel
theorem dX9_readsFlag_41 : decode cX9_readsFlag 41 = .ok (.iload_n 1, 1) := by decide +kernel
theorem dX9_readsFlag_42 : decode cX9_readsFlag 42 = .ok (.aload_n 0, 1) := by decide +kernel
theorem dX9_readsFlag_43 : decode cX9_readsFlag 43 = .ok (.getfield 91, 3) := by decide +kernel
theorem dX9_readsFlag_46 : decode cX9_readsFlag 46 = .ok (.bipush 48, 2) := by decide +kernel
theorem dX9_readsFlag_48 : decode cX9_readsFlag 48 = .ok (.isub, 1) := by decide +kernel
theorem dX9_readsFlag_49 : decode cX9_readsFlag 49 = .ok (.iastore, 1) := by decide +kernel
theorem dX9_readsFlag_50 : decode cX9_readsFlag 50 = .ok (.aload_n 0, 1) := by decide +kernel
theorem dX9_readsFlag_51 : decode cX9_readsFlag 51 = .ok (.invokevirtual 102, 3) := by decide +kernel
theorem dX9_readsFlag_54 : decode cX9_readsFlag 54 = .ok (.aload_n 0, 1) := by decide +kernel
theorem dX9_readsFlag_55 : decode cX9_readsFlag 55 = .ok (.iconst 1, 1) := by decide +kernel
theorem dX9_readsFlag_56 : decode cX9_readsFlag 56 = .ok (.bipush 9, 2) := by decide +kernel
theorem dX9_readsFlag_58 : decode cX9_readsFlag 58 = .ok (.invokevirtual 108, 3) := by decide +kernel
theorem dX9_readsFlag_61 : decode cX9_readsFlag 61 = .ok (.ifCond .ne 5, 3) := by decide +kernel
theorem dX9_readsFlag_64 : decode cX9_readsFlag 64 = .ok (.iconst 0, 1) := by decide +kernel
theorem dX9_readsFlag_65 : decode cX9_readsFlag 65 = .ok (.ireturn, 1) := by decide +kernel
theorem dX9_readsFlag_66 : decode cX9_readsFlag 66 = .ok (.aload_n 0, 1) := by decide +kernel
theorem dX9_readsFlag_67 : decode cX9_readsFlag 67 = .ok (.getfield 41, 3) := by decide +kernel
theorem dX9_readsFlag_70 : decode cX9_readsFlag 70 = .ok (.iload_n 1, 1) := by decide +kernel
theorem dX9_readsFlag_71 : decode cX9_readsFlag 71 = .ok (.aload_n 0, 1) := by decide +kernel
theorem dX9_readsFlag_72 : decode cX9_readsFlag 72 = .ok (.getfield 91, 3) := by decide +kernel
theorem dX9_readsFlag_75 : decode cX9_readsFlag 75 = .ok (.bipush 48, 2) := by decide +kernel
theorem dX9_readsFlag_77 : decode cX9_readsFlag 77 = .ok (.isub, 1) := by decide +kernel
theorem dX9_readsFlag_78 : decode cX9_readsFlag 78 = .ok (.iastore, 1) := by decide +kernel
theorem dX9_readsFlag_79 : decode cX9_readsFlag 79 = .ok (.aload_n 0, 1) := by decide +kernel
theorem dX9_readsFlag_80 : decode cX9_readsFlag 80 = .ok (.invokevirtual 102, 3) := by decide +kernel
theorem dX9_readsFlag_83 : decode cX9_readsFlag 83 = .ok (.aload_n 0, 1) := by decide +kernel
theorem dX9_readsFlag_84 : decode cX9_readsFlag 84 = .ok (.invokevirtual 112, 3) := by decide +kernel
theorem dX9_readsFlag_87 : decode cX9_readsFlag 87 = .ok (.ireturn, 1) := by decide +kernel
theorem dX9_isNew_0 : decode cX9_isNew 0 = .ok (.iconst 0, 1) := by decide +kernel
theorem dX9_isNew_1 : decode cX9_isNew 1 = .ok (.istore_n 2, 1) := by decide +kernel
theorem dX9_isNew_2 : decode cX9_isNew 2 = .ok (.iload_n 2, 1) := by decide +kernel
theorem dX9_isNew_3 : decode cX9_isNew 3 = .ok (.iload_n 1, 1) := by decide +kernel
theorem dX9_isNew_4 : decode cX9_isNew 4 = .ok (.if_icmp .ge 91, 3) := by decide +kernel
theorem dX9_isNew_7 : decode cX9_isNew 7 = .ok (.aload_n 0, 1) := by decide +kernel
theorem dX9_isNew_8 : decode cX9_isNew 8 = .ok (.getfield 44, 3) := by decide +kernel
theorem dX9_isNew_11 : decode cX9_isNew 11 = .ok (.iload_n 2, 1) := by decide +kernel
theorem dX9_isNew_12 : decode cX9_isNew 12 = .ok (.iaload, 1) := by decide +kernel
theorem dX9_isNew_13 : decode cX9_isNew 13 = .ok (.aload_n 0, 1) := by decide +kernel
theorem dX9_isNew_14 : decode cX9_isNew 14 = .ok (.getfield 44, 3) := by decide +kernel
theorem dX9_isNew_17 : decode cX9_isNew 17 = .ok (.iload_n 1, 1) := by decide +kernel
theorem dX9_isNew_18 : decode cX9_isNew 18 = .ok (.iaload, 1) := by decide +kernel
theorem dX9_isNew_19 : decode cX9_isNew 19 = .ok (.if_icmp .eq 7, 3) := by decide +kernel
theorem dX9_isNew_22 : decode cX9_isNew 22 = .ok (.iconst 1, 1) := by decide +kernel
theorem dX9_isNew_23 : decode cX9_isNew 23 = .ok (.goto 4, 3) := by decide +kernel
theorem dX9_isNew_26 : decode cX9_isNew 26 = .ok (.iconst 0, 1) := by decide +kernel
theorem dX9_isNew_27 : decode cX9_isNew 27 = .ok (.istore_n 3, 1) := by decide +kernel
theorem dX9_isNew_28 : decode cX9_isNew 28 = .ok (.iconst 0, 1) := by decide +kernel
theorem dX9_isNew_29 : decode cX9_isNew 29 = .ok (.istore 4, 2) := by decide +kernel
theorem dX9_isNew_31 : decode cX9_isNew 31 = .ok (.iload 4, 2) := by decide +kernel
theorem dX9_isNew_33 : decode cX9_isNew 33 = .ok (.aload_n 0, 1) := by decide +kernel
theorem dX9_isNew_34 : decode cX9_isNew 34 = .ok (.getfield 44, 3) := by decide +kernel
theorem dX9_isNew_37 : decode cX9_isNew 37 = .ok (.iload_n 1, 1) := by decide +kernel
theorem dX9_isNew_38 : decode cX9_isNew 38 = .ok (.iaload, 1) := by decide +kernel
theorem dX9_isNew_39 : decode cX9_isNew 39 = .ok (.if_icmp .ge 44, 3) := by decide +kernel
theorem dX9_isNew_42 : decode cX9_isNew 42 = .ok (.iload_n 3, 1) := by decide +kernel
theorem dX9_isNew_43 : decode cX9_isNew 43 = .ok (.ifCond .ne 40, 3) := by decide +kernel
theorem dX9_isNew_46 : decode cX9_isNew 46 = .ok (.aload_n 0, 1) := by decide +kernel
theorem dX9_isNew_47 : decode cX9_isNew 47 = .ok (.getfield 47, 3) := by decide +kernel
theorem dX9_isNew_50 : decode cX9_isNew 50 = .ok (.iconst 4, 1) := by decide +kernel
theorem dX9_isNew_51 : decode cX9_isNew 51 = .ok (.iload_n 2, 1) := by decide +kernel
theorem dX9_isNew_52 : decode cX9_isNew 52 = .ok (.imul, 1) := by decide +kernel
theorem dX9_isNew_53 : decode cX9_isNew 53 = .ok (.iload 4, 2) := by decide +kernel
theorem dX9_isNew_55 : decode cX9_isNew 55 = .ok (.iadd, 1) := by decide +kernel
theorem dX9_isNew_56 : decode cX9_isNew 56 = .ok (.iaload, 1) := by decide +kernel
theorem dX9_isNew_57 : decode cX9_isNew 57 = .ok (.aload_n 0, 1) := by decide +kernel
theorem dX9_isNew_58 : decode cX9_isNew 58 = .ok (.getfield 47, 3) := by decide +kernel
theorem dX9_isNew_61 : decode cX9_isNew 61 = .ok (.iconst 4, 1) := by decide +kernel
theorem dX9_isNew_62 : decode cX9_isNew 62 = .ok (.iload_n 1, 1) := by decide +kernel
theorem dX9_isNew_63 : decode cX9_isNew 63 = .ok (.imul, 1) := by decide +kernel
theorem dX9_isNew_64 : decode cX9_isNew 64 = .ok (.iload 4, 2) := by decide +kernel
theorem dX9_isNew_66 : decode cX9_isNew 66 = .ok (.iadd, 1) := by decide +kernel
theorem dX9_isNew_67 : decode cX9_isNew 67 = .ok (.iaload, 1) := by decide +kernel
theorem dX9_isNew_68 : decode cX9_isNew 68 = .ok (.if_icmp .eq 7, 3) := by decide +kernel
theorem dX9_isNew_71 : decode cX9_isNew 71 = .ok (.iconst 1, 1) := by decide +kernel
theorem dX9_isNew_72 : decode cX9_isNew 72 = .ok (.goto 4, 3) := by decide +kernel
theorem dX9_isNew_75 : decode cX9_isNew 75 = .ok (.iconst 0, 1) := by decide +kernel
theorem dX9_isNew_76 : decode cX9_isNew 76 = .ok (.istore_n 3, 1) := by decide +kernel
theorem dX9_isNew_77 : decode cX9_isNew 77 = .ok (.iinc 4 1, 3) := by decide +kernel
theorem dX9_isNew_80 : decode cX9_isNew 80 = .ok (.goto (-49), 3) := by decide +kernel
theorem dX9_isNew_83 : decode cX9_isNew 83 = .ok (.iload_n 3, 1) := by decide +kernel
theorem dX9_isNew_84 : decode cX9_isNew 84 = .ok (.ifCond .ne 5, 3) := by decide +kernel
theorem dX9_isNew_87 : decode cX9_isNew 87 = .ok (.iconst 0, 1) := by decide +kernel
theorem dX9_isNew_88 : decode cX9_isNew 88 = .ok (.ireturn, 1) := by decide +kernel
theorem dX9_isNew_89 : decode cX9_isNew 89 = .ok (.iinc 2 1, 3) := by decide +kernel
theorem dX9_isNew_92 : decode cX9_isNew 92 = .ok (.goto (-90), 3) := by decide +kernel
theorem dX9_isNew_95 : decode cX9_isNew 95 = .ok (.iconst 1, 1) := by decide +kernel
theorem dX9_isNew_96 : decode cX9_isNew 96 = .ok (.ireturn, 1) := by decide +kernel
theorem dX9_readsCode_0 : decode cX9_readsCode 0 = .ok (.aload_n 0, 1) := by decide +kernel
theorem dX9_readsCode_1 : decode cX9_readsCode 1 = .ok (.getfield 119, 3) := by decide +kernel
theorem dX9_readsCode_4 : decode cX9_readsCode 4 = .ok (.istore_n 1, 1) := by decide +kernel
theorem dX9_readsCode_5 : decode cX9_readsCode 5 = .ok (.iload_n 1, 1) := by decide +kernel
theorem dX9_readsCode_6 : decode cX9_readsCode 6 = .ok (.bipush 10, 2) := by decide +kernel
theorem dX9_readsCode_8 : decode cX9_readsCode 8 = .ok (.if_icmp .ne 5, 3) := by decide +kernel
theorem dX9_readsCode_11 : decode cX9_readsCode 11 = .ok (.iconst 0, 1) := by decide +kernel
theorem dX9_readsCode_12 : decode cX9_readsCode 12 = .ok (.ireturn, 1) := by decide +kernel
theorem dX9_readsCode_13 : decode cX9_readsCode 13 = .ok (.aload_n 0, 1) := by decide +kernel
theorem dX9_readsCode_14 : decode cX9_readsCode 14 = .ok (.invokevirtual 102, 3) := by decide +kernel
theorem dX9_readsCode_17 : decode cX9_readsCode 17 = .ok (.aload_n 0, 1) := by decide +kernel
theorem dX9_readsCode_18 : decode cX9_readsCode 18 = .ok (.getfield 44, 3) := by decide +kernel
theorem dX9_readsCode_21 : decode cX9_readsCode 21 = .ok (.iload_n 1, 1) := by decide +kernel
theorem dX9_readsCode_22 : decode cX9_readsCode 22 = .ok (.iconst 0, 1) := by decide +kernel
theorem dX9_readsCode_23 : decode cX9_readsCode 23 = .ok (.iastore, 1) := by decide +kernel
theorem dX9_readsCode_24 : decode cX9_readsCode 24 = .ok (.aload_n 0, 1) := by decide +kernel
theorem dX9_readsCode_25 : decode cX9_readsCode 25 = .ok (.invokevirtual 116, 3) := by decide +kernel
theorem dX9_readsCode_28 : decode cX9_readsCode 28 = .ok (.ifCond .eq 52, 3) := by decide +kernel
theorem dX9_readsCode_31 : decode cX9_readsCode 31 = .ok (.aload_n 0, 1) := by decide +kernel
theorem dX9_readsCode_32 : decode cX9_readsCode 32 = .ok (.getfield 44, 3) := by decide +kernel
theorem dX9_readsCode_35 : decode cX9_readsCode 35 = .ok (.iload_n 1, 1) := by decide +kernel
theorem dX9_readsCode_36 : decode cX9_readsCode 36 = .ok (.iaload, 1) := by decide +kernel
theorem dX9_readsCode_37 : decode cX9_readsCode 37 = .ok (.iconst 4, 1) := by decide +kernel
theorem dX9_readsCode_38 : decode cX9_readsCode 38 = .ok (.if_icmp .ge 42, 3) := by decide +kernel
theorem dX9_readsCode_41 : decode cX9_readsCode 41 = .ok (.aload_n 0, 1) := by decide +kernel
theorem dX9_readsCode_42 : decode cX9_readsCode 42 = .ok (.getfield 47, 3) := by decide +kernel
theorem dX9_readsCode_45 : decode cX9_readsCode 45 = .ok (.iconst 4, 1) := by decide +kernel
theorem dX9_readsCode_46 : decode cX9_readsCode 46 = .ok (.iload_n 1, 1) := by decide +kernel
theorem dX9_readsCode_47 : decode cX9_readsCode 47 = .ok (.imul, 1) := by decide +kernel
theorem dX9_readsCode_48 : decode cX9_readsCode 48 = .ok (.aload_n 0, 1) := by decide +kernel
theorem dX9_readsCode_49 : decode cX9_readsCode 49 = .ok (.getfield 44, 3) := by decide +kernel
theorem dX9_readsCode_52 : decode cX9_readsCode 52 = .ok (.iload_n 1, 1) := by decide +kernel
theorem dX9_readsCode_53 : decode cX9_readsCode 53 = .ok (.iaload, 1) := by decide +kernel
theorem dX9_readsCode_54 : decode cX9_readsCode 54 = .ok (.iadd, 1) := by decide +kernel
theorem dX9_readsCode_55 : decode cX9_readsCode 55 = .ok (.aload_n 0, 1) := by decide +kernel
theorem dX9_readsCode_56 : decode cX9_readsCode 56 = .ok (.getfield 91, 3) := by decide +kernel
theorem dX9_readsCode_59 : decode cX9_readsCode 59 = .ok (.bipush 97, 2) := by decide +kernel
theorem dX9_readsCode_61 : decode cX9_readsCode 61 = .ok (.isub, 1) := by decide +kernel
theorem dX9_readsCode_62 : decode cX9_readsCode 62 = .ok (.iastore, 1) := by decide +kernel
theorem dX9_readsCode_63 : decode cX9_readsCode 63 = .ok (.aload_n 0, 1) := by decide +kernel
theorem dX9_readsCode_64 : decode cX9_readsCode 64 = .ok (.getfield 44, 3) := by decide +kernel
theorem dX9_readsCode_67 : decode cX9_readsCode 67 = .ok (.iload_n 1, 1) := by decide +kernel
theorem dX9_readsCode_68 : decode cX9_readsCode 68 = .ok (.dup2, 1) := by decide +kernel
theorem dX9_readsCode_69 : decode cX9_readsCode 69 = .ok (.iaload, 1) := by decide +kernel
theorem dX9_readsCode_70 : decode cX9_readsCode 70 = .ok (.iconst 1, 1) := by decide +kernel
theorem dX9_readsCode_71 : decode cX9_readsCode 71 = .ok (.iadd, 1) := by decide +kernel
theorem dX9_readsCode_72 : decode cX9_readsCode 72 = .ok (.iastore, 1) := by decide +kernel
theorem dX9_readsCode_73 : decode cX9_readsCode 73 = .ok (.aload_n 0, 1) := by decide +kernel
theorem dX9_readsCode_74 : decode cX9_readsCode 74 = .ok (.invokevirtual 102, 3) := by decide +kernel
theorem dX9_readsCode_77 : decode cX9_readsCode 77 = .ok (.goto (-53), 3) := by decide +kernel
theorem dX9_readsCode_80 : decode cX9_readsCode 80 = .ok (.aload_n 0, 1) := by decide +kernel
theorem dX9_readsCode_81 : decode cX9_readsCode 81 = .ok (.getfield 44, 3) := by decide +kernel
theorem dX9_readsCode_84 : decode cX9_readsCode 84 = .ok (.iload_n 1, 1) := by decide +kernel
theorem dX9_readsCode_85 : decode cX9_readsCode 85 = .ok (.iaload, 1) := by decide +kernel
theorem dX9_readsCode_86 : decode cX9_readsCode 86 = .ok (.ifCond .eq 20, 3) := by decide +kernel
theorem dX9_readsCode_89 : decode cX9_readsCode 89 = .ok (.aload_n 0, 1) := by decide +kernel
theorem dX9_readsCode_90 : decode cX9_readsCode 90 = .ok (.getfield 91, 3) := by decide +kernel
theorem dX9_readsCode_93 : decode cX9_readsCode 93 = .ok (.bipush 59, 2) := by decide +kernel
theorem dX9_readsCode_95 : decode cX9_readsCode 95 = .ok (.if_icmp .ne 11, 3) := by decide +kernel
theorem dX9_readsCode_98 : decode cX9_readsCode 98 = .ok (.aload_n 0, 1) := by decide +kernel
theorem dX9_readsCode_99 : decode cX9_readsCode 99 = .ok (.iload_n 1, 1) := by decide +kernel
theorem dX9_readsCode_100 : decode cX9_readsCode 100 = .ok (.invokevirtual 122, 3) := by decide +kernel
theorem dX9_readsCode_103 : decode cX9_readsCode 103 = .ok (.ifCond .ne 5, 3) := by decide +kernel
theorem dX9_readsCode_106 : decode cX9_readsCode 106 = .ok (.iconst 0, 1) := by decide +kernel
theorem dX9_readsCode_107 : decode cX9_readsCode 107 = .ok (.ireturn, 1) := by decide +kernel
theorem dX9_readsCode_108 : decode cX9_readsCode 108 = .ok (.aload_n 0, 1) := by decide +kernel
theorem dX9_readsCode_109 : decode cX9_readsCode 109 = .ok (.dup, 1) := by decide +kernel
theorem dX9_readsCode_110 : decode cX9_readsCode 110 = .ok (.getfield 119, 3) := by decide +kernel
theorem dX9_readsCode_113 : decode cX9_readsCode 113 = .ok (.iconst 1, 1) := by decide +kernel
theorem dX9_readsCode_114 : decode cX9_readsCode 114 = .ok (.iadd, 1) := by decide +kernel
theorem dX9_readsCode_115 : decode cX9_readsCode 115 = .ok (.putfield 119, 3) := by decide +kernel
theorem dX9_readsCode_118 : decode cX9_readsCode 118 = .ok (.aload_n 0, 1) := by decide +kernel
theorem dX9_readsCode_119 : decode cX9_readsCode 119 = .ok (.invokevirtual 112, 3) := by decide +kernel
theorem dX9_readsCode_122 : decode cX9_readsCode 122 = .ok (.ireturn, 1) := by decide +kernel
theorem dX9_readsItem_0 : decode cX9_readsItem 0 = .ok (.aload_n 0, 1) := by decide +kernel
theorem dX9_readsItem_1 : decode cX9_readsItem 1 = .ok (.getfield 91, 3) := by decide +kernel
theorem dX9_readsItem_4 : decode cX9_readsItem 4 = .ok (.lookupswitch 51 #[(102, 41), (107, 46), (112, 36)], 36) := by decide +kernel
theorem dX9_readsItem_40 : decode cX9_readsItem 40 = .ok (.aload_n 0, 1) := by decide +kernel
theorem dX9_readsItem_41 : decode cX9_readsItem 41 = .ok (.invokevirtual 125, 3) := by decide +kernel
theorem dX9_readsItem_44 : decode cX9_readsItem 44 = .ok (.ireturn, 1) := by decide +kernel
theorem dX9_readsItem_45 : decode cX9_readsItem 45 = .ok (.aload_n 0, 1) := by decide +kernel
theorem dX9_readsItem_46 : decode cX9_readsItem 46 = .ok (.invokevirtual 128, 3) := by decide +kernel
theorem dX9_readsItem_49 : decode cX9_readsItem 49 = .ok (.ireturn, 1) := by decide +kernel
theorem dX9_readsItem_50 : decode cX9_readsItem 50 = .ok (.aload_n 0, 1) := by decide +kernel
theorem dX9_readsItem_51 : decode cX9_readsItem 51 = .ok (.invokevirtual 131, 3) := by decide +kernel
theorem dX9_readsItem_54 : decode cX9_readsItem 54 = .ok (.ireturn, 1) := by decide +kernel
theorem dX9_readsItem_55 : decode cX9_readsItem 55 = .ok (.iconst 0, 1) := by decide +kernel
theorem dX9_readsItem_56 : decode cX9_readsItem 56 = .ok (.ireturn, 1) := by decide +kernel
theorem dX9_reads_0 : decode cX9_reads 0 = .ok (.aload_n 0, 1) := by decide +kernel
theorem dX9_reads_1 : decode cX9_reads 1 = .ok (.iconst 0, 1) := by decide +kernel
theorem dX9_reads_2 : decode cX9_reads 2 = .ok (.putfield 82, 3) := by decide +kernel
theorem dX9_reads_5 : decode cX9_reads 5 = .ok (.aload_n 0, 1) := by decide +kernel
theorem dX9_reads_6 : decode cX9_reads 6 = .ok (.iconst 0, 1) := by decide +kernel
theorem dX9_reads_7 : decode cX9_reads 7 = .ok (.putfield 134, 3) := by decide +kernel
theorem dX9_reads_10 : decode cX9_reads 10 = .ok (.aload_n 0, 1) := by decide +kernel
theorem dX9_reads_11 : decode cX9_reads 11 = .ok (.iconst 0, 1) := by decide +kernel
theorem dX9_reads_12 : decode cX9_reads 12 = .ok (.putfield 105, 3) := by decide +kernel
theorem dX9_reads_15 : decode cX9_reads 15 = .ok (.aload_n 0, 1) := by decide +kernel
theorem dX9_reads_16 : decode cX9_reads 16 = .ok (.iconst 0, 1) := by decide +kernel
theorem dX9_reads_17 : decode cX9_reads 17 = .ok (.putfield 119, 3) := by decide +kernel
theorem dX9_reads_20 : decode cX9_reads 20 = .ok (.aload_n 0, 1) := by decide +kernel
theorem dX9_reads_21 : decode cX9_reads 21 = .ok (.getfield 38, 3) := by decide +kernel
theorem dX9_reads_24 : decode cX9_reads 24 = .ok (.aload_n 0, 1) := by decide +kernel
theorem dX9_reads_25 : decode cX9_reads 25 = .ok (.getfield 41, 3) := by decide +kernel
theorem dX9_reads_28 : decode cX9_reads 28 = .ok (.invokestatic 62, 3) := by decide +kernel
theorem dX9_reads_31 : decode cX9_reads 31 = .ok (.aload_n 0, 1) := by decide +kernel
theorem dX9_reads_32 : decode cX9_reads 32 = .ok (.invokevirtual 102, 3) := by decide +kernel
theorem dX9_reads_35 : decode cX9_reads 35 = .ok (.aload_n 0, 1) := by decide +kernel
theorem dX9_reads_36 : decode cX9_reads 36 = .ok (.getfield 91, 3) := by decide +kernel
theorem dX9_reads_39 : decode cX9_reads 39 = .ok (.iconst (-1), 1) := by decide +kernel
theorem dX9_reads_40 : decode cX9_reads 40 = .ok (.if_icmp .eq 25, 3) := by decide +kernel
theorem dX9_reads_43 : decode cX9_reads 43 = .ok (.aload_n 0, 1) := by decide +kernel
theorem dX9_reads_44 : decode cX9_reads 44 = .ok (.invokevirtual 137, 3) := by decide +kernel
theorem dX9_reads_47 : decode cX9_reads 47 = .ok (.ifCond .ne 5, 3) := by decide +kernel
theorem dX9_reads_50 : decode cX9_reads 50 = .ok (.iconst 0, 1) := by decide +kernel
theorem dX9_reads_51 : decode cX9_reads 51 = .ok (.ireturn, 1) := by decide +kernel
theorem dX9_reads_52 : decode cX9_reads 52 = .ok (.aload_n 0, 1) := by decide +kernel
theorem dX9_reads_53 : decode cX9_reads 53 = .ok (.dup, 1) := by decide +kernel
theorem dX9_reads_54 : decode cX9_reads 54 = .ok (.getfield 134, 3) := by decide +kernel
theorem dX9_reads_57 : decode cX9_reads 57 = .ok (.iconst 1, 1) := by decide +kernel
theorem dX9_reads_58 : decode cX9_reads 58 = .ok (.iadd, 1) := by decide +kernel
theorem dX9_reads_59 : decode cX9_reads 59 = .ok (.putfield 134, 3) := by decide +kernel
theorem dX9_reads_62 : decode cX9_reads 62 = .ok (.goto (-27), 3) := by decide +kernel
theorem dX9_reads_65 : decode cX9_reads 65 = .ok (.iconst 1, 1) := by decide +kernel
theorem dX9_reads_66 : decode cX9_reads 66 = .ok (.ireturn, 1) := by decide +kernel
theorem dX9_type_0 : decode cX9_type 0 = .ok (.iload_n 1, 1) := by decide +kernel
theorem dX9_type_1 : decode cX9_type 1 = .ok (.i2l, 1) := by decide +kernel
theorem dX9_type_2 : decode cX9_type 2 = .ok (.lconst 0, 1) := by decide +kernel
theorem dX9_type_3 : decode cX9_type 3 = .ok (.ldc2_w 140, 3) := by decide +kernel
theorem dX9_type_6 : decode cX9_type 6 = .ok (.invokestatic 78, 3) := by decide +kernel
theorem dX9_type_9 : decode cX9_type 9 = .ok (.ifCond .ne 5, 3) := by decide +kernel
theorem dX9_type_12 : decode cX9_type 12 = .ok (.iconst (-1), 1) := by decide +kernel
theorem dX9_type_13 : decode cX9_type 13 = .ok (.ireturn, 1) := by decide +kernel
theorem dX9_type_14 : decode cX9_type 14 = .ok (.aload_n 0, 1) := by decide +kernel
theorem dX9_type_15 : decode cX9_type 15 = .ok (.getfield 85, 3) := by decide +kernel
theorem dX9_type_18 : decode cX9_type 18 = .ok (.bipush 120, 2) := by decide +kernel
theorem dX9_type_20 : decode cX9_type 20 = .ok (.if_icmp .ne 6, 3) := by decide +kernel
theorem dX9_type_23 : decode cX9_type 23 = .ok (.bipush (-3), 2) := by decide +kernel
theorem dX9_type_25 : decode cX9_type 25 = .ok (.ireturn, 1) := by decide +kernel
theorem dX9_type_26 : decode cX9_type 26 = .ok (.aload_n 0, 1) := by decide +kernel
theorem dX9_type_27 : decode cX9_type 27 = .ok (.getfield 23, 3) := by decide +kernel
theorem dX9_type_30 : decode cX9_type 30 = .ok (.aload_n 0, 1) := by decide +kernel
theorem dX9_type_31 : decode cX9_type 31 = .ok (.getfield 85, 3) := by decide +kernel
theorem dX9_type_34 : decode cX9_type 34 = .ok (.iload_n 1, 1) := by decide +kernel
theorem dX9_type_35 : decode cX9_type 35 = .ok (.iastore, 1) := by decide +kernel
theorem dX9_type_36 : decode cX9_type 36 = .ok (.aload_n 0, 1) := by decide +kernel
theorem dX9_type_37 : decode cX9_type 37 = .ok (.dup, 1) := by decide +kernel
theorem dX9_type_38 : decode cX9_type 38 = .ok (.getfield 85, 3) := by decide +kernel
theorem dX9_type_41 : decode cX9_type 41 = .ok (.iconst 1, 1) := by decide +kernel
theorem dX9_type_42 : decode cX9_type 42 = .ok (.iadd, 1) := by decide +kernel
theorem dX9_type_43 : decode cX9_type 43 = .ok (.putfield 85, 3) := by decide +kernel
theorem dX9_type_46 : decode cX9_type 46 = .ok (.aload_n 0, 1) := by decide +kernel
theorem dX9_type_47 : decode cX9_type 47 = .ok (.getfield 85, 3) := by decide +kernel
theorem dX9_type_50 : decode cX9_type 50 = .ok (.ireturn, 1) := by decide +kernel
theorem dX9_clear_0 : decode cX9_clear 0 = .ok (.aload_n 0, 1) := by decide +kernel
theorem dX9_clear_1 : decode cX9_clear 1 = .ok (.getfield 85, 3) := by decide +kernel
theorem dX9_clear_4 : decode cX9_clear 4 = .ok (.istore_n 1, 1) := by decide +kernel
theorem dX9_clear_5 : decode cX9_clear 5 = .ok (.aload_n 0, 1) := by decide +kernel
theorem dX9_clear_6 : decode cX9_clear 6 = .ok (.iconst 0, 1) := by decide +kernel
theorem dX9_clear_7 : decode cX9_clear 7 = .ok (.putfield 85, 3) := by decide +kernel
theorem dX9_clear_10 : decode cX9_clear 10 = .ok (.iload_n 1, 1) := by decide +kernel
theorem dX9_clear_11 : decode cX9_clear 11 = .ok (.ireturn, 1) := by decide +kernel
theorem dX9_book_0 : decode cX9_book 0 = .ok (.aload_n 0, 1) := by decide +kernel
theorem dX9_book_1 : decode cX9_book 1 = .ok (.invokevirtual 142, 3) := by decide +kernel
theorem dX9_book_4 : decode cX9_book 4 = .ok (.ifCond .ne 11, 3) := by decide +kernel
theorem dX9_book_7 : decode cX9_book 7 = .ok (.bipush (-10), 2) := by decide +kernel
theorem dX9_book_9 : decode cX9_book 9 = .ok (.aload_n 0, 1) := by decide +kernel
theorem dX9_book_10 : decode cX9_book 10 = .ok (.getfield 88, 3) := by decide +kernel
theorem dX9_book_13 : decode cX9_book 13 = .ok (.isub, 1) := by decide +kernel
theorem dX9_book_14 : decode cX9_book 14 = .ok (.ireturn, 1) := by decide +kernel
theorem dX9_book_15 : decode cX9_book 15 = .ok (.iconst 0, 1) := by decide +kernel
theorem dX9_book_16 : decode cX9_book 16 = .ok (.istore_n 1, 1) := by decide +kernel
theorem dX9_book_17 : decode cX9_book 17 = .ok (.iload_n 1, 1) := by decide +kernel
theorem dX9_book_18 : decode cX9_book 18 = .ok (.bipush 8, 2) := by decide +kernel
theorem dX9_book_20 : decode cX9_book 20 = .ok (.if_icmp .ge 33, 3) := by decide +kernel
theorem dX9_book_23 : decode cX9_book 23 = .ok (.aload_n 0, 1) := by decide +kernel
theorem dX9_book_24 : decode cX9_book 24 = .ok (.getfield 26, 3) := by decide +kernel
theorem dX9_book_27 : decode cX9_book 27 = .ok (.iload_n 1, 1) := by decide +kernel
theorem dX9_book_28 : decode cX9_book 28 = .ok (.aload_n 0, 1) := by decide +kernel
theorem dX9_book_29 : decode cX9_book 29 = .ok (.getfield 38, 3) := by decide +kernel
theorem dX9_book_32 : decode cX9_book 32 = .ok (.iload_n 1, 1) := by decide +kernel
theorem dX9_book_33 : decode cX9_book 33 = .ok (.iaload, 1) := by decide +kernel
theorem dX9_book_34 : decode cX9_book 34 = .ok (.iastore, 1) := by decide +kernel
theorem dX9_book_35 : decode cX9_book 35 = .ok (.aload_n 0, 1) := by decide +kernel
theorem dX9_book_36 : decode cX9_book 36 = .ok (.getfield 29, 3) := by decide +kernel
theorem dX9_book_39 : decode cX9_book 39 = .ok (.iload_n 1, 1) := by decide +kernel
theorem dX9_book_40 : decode cX9_book 40 = .ok (.aload_n 0, 1) := by decide +kernel
theorem dX9_book_41 : decode cX9_book 41 = .ok (.getfield 41, 3) := by decide +kernel
theorem dX9_book_44 : decode cX9_book 44 = .ok (.iload_n 1, 1) := by decide +kernel
theorem dX9_book_45 : decode cX9_book 45 = .ok (.iaload, 1) := by decide +kernel
theorem dX9_book_46 : decode cX9_book 46 = .ok (.iastore, 1) := by decide +kernel
theorem dX9_book_47 : decode cX9_book 47 = .ok (.iinc 1 1, 3) := by decide +kernel
theorem dX9_book_50 : decode cX9_book 50 = .ok (.goto (-33), 3) := by decide +kernel
theorem dX9_book_53 : decode cX9_book 53 = .ok (.aload_n 0, 1) := by decide +kernel
theorem dX9_book_54 : decode cX9_book 54 = .ok (.aload_n 0, 1) := by decide +kernel
theorem dX9_book_55 : decode cX9_book 55 = .ok (.getfield 119, 3) := by decide +kernel
theorem dX9_book_58 : decode cX9_book 58 = .ok (.putfield 145, 3) := by decide +kernel
theorem dX9_book_61 : decode cX9_book 61 = .ok (.iconst 0, 1) := by decide +kernel
theorem dX9_book_62 : decode cX9_book 62 = .ok (.istore_n 1, 1) := by decide +kernel
theorem dX9_book_63 : decode cX9_book 63 = .ok (.iload_n 1, 1) := by decide +kernel
theorem dX9_book_64 : decode cX9_book 64 = .ok (.aload_n 0, 1) := by decide +kernel
theorem dX9_book_65 : decode cX9_book 65 = .ok (.getfield 145, 3) := by decide +kernel
theorem dX9_book_68 : decode cX9_book 68 = .ok (.if_icmp .ge 54, 3) := by decide +kernel
theorem dX9_book_71 : decode cX9_book 71 = .ok (.aload_n 0, 1) := by decide +kernel
theorem dX9_book_72 : decode cX9_book 72 = .ok (.getfield 32, 3) := by decide +kernel
theorem dX9_book_75 : decode cX9_book 75 = .ok (.iload_n 1, 1) := by decide +kernel
theorem dX9_book_76 : decode cX9_book 76 = .ok (.aload_n 0, 1) := by decide +kernel
theorem dX9_book_77 : decode cX9_book 77 = .ok (.getfield 44, 3) := by decide +kernel
theorem dX9_book_80 : decode cX9_book 80 = .ok (.iload_n 1, 1) := by decide +kernel
theorem dX9_book_81 : decode cX9_book 81 = .ok (.iaload, 1) := by decide +kernel
theorem dX9_book_82 : decode cX9_book 82 = .ok (.iastore, 1) := by decide +kernel
theorem dX9_book_83 : decode cX9_book 83 = .ok (.iconst 0, 1) := by decide +kernel
theorem dX9_book_84 : decode cX9_book 84 = .ok (.istore_n 2, 1) := by decide +kernel
theorem dX9_book_85 : decode cX9_book 85 = .ok (.iload_n 2, 1) := by decide +kernel
theorem dX9_book_86 : decode cX9_book 86 = .ok (.iconst 4, 1) := by decide +kernel
theorem dX9_book_87 : decode cX9_book 87 = .ok (.if_icmp .ge 29, 3) := by decide +kernel
theorem dX9_book_90 : decode cX9_book 90 = .ok (.aload_n 0, 1) := by decide +kernel
theorem dX9_book_91 : decode cX9_book 91 = .ok (.getfield 35, 3) := by decide +kernel
theorem dX9_book_94 : decode cX9_book 94 = .ok (.iconst 4, 1) := by decide +kernel
theorem dX9_book_95 : decode cX9_book 95 = .ok (.iload_n 1, 1) := by decide +kernel
theorem dX9_book_96 : decode cX9_book 96 = .ok (.imul, 1) := by decide +kernel
theorem dX9_book_97 : decode cX9_book 97 = .ok (.iload_n 2, 1) := by decide +kernel
theorem dX9_book_98 : decode cX9_book 98 = .ok (.iadd, 1) := by decide +kernel
theorem dX9_book_99 : decode cX9_book 99 = .ok (.aload_n 0, 1) := by decide +kernel
theorem dX9_book_100 : decode cX9_book 100 = .ok (.getfield 47, 3) := by decide +kernel
theorem dX9_book_103 : decode cX9_book 103 = .ok (.iconst 4, 1) := by decide +kernel
theorem dX9_book_104 : decode cX9_book 104 = .ok (.iload_n 1, 1) := by decide +kernel
theorem dX9_book_105 : decode cX9_book 105 = .ok (.imul, 1) := by decide +kernel
theorem dX9_book_106 : decode cX9_book 106 = .ok (.iload_n 2, 1) := by decide +kernel
theorem dX9_book_107 : decode cX9_book 107 = .ok (.iadd, 1) := by decide +kernel
theorem dX9_book_108 : decode cX9_book 108 = .ok (.iaload, 1) := by decide +kernel
theorem dX9_book_109 : decode cX9_book 109 = .ok (.iastore, 1) := by decide +kernel
theorem dX9_book_110 : decode cX9_book 110 = .ok (.iinc 2 1, 3) := by decide +kernel
theorem dX9_book_113 : decode cX9_book 113 = .ok (.goto (-28), 3) := by decide +kernel
theorem dX9_book_116 : decode cX9_book 116 = .ok (.iinc 1 1, 3) := by decide +kernel
theorem dX9_book_119 : decode cX9_book 119 = .ok (.goto (-56), 3) := by decide +kernel
theorem dX9_book_122 : decode cX9_book 122 = .ok (.iconst 0, 1) := by decide +kernel
theorem dX9_book_123 : decode cX9_book 123 = .ok (.istore_n 1, 1) := by decide +kernel
theorem dX9_book_124 : decode cX9_book 124 = .ok (.iload_n 1, 1) := by decide +kernel
theorem dX9_book_125 : decode cX9_book 125 = .ok (.bipush 12, 2) := by decide +kernel
theorem dX9_book_127 : decode cX9_book 127 = .ok (.if_icmp .ge 16, 3) := by decide +kernel
theorem dX9_book_130 : decode cX9_book 130 = .ok (.aload_n 0, 1) := by decide +kernel
theorem dX9_book_131 : decode cX9_book 131 = .ok (.getfield 7, 3) := by decide +kernel
theorem dX9_book_134 : decode cX9_book 134 = .ok (.iload_n 1, 1) := by decide +kernel
theorem dX9_book_135 : decode cX9_book 135 = .ok (.iconst 0, 1) := by decide +kernel
theorem dX9_book_136 : decode cX9_book 136 = .ok (.iastore, 1) := by decide +kernel
theorem dX9_book_137 : decode cX9_book 137 = .ok (.iinc 1 1, 3) := by decide +kernel
theorem dX9_book_140 : decode cX9_book 140 = .ok (.goto (-16), 3) := by decide +kernel
theorem dX9_book_143 : decode cX9_book 143 = .ok (.aload_n 0, 1) := by decide +kernel
theorem dX9_book_144 : decode cX9_book 144 = .ok (.getfield 7, 3) := by decide +kernel
theorem dX9_book_147 : decode cX9_book 147 = .ok (.bipush 9, 2) := by decide +kernel
theorem dX9_book_149 : decode cX9_book 149 = .ok (.aload_n 0, 1) := by decide +kernel
theorem dX9_book_150 : decode cX9_book 150 = .ok (.getfield 105, 3) := by decide +kernel
theorem dX9_book_153 : decode cX9_book 153 = .ok (.ifCond .le 10, 3) := by decide +kernel
theorem dX9_book_156 : decode cX9_book 156 = .ok (.aload_n 0, 1) := by decide +kernel
theorem dX9_book_157 : decode cX9_book 157 = .ok (.getfield 105, 3) := by decide +kernel
theorem dX9_book_160 : decode cX9_book 160 = .ok (.goto 4, 3) := by decide +kernel
theorem dX9_book_163 : decode cX9_book 163 = .ok (.iconst 5, 1) := by decide +kernel
theorem dX9_book_164 : decode cX9_book 164 = .ok (.iastore, 1) := by decide +kernel
theorem dX9_book_165 : decode cX9_book 165 = .ok (.aload_n 0, 1) := by decide +kernel
theorem dX9_book_166 : decode cX9_book 166 = .ok (.iconst 0, 1) := by decide +kernel
theorem dX9_book_167 : decode cX9_book 167 = .ok (.putfield 85, 3) := by decide +kernel
theorem dX9_book_170 : decode cX9_book 170 = .ok (.aload_n 0, 1) := by decide +kernel
theorem dX9_book_171 : decode cX9_book 171 = .ok (.iconst 0, 1) := by decide +kernel
theorem dX9_book_172 : decode cX9_book 172 = .ok (.putfield 66, 3) := by decide +kernel
theorem dX9_book_175 : decode cX9_book 175 = .ok (.aload_n 0, 1) := by decide +kernel
theorem dX9_book_176 : decode cX9_book 176 = .ok (.iconst 0, 1) := by decide +kernel
theorem dX9_book_177 : decode cX9_book 177 = .ok (.putfield 148, 3) := by decide +kernel
theorem dX9_book_180 : decode cX9_book 180 = .ok (.aload_n 0, 1) := by decide +kernel
theorem dX9_book_181 : decode cX9_book 181 = .ok (.getfield 13, 3) := by decide +kernel
theorem dX9_book_184 : decode cX9_book 184 = .ok (.iconst 0, 1) := by decide +kernel
theorem dX9_book_185 : decode cX9_book 185 = .ok (.iconst 0, 1) := by decide +kernel
theorem dX9_book_186 : decode cX9_book 186 = .ok (.bastore, 1) := by decide +kernel
theorem dX9_book_187 : decode cX9_book 187 = .ok (.aload_n 0, 1) := by decide +kernel
theorem dX9_book_188 : decode cX9_book 188 = .ok (.getfield 13, 3) := by decide +kernel
theorem dX9_book_191 : decode cX9_book 191 = .ok (.iconst 1, 1) := by decide +kernel
theorem dX9_book_192 : decode cX9_book 192 = .ok (.iconst 0, 1) := by decide +kernel
theorem dX9_book_193 : decode cX9_book 193 = .ok (.bastore, 1) := by decide +kernel
theorem dX9_book_194 : decode cX9_book 194 = .ok (.aload_n 0, 1) := by decide +kernel
theorem dX9_book_195 : decode cX9_book 195 = .ok (.getfield 134, 3) := by decide +kernel
theorem dX9_book_198 : decode cX9_book 198 = .ok (.ireturn, 1) := by decide +kernel
theorem dX9_isSentence_0 : decode cX9_isSentence 0 = .ok (.iload_n 1, 1) := by decide +kernel
theorem dX9_isSentence_1 : decode cX9_isSentence 1 = .ok (.i2l, 1) := by decide +kernel
theorem dX9_isSentence_2 : decode cX9_isSentence 2 = .ok (.lconst 0, 1) := by decide +kernel
theorem dX9_isSentence_3 : decode cX9_isSentence 3 = .ok (.aload_n 0, 1) := by decide +kernel
theorem dX9_isSentence_4 : decode cX9_isSentence 4 = .ok (.getfield 145, 3) := by decide +kernel
theorem dX9_isSentence_7 : decode cX9_isSentence 7 = .ok (.iconst 1, 1) := by decide +kernel
theorem dX9_isSentence_8 : decode cX9_isSentence 8 = .ok (.isub, 1) := by decide +kernel
theorem dX9_isSentence_9 : decode cX9_isSentence 9 = .ok (.i2l, 1) := by decide +kernel
theorem dX9_isSentence_10 : decode cX9_isSentence 10 = .ok (.invokestatic 78, 3) := by decide +kernel
theorem dX9_isSentence_13 : decode cX9_isSentence 13 = .ok (.ireturn, 1) := by decide +kernel
theorem dX9_flag_0 : decode cX9_flag 0 = .ok (.iload_n 1, 1) := by decide +kernel
theorem dX9_flag_1 : decode cX9_flag 1 = .ok (.i2l, 1) := by decide +kernel
theorem dX9_flag_2 : decode cX9_flag 2 = .ok (.lconst 0, 1) := by decide +kernel
theorem dX9_flag_3 : decode cX9_flag 3 = .ok (.ldc2_w 151, 3) := by decide +kernel
theorem dX9_flag_6 : decode cX9_flag 6 = .ok (.invokestatic 78, 3) := by decide +kernel
theorem dX9_flag_9 : decode cX9_flag 9 = .ok (.ifCond .eq 13, 3) := by decide +kernel
theorem dX9_flag_12 : decode cX9_flag 12 = .ok (.iload_n 2, 1) := by decide +kernel
theorem dX9_flag_13 : decode cX9_flag 13 = .ok (.i2l, 1) := by decide +kernel
theorem dX9_flag_14 : decode cX9_flag 14 = .ok (.lconst 0, 1) := by decide +kernel
theorem dX9_flag_15 : decode cX9_flag 15 = .ok (.lconst 1, 1) := by decide +kernel
theorem dX9_flag_16 : decode cX9_flag 16 = .ok (.invokestatic 78, 3) := by decide +kernel
theorem dX9_flag_19 : decode cX9_flag 19 = .ok (.ifCond .ne 7, 3) := by decide +kernel
theorem dX9_flag_22 : decode cX9_flag 22 = .ok (.iconst (-1), 1) := by decide +kernel
theorem dX9_flag_23 : decode cX9_flag 23 = .ok (.goto 22, 3) := by decide +kernel
theorem dX9_flag_26 : decode cX9_flag 26 = .ok (.iload_n 2, 1) := by decide +kernel
theorem dX9_flag_27 : decode cX9_flag 27 = .ok (.ifCond .ne 12, 3) := by decide +kernel
theorem dX9_flag_30 : decode cX9_flag 30 = .ok (.aload_n 0, 1) := by decide +kernel
theorem dX9_flag_31 : decode cX9_flag 31 = .ok (.getfield 26, 3) := by decide +kernel
theorem dX9_flag_34 : decode cX9_flag 34 = .ok (.iload_n 1, 1) := by decide +kernel
theorem dX9_flag_35 : decode cX9_flag 35 = .ok (.iaload, 1) := by decide +kernel
theorem dX9_flag_36 : decode cX9_flag 36 = .ok (.goto 9, 3) := by decide +kernel
theorem dX9_flag_39 : decode cX9_flag 39 = .ok (.aload_n 0, 1) := by decide +kernel
theorem dX9_flag_40 : decode cX9_flag 40 = .ok (.getfield 29, 3) := by decide +kernel
theorem dX9_flag_43 : decode cX9_flag 43 = .ok (.iload_n 1, 1) := by decide +kernel
theorem dX9_flag_44 : decode cX9_flag 44 = .ok (.iaload, 1) := by decide +kernel
theorem dX9_flag_45 : decode cX9_flag 45 = .ok (.ireturn, 1) := by decide +kernel
theorem dX9_code_0 : decode cX9_code 0 = .ok (.aload_n 0, 1) := by decide +kernel
theorem dX9_code_1 : decode cX9_code 1 = .ok (.iload_n 1, 1) := by decide +kernel
theorem dX9_code_2 : decode cX9_code 2 = .ok (.invokevirtual 153, 3) := by decide +kernel
theorem dX9_code_5 : decode cX9_code 5 = .ok (.ifCond .eq 8, 3) := by decide +kernel
theorem dX9_code_8 : decode cX9_code 8 = .ok (.iload_n 2, 1) := by decide +kernel
theorem dX9_code_9 : decode cX9_code 9 = .ok (.iconst (-1), 1) := by decide +kernel
theorem dX9_code_10 : decode cX9_code 10 = .ok (.if_icmp .ge 5, 3) := by decide +kernel
theorem dX9_code_13 : decode cX9_code 13 = .ok (.iconst (-1), 1) := by decide +kernel
theorem dX9_code_14 : decode cX9_code 14 = .ok (.ireturn, 1) := by decide +kernel
theorem dX9_code_15 : decode cX9_code 15 = .ok (.iload_n 2, 1) := by decide +kernel
theorem dX9_code_16 : decode cX9_code 16 = .ok (.ifCond .ge 12, 3) := by decide +kernel
theorem dX9_code_19 : decode cX9_code 19 = .ok (.aload_n 0, 1) := by decide +kernel
theorem dX9_code_20 : decode cX9_code 20 = .ok (.getfield 32, 3) := by decide +kernel
theorem dX9_code_23 : decode cX9_code 23 = .ok (.iload_n 1, 1) := by decide +kernel
theorem dX9_code_24 : decode cX9_code 24 = .ok (.iaload, 1) := by decide +kernel
theorem dX9_code_25 : decode cX9_code 25 = .ok (.goto 28, 3) := by decide +kernel
theorem dX9_code_28 : decode cX9_code 28 = .ok (.iload_n 2, 1) := by decide +kernel
theorem dX9_code_29 : decode cX9_code 29 = .ok (.aload_n 0, 1) := by decide +kernel
theorem dX9_code_30 : decode cX9_code 30 = .ok (.getfield 32, 3) := by decide +kernel
theorem dX9_code_33 : decode cX9_code 33 = .ok (.iload_n 1, 1) := by decide +kernel
theorem dX9_code_34 : decode cX9_code 34 = .ok (.iaload, 1) := by decide +kernel
theorem dX9_code_35 : decode cX9_code 35 = .ok (.if_icmp .ge 16, 3) := by decide +kernel
theorem dX9_code_38 : decode cX9_code 38 = .ok (.aload_n 0, 1) := by decide +kernel
theorem dX9_code_39 : decode cX9_code 39 = .ok (.getfield 35, 3) := by decide +kernel
theorem dX9_code_42 : decode cX9_code 42 = .ok (.iconst 4, 1) := by decide +kernel
theorem dX9_code_43 : decode cX9_code 43 = .ok (.iload_n 1, 1) := by decide +kernel
theorem dX9_code_44 : decode cX9_code 44 = .ok (.imul, 1) := by decide +kernel
theorem dX9_code_45 : decode cX9_code 45 = .ok (.iload_n 2, 1) := by decide +kernel
theorem dX9_code_46 : decode cX9_code 46 = .ok (.iadd, 1) := by decide +kernel
theorem dX9_code_47 : decode cX9_code 47 = .ok (.iaload, 1) := by decide +kernel
theorem dX9_code_48 : decode cX9_code 48 = .ok (.goto 5, 3) := by decide +kernel
theorem dX9_code_51 : decode cX9_code 51 = .ok (.bipush (-9), 2) := by decide +kernel
theorem dX9_code_53 : decode cX9_code 53 = .ok (.ireturn, 1) := by decide +kernel
theorem dX9_asNumber_0 : decode cX9_asNumber 0 = .ok (.iconst 0, 1) := by decide +kernel
theorem dX9_asNumber_1 : decode cX9_asNumber 1 = .ok (.istore_n 2, 1) := by decide +kernel
theorem dX9_asNumber_2 : decode cX9_asNumber 2 = .ok (.iconst 0, 1) := by decide +kernel
theorem dX9_asNumber_3 : decode cX9_asNumber 3 = .ok (.istore_n 3, 1) := by decide +kernel
theorem dX9_asNumber_4 : decode cX9_asNumber 4 = .ok (.iload_n 3, 1) := by decide +kernel
theorem dX9_asNumber_5 : decode cX9_asNumber 5 = .ok (.iconst 4, 1) := by decide +kernel
theorem dX9_asNumber_6 : decode cX9_asNumber 6 = .ok (.if_icmp .ge 41, 3) := by decide +kernel
theorem dX9_asNumber_9 : decode cX9_asNumber 9 = .ok (.bipush 9, 2) := by decide +kernel
theorem dX9_asNumber_11 : decode cX9_asNumber 11 = .ok (.iload_n 2, 1) := by decide +kernel
theorem dX9_asNumber_12 : decode cX9_asNumber 12 = .ok (.imul, 1) := by decide +kernel
theorem dX9_asNumber_13 : decode cX9_asNumber 13 = .ok (.iload_n 3, 1) := by decide +kernel
theorem dX9_asNumber_14 : decode cX9_asNumber 14 = .ok (.aload_n 0, 1) := by decide +kernel
theorem dX9_asNumber_15 : decode cX9_asNumber 15 = .ok (.getfield 32, 3) := by decide +kernel
theorem dX9_asNumber_18 : decode cX9_asNumber 18 = .ok (.iload_n 1, 1) := by decide +kernel
theorem dX9_asNumber_19 : decode cX9_asNumber 19 = .ok (.iaload, 1) := by decide +kernel
theorem dX9_asNumber_20 : decode cX9_asNumber 20 = .ok (.if_icmp .ge 18, 3) := by decide +kernel
theorem dX9_asNumber_23 : decode cX9_asNumber 23 = .ok (.aload_n 0, 1) := by decide +kernel
theorem dX9_asNumber_24 : decode cX9_asNumber 24 = .ok (.getfield 35, 3) := by decide +kernel
theorem dX9_asNumber_27 : decode cX9_asNumber 27 = .ok (.iconst 4, 1) := by decide +kernel
theorem dX9_asNumber_28 : decode cX9_asNumber 28 = .ok (.iload_n 1, 1) := by decide +kernel
theorem dX9_asNumber_29 : decode cX9_asNumber 29 = .ok (.imul, 1) := by decide +kernel
theorem dX9_asNumber_30 : decode cX9_asNumber 30 = .ok (.iload_n 3, 1) := by decide +kernel
theorem dX9_asNumber_31 : decode cX9_asNumber 31 = .ok (.iadd, 1) := by decide +kernel
theorem dX9_asNumber_32 : decode cX9_asNumber 32 = .ok (.iaload, 1) := by decide +kernel
theorem dX9_asNumber_33 : decode cX9_asNumber 33 = .ok (.iconst 1, 1) := by decide +kernel
theorem dX9_asNumber_34 : decode cX9_asNumber 34 = .ok (.iadd, 1) := by decide +kernel
theorem dX9_asNumber_35 : decode cX9_asNumber 35 = .ok (.goto 4, 3) := by decide +kernel
theorem dX9_asNumber_38 : decode cX9_asNumber 38 = .ok (.iconst 0, 1) := by decide +kernel
theorem dX9_asNumber_39 : decode cX9_asNumber 39 = .ok (.iadd, 1) := by decide +kernel
theorem dX9_asNumber_40 : decode cX9_asNumber 40 = .ok (.istore_n 2, 1) := by decide +kernel
theorem dX9_asNumber_41 : decode cX9_asNumber 41 = .ok (.iinc 3 1, 3) := by decide +kernel
theorem dX9_asNumber_44 : decode cX9_asNumber 44 = .ok (.goto (-40), 3) := by decide +kernel
theorem dX9_asNumber_47 : decode cX9_asNumber 47 = .ok (.iload_n 2, 1) := by decide +kernel
theorem dX9_asNumber_48 : decode cX9_asNumber 48 = .ok (.ireturn, 1) := by decide +kernel
theorem dX9_atRank_0 : decode cX9_atRank 0 = .ok (.iconst 0, 1) := by decide +kernel
theorem dX9_atRank_1 : decode cX9_atRank 1 = .ok (.istore_n 2, 1) := by decide +kernel
theorem dX9_atRank_2 : decode cX9_atRank 2 = .ok (.iload_n 2, 1) := by decide +kernel
theorem dX9_atRank_3 : decode cX9_atRank 3 = .ok (.aload_n 0, 1) := by decide +kernel
theorem dX9_atRank_4 : decode cX9_atRank 4 = .ok (.getfield 145, 3) := by decide +kernel
theorem dX9_atRank_7 : decode cX9_atRank 7 = .ok (.if_icmp .ge 58, 3) := by decide +kernel
theorem dX9_atRank_10 : decode cX9_atRank 10 = .ok (.iconst 0, 1) := by decide +kernel
theorem dX9_atRank_11 : decode cX9_atRank 11 = .ok (.istore_n 3, 1) := by decide +kernel
theorem dX9_atRank_12 : decode cX9_atRank 12 = .ok (.iconst 0, 1) := by decide +kernel
theorem dX9_atRank_13 : decode cX9_atRank 13 = .ok (.istore 4, 2) := by decide +kernel
theorem dX9_atRank_15 : decode cX9_atRank 15 = .ok (.iload 4, 2) := by decide +kernel
theorem dX9_atRank_17 : decode cX9_atRank 17 = .ok (.aload_n 0, 1) := by decide +kernel
theorem dX9_atRank_18 : decode cX9_atRank 18 = .ok (.getfield 145, 3) := by decide +kernel
theorem dX9_atRank_21 : decode cX9_atRank 21 = .ok (.if_icmp .ge 31, 3) := by decide +kernel
theorem dX9_atRank_24 : decode cX9_atRank 24 = .ok (.iload_n 3, 1) := by decide +kernel
theorem dX9_atRank_25 : decode cX9_atRank 25 = .ok (.aload_n 0, 1) := by decide +kernel
theorem dX9_atRank_26 : decode cX9_atRank 26 = .ok (.iload 4, 2) := by decide +kernel
theorem dX9_atRank_28 : decode cX9_atRank 28 = .ok (.invokevirtual 156, 3) := by decide +kernel
theorem dX9_atRank_31 : decode cX9_atRank 31 = .ok (.aload_n 0, 1) := by decide +kernel
theorem dX9_atRank_32 : decode cX9_atRank 32 = .ok (.iload_n 2, 1) := by decide +kernel
theorem dX9_atRank_33 : decode cX9_atRank 33 = .ok (.invokevirtual 156, 3) := by decide +kernel
theorem dX9_atRank_36 : decode cX9_atRank 36 = .ok (.if_icmp .ge 7, 3) := by decide +kernel
theorem dX9_atRank_39 : decode cX9_atRank 39 = .ok (.iconst 1, 1) := by decide +kernel
theorem dX9_atRank_40 : decode cX9_atRank 40 = .ok (.goto 4, 3) := by decide +kernel
theorem dX9_atRank_43 : decode cX9_atRank 43 = .ok (.iconst 0, 1) := by decide +kernel
theorem dX9_atRank_44 : decode cX9_atRank 44 = .ok (.iadd, 1) := by decide +kernel
theorem dX9_atRank_45 : decode cX9_atRank 45 = .ok (.istore_n 3, 1) := by decide +kernel
theorem dX9_atRank_46 : decode cX9_atRank 46 = .ok (.iinc 4 1, 3) := by decide +kernel
theorem dX9_atRank_49 : decode cX9_atRank 49 = .ok (.goto (-34), 3) := by decide +kernel
theorem dX9_atRank_52 : decode cX9_atRank 52 = .ok (.iload_n 3, 1) := by decide +kernel
theorem dX9_atRank_53 : decode cX9_atRank 53 = .ok (.iload_n 1, 1) := by decide +kernel
theorem dX9_atRank_54 : decode cX9_atRank 54 = .ok (.if_icmp .ne 5, 3) := by decide +kernel
theorem dX9_atRank_57 : decode cX9_atRank 57 = .ok (.iload_n 2, 1) := by decide +kernel
theorem dX9_atRank_58 : decode cX9_atRank 58 = .ok (.ireturn, 1) := by decide +kernel
theorem dX9_atRank_59 : decode cX9_atRank 59 = .ok (.iinc 2 1, 3) := by decide +kernel
theorem dX9_atRank_62 : decode cX9_atRank 62 = .ok (.goto (-60), 3) := by decide +kernel
theorem dX9_atRank_65 : decode cX9_atRank 65 = .ok (.bipush (-9), 2) := by decide +kernel
theorem dX9_atRank_67 : decode cX9_atRank 67 = .ok (.ireturn, 1) := by decide +kernel
theorem dX9_sorted_0 : decode cX9_sorted 0 = .ok (.iload_n 1, 1) := by decide +kernel
theorem dX9_sorted_1 : decode cX9_sorted 1 = .ok (.ifCond .ge 7, 3) := by decide +kernel
theorem dX9_sorted_4 : decode cX9_sorted 4 = .ok (.iconst (-1), 1) := by decide +kernel
theorem dX9_sorted_5 : decode cX9_sorted 5 = .ok (.goto 8, 3) := by decide +kernel
theorem dX9_sorted_8 : decode cX9_sorted 8 = .ok (.aload_n 0, 1) := by decide +kernel
theorem dX9_sorted_9 : decode cX9_sorted 9 = .ok (.iload_n 1, 1) := by decide +kernel
theorem dX9_sorted_10 : decode cX9_sorted 10 = .ok (.invokevirtual 160, 3) := by decide +kernel
theorem dX9_sorted_13 : decode cX9_sorted 13 = .ok (.ireturn, 1) := by decide +kernel
theorem dX9_first_0 : decode cX9_first 0 = .ok (.iload_n 1, 1) := by decide +kernel
theorem dX9_first_1 : decode cX9_first 1 = .ok (.i2l, 1) := by decide +kernel
theorem dX9_first_2 : decode cX9_first 2 = .ok (.lconst 0, 1) := by decide +kernel
theorem dX9_first_3 : decode cX9_first 3 = .ok (.ldc2_w 151, 3) := by decide +kernel
theorem dX9_first_6 : decode cX9_first 6 = .ok (.invokestatic 78, 3) := by decide +kernel
theorem dX9_first_9 : decode cX9_first 9 = .ok (.ifCond .ne 5, 3) := by decide +kernel
theorem dX9_first_12 : decode cX9_first 12 = .ok (.iconst (-1), 1) := by decide +kernel
theorem dX9_first_13 : decode cX9_first 13 = .ok (.ireturn, 1) := by decide +kernel
theorem dX9_first_14 : decode cX9_first 14 = .ok (.iconst 0, 1) := by decide +kernel
theorem dX9_first_15 : decode cX9_first 15 = .ok (.istore_n 2, 1) := by decide +kernel
theorem dX9_first_16 : decode cX9_first 16 = .ok (.iconst 0, 1) := by decide +kernel
theorem dX9_first_17 : decode cX9_first 17 = .ok (.istore_n 3, 1) := by decide +kernel
theorem dX9_first_18 : decode cX9_first 18 = .ok (.iload_n 3, 1) := by decide +kernel
theorem dX9_first_19 : decode cX9_first 19 = .ok (.aload_n 0, 1) := by decide +kernel
theorem dX9_first_20 : decode cX9_first 20 = .ok (.getfield 145, 3) := by decide +kernel
theorem dX9_first_23 : decode cX9_first 23 = .ok (.if_icmp .ge 29, 3) := by decide +kernel
theorem dX9_first_26 : decode cX9_first 26 = .ok (.iload_n 2, 1) := by decide +kernel
theorem dX9_first_27 : decode cX9_first 27 = .ok (.aload_n 0, 1) := by decide +kernel
theorem dX9_first_28 : decode cX9_first 28 = .ok (.getfield 35, 3) := by decide +kernel
theorem dX9_first_31 : decode cX9_first 31 = .ok (.iconst 4, 1) := by decide +kernel
theorem dX9_first_32 : decode cX9_first 32 = .ok (.iload_n 3, 1) := by decide +kernel
theorem dX9_first_33 : decode cX9_first 33 = .ok (.imul, 1) := by decide +kernel
theorem dX9_first_34 : decode cX9_first 34 = .ok (.iaload, 1) := by decide +kernel
theorem dX9_first_35 : decode cX9_first 35 = .ok (.iload_n 1, 1) := by decide +kernel
theorem dX9_first_36 : decode cX9_first 36 = .ok (.if_icmp .ge 7, 3) := by decide +kernel
theorem dX9_first_39 : decode cX9_first 39 = .ok (.iconst 1, 1) := by decide +kernel
theorem dX9_first_40 : decode cX9_first 40 = .ok (.goto 4, 3) := by decide +kernel
theorem dX9_first_43 : decode cX9_first 43 = .ok (.iconst 0, 1) := by decide +kernel
theorem dX9_first_44 : decode cX9_first 44 = .ok (.iadd, 1) := by decide +kernel
theorem dX9_first_45 : decode cX9_first 45 = .ok (.istore_n 2, 1) := by decide +kernel
theorem dX9_first_46 : decode cX9_first 46 = .ok (.iinc 3 1, 3) := by decide +kernel
theorem dX9_first_49 : decode cX9_first 49 = .ok (.goto (-31), 3) := by decide +kernel
theorem dX9_first_52 : decode cX9_first 52 = .ok (.aload_n 0, 1) := by decide +kernel
theorem dX9_first_53 : decode cX9_first 53 = .ok (.iload_n 2, 1) := by decide +kernel
theorem dX9_first_54 : decode cX9_first 54 = .ok (.invokevirtual 160, 3) := by decide +kernel
theorem dX9_first_57 : decode cX9_first 57 = .ok (.ireturn, 1) := by decide +kernel
theorem dX9_shownFor_0 : decode cX9_shownFor 0 = .ok (.iconst 0, 1) := by decide +kernel
theorem dX9_shownFor_1 : decode cX9_shownFor 1 = .ok (.istore 4, 2) := by decide +kernel
theorem dX9_shownFor_3 : decode cX9_shownFor 3 = .ok (.bipush (-9), 2) := by decide +kernel
theorem dX9_shownFor_5 : decode cX9_shownFor 5 = .ok (.istore 5, 2) := by decide +kernel
theorem dX9_shownFor_7 : decode cX9_shownFor 7 = .ok (.iload_n 2, 1) := by decide +kernel
theorem dX9_shownFor_8 : decode cX9_shownFor 8 = .ok (.iconst 1, 1) := by decide +kernel
theorem dX9_shownFor_9 : decode cX9_shownFor 9 = .ok (.isub, 1) := by decide +kernel
theorem dX9_shownFor_10 : decode cX9_shownFor 10 = .ok (.istore 6, 2) := by decide +kernel
theorem dX9_shownFor_12 : decode cX9_shownFor 12 = .ok (.iload 6, 2) := by decide +kernel
theorem dX9_shownFor_14 : decode cX9_shownFor 14 = .ok (.ifCond .lt 70, 3) := by decide +kernel
theorem dX9_shownFor_17 : decode cX9_shownFor 17 = .ok (.iload 4, 2) := by decide +kernel
theorem dX9_shownFor_19 : decode cX9_shownFor 19 = .ok (.ifCond .ne 14, 3) := by decide +kernel
theorem dX9_shownFor_22 : decode cX9_shownFor 22 = .ok (.aload_n 0, 1) := by decide +kernel
theorem dX9_shownFor_23 : decode cX9_shownFor 23 = .ok (.getfield 56, 3) := by decide +kernel
theorem dX9_shownFor_26 : decode cX9_shownFor 26 = .ok (.iload 6, 2) := by decide +kernel
theorem dX9_shownFor_28 : decode cX9_shownFor 28 = .ok (.iaload, 1) := by decide +kernel
theorem dX9_shownFor_29 : decode cX9_shownFor 29 = .ok (.iload_n 1, 1) := by decide +kernel
theorem dX9_shownFor_30 : decode cX9_shownFor 30 = .ok (.if_icmp .ne 7, 3) := by decide +kernel
theorem dX9_shownFor_33 : decode cX9_shownFor 33 = .ok (.iconst 1, 1) := by decide +kernel
theorem dX9_shownFor_34 : decode cX9_shownFor 34 = .ok (.goto 4, 3) := by decide +kernel
theorem dX9_shownFor_37 : decode cX9_shownFor 37 = .ok (.iconst 0, 1) := by decide +kernel
theorem dX9_shownFor_38 : decode cX9_shownFor 38 = .ok (.istore 4, 2) := by decide +kernel
theorem dX9_shownFor_40 : decode cX9_shownFor 40 = .ok (.iload 6, 2) := by decide +kernel
theorem dX9_shownFor_42 : decode cX9_shownFor 42 = .ok (.iconst 3, 1) := by decide +kernel
theorem dX9_shownFor_43 : decode cX9_shownFor 43 = .ok (.if_icmp .ge 31, 3) := by decide +kernel
theorem dX9_shownFor_46 : decode cX9_shownFor 46 = .ok (.aload_n 0, 1) := by decide +kernel
theorem dX9_shownFor_47 : decode cX9_shownFor 47 = .ok (.getfield 56, 3) := by decide +kernel
theorem dX9_shownFor_50 : decode cX9_shownFor 50 = .ok (.iload 6, 2) := by decide +kernel
theorem dX9_shownFor_52 : decode cX9_shownFor 52 = .ok (.iaload, 1) := by decide +kernel
theorem dX9_shownFor_53 : decode cX9_shownFor 53 = .ok (.iload_n 1, 1) := by decide +kernel
theorem dX9_shownFor_54 : decode cX9_shownFor 54 = .ok (.if_icmp .ne 20, 3) := by decide +kernel
theorem dX9_shownFor_57 : decode cX9_shownFor 57 = .ok (.iload_n 3, 1) := by decide +kernel
theorem dX9_shownFor_58 : decode cX9_shownFor 58 = .ok (.iload 6, 2) := by decide +kernel
theorem dX9_shownFor_60 : decode cX9_shownFor 60 = .ok (.ishr, 1) := by decide +kernel
theorem dX9_shownFor_61 : decode cX9_shownFor 61 = .ok (.iconst 1, 1) := by decide +kernel
theorem dX9_shownFor_62 : decode cX9_shownFor 62 = .ok (.iand, 1) := by decide +kernel
theorem dX9_shownFor_63 : decode cX9_shownFor 63 = .ok (.ifCond .ne 11, 3) := by decide +kernel
theorem dX9_shownFor_66 : decode cX9_shownFor 66 = .ok (.bipush 11, 2) := by decide +kernel
theorem dX9_shownFor_68 : decode cX9_shownFor 68 = .ok (.iload 6, 2) := by decide +kernel
theorem dX9_shownFor_70 : decode cX9_shownFor 70 = .ok (.iadd, 1) := by decide +kernel
theorem dX9_shownFor_71 : decode cX9_shownFor 71 = .ok (.goto 5, 3) := by decide +kernel
theorem dX9_shownFor_74 : decode cX9_shownFor 74 = .ok (.iload 5, 2) := by decide +kernel
theorem dX9_shownFor_76 : decode cX9_shownFor 76 = .ok (.istore 5, 2) := by decide +kernel
theorem dX9_shownFor_78 : decode cX9_shownFor 78 = .ok (.iinc 6 (-1), 3) := by decide +kernel
theorem dX9_shownFor_81 : decode cX9_shownFor 81 = .ok (.goto (-69), 3) := by decide +kernel
theorem dX9_shownFor_84 : decode cX9_shownFor 84 = .ok (.iload 4, 2) := by decide +kernel
theorem dX9_shownFor_86 : decode cX9_shownFor 86 = .ok (.ifCond .eq 8, 3) := by decide +kernel
theorem dX9_shownFor_89 : decode cX9_shownFor 89 = .ok (.iload 5, 2) := by decide +kernel
theorem dX9_shownFor_91 : decode cX9_shownFor 91 = .ok (.goto 4, 3) := by decide +kernel
theorem dX9_shownFor_94 : decode cX9_shownFor 94 = .ok (.iload_n 1, 1) := by decide +kernel
theorem dX9_shownFor_95 : decode cX9_shownFor 95 = .ok (.ireturn, 1) := by decide +kernel
theorem dX9_shows_0 : decode cX9_shows 0 = .ok (.iconst 0, 1) := by decide +kernel
theorem dX9_shows_1 : decode cX9_shows 1 = .ok (.istore_n 3, 1) := by decide +kernel
theorem dX9_shows_2 : decode cX9_shows 2 = .ok (.iconst 0, 1) := by decide +kernel
theorem dX9_shows_3 : decode cX9_shows 3 = .ok (.istore 4, 2) := by decide +kernel
theorem dX9_shows_5 : decode cX9_shows 5 = .ok (.iconst 0, 1) := by decide +kernel
theorem dX9_shows_6 : decode cX9_shows 6 = .ok (.istore 5, 2) := by decide +kernel
theorem dX9_shows_8 : decode cX9_shows 8 = .ok (.iload_n 1, 1) := by decide +kernel
theorem dX9_shows_9 : decode cX9_shows 9 = .ok (.istore 6, 2) := by decide +kernel
theorem dX9_shows_11 : decode cX9_shows 11 = .ok (.iload 6, 2) := by decide +kernel
theorem dX9_shows_13 : decode cX9_shows 13 = .ok (.iload_n 2, 1) := by decide +kernel
theorem dX9_shows_14 : decode cX9_shows 14 = .ok (.if_icmp .ge 175, 3) := by decide +kernel
theorem dX9_shows_17 : decode cX9_shows 17 = .ok (.iload 6, 2) := by decide +kernel
theorem dX9_shows_19 : decode cX9_shows 19 = .ok (.iload_n 1, 1) := by decide +kernel
theorem dX9_shows_20 : decode cX9_shows 20 = .ok (.if_icmp .ne 7, 3) := by decide +kernel
theorem dX9_shows_23 : decode cX9_shows 23 = .ok (.iconst 0, 1) := by decide +kernel
theorem dX9_shows_24 : decode cX9_shows 24 = .ok (.goto 4, 3) := by decide +kernel
theorem dX9_shows_27 : decode cX9_shows 27 = .ok (.iconst (-1), 1) := by decide +kernel
theorem dX9_shows_28 : decode cX9_shows 28 = .ok (.istore 7, 2) := by decide +kernel
theorem dX9_shows_30 : decode cX9_shows 30 = .ok (.iload 7, 2) := by decide +kernel
theorem dX9_shows_32 : decode cX9_shows 32 = .ok (.aload_n 0, 1) := by decide +kernel
theorem dX9_shows_33 : decode cX9_shows 33 = .ok (.getfield 32, 3) := by decide +kernel
theorem dX9_shows_36 : decode cX9_shows 36 = .ok (.aload_n 0, 1) := by decide +kernel
theorem dX9_shows_37 : decode cX9_shows 37 = .ok (.getfield 50, 3) := by decide +kernel
theorem dX9_shows_40 : decode cX9_shows 40 = .ok (.iload 6, 2) := by decide +kernel
theorem dX9_shows_42 : decode cX9_shows 42 = .ok (.iaload, 1) := by decide +kernel
theorem dX9_shows_43 : decode cX9_shows 43 = .ok (.iaload, 1) := by decide +kernel
theorem dX9_shows_44 : decode cX9_shows 44 = .ok (.if_icmp .ge 139, 3) := by decide +kernel
theorem dX9_shows_47 : decode cX9_shows 47 = .ok (.iload 7, 2) := by decide +kernel
theorem dX9_shows_49 : decode cX9_shows 49 = .ok (.ifCond .ge 8, 3) := by decide +kernel
theorem dX9_shows_52 : decode cX9_shows 52 = .ok (.bipush (-9), 2) := by decide +kernel
theorem dX9_shows_54 : decode cX9_shows 54 = .ok (.goto 20, 3) := by decide +kernel
theorem dX9_shows_57 : decode cX9_shows 57 = .ok (.aload_n 0, 1) := by decide +kernel
theorem dX9_shows_58 : decode cX9_shows 58 = .ok (.getfield 35, 3) := by decide +kernel
theorem dX9_shows_61 : decode cX9_shows 61 = .ok (.iconst 4, 1) := by decide +kernel
theorem dX9_shows_62 : decode cX9_shows 62 = .ok (.aload_n 0, 1) := by decide +kernel
theorem dX9_shows_63 : decode cX9_shows 63 = .ok (.getfield 50, 3) := by decide +kernel
theorem dX9_shows_66 : decode cX9_shows 66 = .ok (.iload 6, 2) := by decide +kernel
theorem dX9_shows_68 : decode cX9_shows 68 = .ok (.iaload, 1) := by decide +kernel
theorem dX9_shows_69 : decode cX9_shows 69 = .ok (.imul, 1) := by decide +kernel
theorem dX9_shows_70 : decode cX9_shows 70 = .ok (.iload 7, 2) := by decide +kernel
theorem dX9_shows_72 : decode cX9_shows 72 = .ok (.iadd, 1) := by decide +kernel
theorem dX9_shows_73 : decode cX9_shows 73 = .ok (.iaload, 1) := by decide +kernel
theorem dX9_shows_74 : decode cX9_shows 74 = .ok (.istore 8, 2) := by decide +kernel
theorem dX9_shows_76 : decode cX9_shows 76 = .ok (.iload 7, 2) := by decide +kernel
theorem dX9_shows_78 : decode cX9_shows 78 = .ok (.ifCond .ge 8, 3) := by decide +kernel
theorem dX9_shows_81 : decode cX9_shows 81 = .ok (.bipush 20, 2) := by decide +kernel
theorem dX9_shows_83 : decode cX9_shows 83 = .ok (.goto 13, 3) := by decide +kernel
theorem dX9_shows_86 : decode cX9_shows 86 = .ok (.aload_n 0, 1) := by decide +kernel
theorem dX9_shows_87 : decode cX9_shows 87 = .ok (.iload 8, 2) := by decide +kernel
theorem dX9_shows_89 : decode cX9_shows 89 = .ok (.iload 4, 2) := by decide +kernel
theorem dX9_shows_91 : decode cX9_shows 91 = .ok (.iload 5, 2) := by decide +kernel
theorem dX9_shows_93 : decode cX9_shows 93 = .ok (.invokevirtual 163, 3) := by decide +kernel
theorem dX9_shows_96 : decode cX9_shows 96 = .ok (.istore 9, 2) := by decide +kernel
theorem dX9_shows_98 : decode cX9_shows 98 = .ok (.iload_n 3, 1) := by decide +kernel
theorem dX9_shows_99 : decode cX9_shows 99 = .ok (.aload_n 0, 1) := by decide +kernel
theorem dX9_shows_100 : decode cX9_shows 100 = .ok (.getfield 7, 3) := by decide +kernel
theorem dX9_shows_103 : decode cX9_shows 103 = .ok (.bipush 9, 2) := by decide +kernel
theorem dX9_shows_105 : decode cX9_shows 105 = .ok (.iaload, 1) := by decide +kernel
theorem dX9_shows_106 : decode cX9_shows 106 = .ok (.if_icmp .eq 10, 3) := by decide +kernel
theorem dX9_shows_109 : decode cX9_shows 109 = .ok (.iload 9, 2) := by decide +kernel
theorem dX9_shows_111 : decode cX9_shows 111 = .ok (.bipush (-9), 2) := by decide +kernel
theorem dX9_shows_113 : decode cX9_shows 113 = .ok (.if_icmp .ne 6, 3) := by decide +kernel
theorem dX9_shows_116 : decode cX9_shows 116 = .ok (.bipush (-9), 2) := by decide +kernel
theorem dX9_shows_118 : decode cX9_shows 118 = .ok (.ireturn, 1) := by decide +kernel
theorem dX9_shows_119 : decode cX9_shows 119 = .ok (.aload_n 0, 1) := by decide +kernel
theorem dX9_shows_120 : decode cX9_shows 120 = .ok (.getfield 53, 3) := by decide +kernel
theorem dX9_shows_123 : decode cX9_shows 123 = .ok (.iload_n 3, 1) := by decide +kernel
theorem dX9_shows_124 : decode cX9_shows 124 = .ok (.iload 9, 2) := by decide +kernel
theorem dX9_shows_126 : decode cX9_shows 126 = .ok (.iastore, 1) := by decide +kernel
theorem dX9_shows_127 : decode cX9_shows 127 = .ok (.iinc 3 1, 3) := by decide +kernel
theorem dX9_shows_130 : decode cX9_shows 130 = .ok (.iload 5, 2) := by decide +kernel

/-! decode rows -/
theorem dX9_shows_132 : decode cX9_shows 132 = .ok (.iload 9, 2) := by decide +kernel
theorem dX9_shows_134 : decode cX9_shows 134 = .ok (.bipush 10, 2) := by decide +kernel
theorem dX9_shows_136 : decode cX9_shows 136 = .ok (.if_icmp .le 20, 3) := by decide +kernel
theorem dX9_shows_139 : decode cX9_shows 139 = .ok (.iload 9, 2) := by decide +kernel
theorem dX9_shows_141 : decode cX9_shows 141 = .ok (.bipush 20, 2) := by decide +kernel
theorem dX9_shows_143 : decode cX9_shows 143 = .ok (.if_icmp .ge 13, 3) := by decide +kernel
theorem dX9_shows_146 : decode cX9_shows 146 = .ok (.iconst 1, 1) := by decide +kernel
theorem dX9_shows_147 : decode cX9_shows 147 = .ok (.iload 9, 2) := by decide +kernel
theorem dX9_shows_149 : decode cX9_shows 149 = .ok (.bipush 11, 2) := by decide +kernel
theorem dX9_shows_151 : decode cX9_shows 151 = .ok (.isub, 1) := by decide +kernel
theorem dX9_shows_152 : decode cX9_shows 152 = .ok (.ishl, 1) := by decide +kernel
theorem dX9_shows_153 : decode cX9_shows 153 = .ok (.goto 4, 3) := by decide +kernel
theorem dX9_shows_156 : decode cX9_shows 156 = .ok (.iconst 0, 1) := by decide +kernel
theorem dX9_shows_157 : decode cX9_shows 157 = .ok (.ior, 1) := by decide +kernel
theorem dX9_shows_158 : decode cX9_shows 158 = .ok (.istore 5, 2) := by decide +kernel
theorem dX9_shows_160 : decode cX9_shows 160 = .ok (.iload 7, 2) := by decide +kernel
theorem dX9_shows_162 : decode cX9_shows 162 = .ok (.ifCond .lt 15, 3) := by decide +kernel
theorem dX9_shows_165 : decode cX9_shows 165 = .ok (.aload_n 0, 1) := by decide +kernel
theorem dX9_shows_166 : decode cX9_shows 166 = .ok (.getfield 56, 3) := by decide +kernel
theorem dX9_shows_169 : decode cX9_shows 169 = .ok (.iload 4, 2) := by decide +kernel
theorem dX9_shows_171 : decode cX9_shows 171 = .ok (.iload 8, 2) := by decide +kernel
theorem dX9_shows_173 : decode cX9_shows 173 = .ok (.iastore, 1) := by decide +kernel
theorem dX9_shows_174 : decode cX9_shows 174 = .ok (.iinc 4 1, 3) := by decide +kernel
theorem dX9_shows_177 : decode cX9_shows 177 = .ok (.iinc 7 1, 3) := by decide +kernel
theorem dX9_shows_180 : decode cX9_shows 180 = .ok (.goto (-150), 3) := by decide +kernel
theorem dX9_shows_183 : decode cX9_shows 183 = .ok (.iinc 6 1, 3) := by decide +kernel
theorem dX9_shows_186 : decode cX9_shows 186 = .ok (.goto (-175), 3) := by decide +kernel
theorem dX9_shows_189 : decode cX9_shows 189 = .ok (.iload_n 3, 1) := by decide +kernel
theorem dX9_shows_190 : decode cX9_shows 190 = .ok (.ireturn, 1) := by decide +kernel
theorem dX9_cutBy_0 : decode cX9_cutBy 0 = .ok (.iconst 0, 1) := by decide +kernel
theorem dX9_cutBy_1 : decode cX9_cutBy 1 = .ok (.istore_n 2, 1) := by decide +kernel
theorem dX9_cutBy_2 : decode cX9_cutBy 2 = .ok (.iconst 0, 1) := by decide +kernel
theorem dX9_cutBy_3 : decode cX9_cutBy 3 = .ok (.istore_n 3, 1) := by decide +kernel
theorem dX9_cutBy_4 : decode cX9_cutBy 4 = .ok (.iconst 1, 1) := by decide +kernel
theorem dX9_cutBy_5 : decode cX9_cutBy 5 = .ok (.istore 4, 2) := by decide +kernel
theorem dX9_cutBy_7 : decode cX9_cutBy 7 = .ok (.iload 4, 2) := by decide +kernel
theorem dX9_cutBy_9 : decode cX9_cutBy 9 = .ok (.aload_n 0, 1) := by decide +kernel
theorem dX9_cutBy_10 : decode cX9_cutBy 10 = .ok (.getfield 167, 3) := by decide +kernel
theorem dX9_cutBy_13 : decode cX9_cutBy 13 = .ok (.if_icmp .gt 63, 3) := by decide +kernel
theorem dX9_cutBy_16 : decode cX9_cutBy 16 = .ok (.iload 4, 2) := by decide +kernel
theorem dX9_cutBy_18 : decode cX9_cutBy 18 = .ok (.aload_n 0, 1) := by decide +kernel
theorem dX9_cutBy_19 : decode cX9_cutBy 19 = .ok (.getfield 167, 3) := by decide +kernel
theorem dX9_cutBy_22 : decode cX9_cutBy 22 = .ok (.if_icmp .eq 20, 3) := by decide +kernel
theorem dX9_cutBy_25 : decode cX9_cutBy 25 = .ok (.iload_n 1, 1) := by decide +kernel
theorem dX9_cutBy_26 : decode cX9_cutBy 26 = .ok (.aload_n 0, 1) := by decide +kernel
theorem dX9_cutBy_27 : decode cX9_cutBy 27 = .ok (.getfield 167, 3) := by decide +kernel
theorem dX9_cutBy_30 : decode cX9_cutBy 30 = .ok (.iconst 1, 1) := by decide +kernel
theorem dX9_cutBy_31 : decode cX9_cutBy 31 = .ok (.isub, 1) := by decide +kernel
theorem dX9_cutBy_32 : decode cX9_cutBy 32 = .ok (.iload 4, 2) := by decide +kernel
theorem dX9_cutBy_34 : decode cX9_cutBy 34 = .ok (.isub, 1) := by decide +kernel
theorem dX9_cutBy_35 : decode cX9_cutBy 35 = .ok (.ishr, 1) := by decide +kernel
theorem dX9_cutBy_36 : decode cX9_cutBy 36 = .ok (.iconst 1, 1) := by decide +kernel
theorem dX9_cutBy_37 : decode cX9_cutBy 37 = .ok (.iand, 1) := by decide +kernel
theorem dX9_cutBy_38 : decode cX9_cutBy 38 = .ok (.iconst 1, 1) := by decide +kernel
theorem dX9_cutBy_39 : decode cX9_cutBy 39 = .ok (.if_icmp .ne 31, 3) := by decide +kernel
theorem dX9_cutBy_42 : decode cX9_cutBy 42 = .ok (.aload_n 0, 1) := by decide +kernel
theorem dX9_cutBy_43 : decode cX9_cutBy 43 = .ok (.iload_n 3, 1) := by decide +kernel
theorem dX9_cutBy_44 : decode cX9_cutBy 44 = .ok (.iload 4, 2) := by decide +kernel
theorem dX9_cutBy_46 : decode cX9_cutBy 46 = .ok (.invokevirtual 170, 3) := by decide +kernel
theorem dX9_cutBy_49 : decode cX9_cutBy 49 = .ok (.bipush (-9), 2) := by decide +kernel
theorem dX9_cutBy_51 : decode cX9_cutBy 51 = .ok (.if_icmp .ne 6, 3) := by decide +kernel
theorem dX9_cutBy_54 : decode cX9_cutBy 54 = .ok (.bipush (-9), 2) := by decide +kernel
theorem dX9_cutBy_56 : decode cX9_cutBy 56 = .ok (.ireturn, 1) := by decide +kernel
theorem dX9_cutBy_57 : decode cX9_cutBy 57 = .ok (.aload_n 0, 1) := by decide +kernel
theorem dX9_cutBy_58 : decode cX9_cutBy 58 = .ok (.getfield 59, 3) := by decide +kernel
theorem dX9_cutBy_61 : decode cX9_cutBy 61 = .ok (.iload_n 2, 1) := by decide +kernel
theorem dX9_cutBy_62 : decode cX9_cutBy 62 = .ok (.iload_n 3, 1) := by decide +kernel
theorem dX9_cutBy_63 : decode cX9_cutBy 63 = .ok (.iastore, 1) := by decide +kernel
theorem dX9_cutBy_64 : decode cX9_cutBy 64 = .ok (.iinc 2 1, 3) := by decide +kernel
theorem dX9_cutBy_67 : decode cX9_cutBy 67 = .ok (.iload 4, 2) := by decide +kernel
theorem dX9_cutBy_69 : decode cX9_cutBy 69 = .ok (.istore_n 3, 1) := by decide +kernel
theorem dX9_cutBy_70 : decode cX9_cutBy 70 = .ok (.iinc 4 1, 3) := by decide +kernel
theorem dX9_cutBy_73 : decode cX9_cutBy 73 = .ok (.goto (-66), 3) := by decide +kernel
theorem dX9_cutBy_76 : decode cX9_cutBy 76 = .ok (.aload_n 0, 1) := by decide +kernel
theorem dX9_cutBy_77 : decode cX9_cutBy 77 = .ok (.getfield 59, 3) := by decide +kernel
theorem dX9_cutBy_80 : decode cX9_cutBy 80 = .ok (.iload_n 2, 1) := by decide +kernel
theorem dX9_cutBy_81 : decode cX9_cutBy 81 = .ok (.aload_n 0, 1) := by decide +kernel
theorem dX9_cutBy_82 : decode cX9_cutBy 82 = .ok (.getfield 167, 3) := by decide +kernel
theorem dX9_cutBy_85 : decode cX9_cutBy 85 = .ok (.iastore, 1) := by decide +kernel
theorem dX9_cutBy_86 : decode cX9_cutBy 86 = .ok (.iload_n 2, 1) := by decide +kernel
theorem dX9_cutBy_87 : decode cX9_cutBy 87 = .ok (.ireturn, 1) := by decide +kernel
theorem dX9_makes_0 : decode cX9_makes 0 = .ok (.aload_n 0, 1) := by decide +kernel
theorem dX9_makes_1 : decode cX9_makes 1 = .ok (.iconst 0, 1) := by decide +kernel
theorem dX9_makes_2 : decode cX9_makes 2 = .ok (.putfield 167, 3) := by decide +kernel
theorem dX9_makes_5 : decode cX9_makes 5 = .ok (.iconst 0, 1) := by decide +kernel
theorem dX9_makes_6 : decode cX9_makes 6 = .ok (.istore_n 2, 1) := by decide +kernel
theorem dX9_makes_7 : decode cX9_makes 7 = .ok (.iload_n 2, 1) := by decide +kernel
theorem dX9_makes_8 : decode cX9_makes 8 = .ok (.aload_n 0, 1) := by decide +kernel
theorem dX9_makes_9 : decode cX9_makes 9 = .ok (.getfield 7, 3) := by decide +kernel
theorem dX9_makes_12 : decode cX9_makes 12 = .ok (.iconst 0, 1) := by decide +kernel
theorem dX9_makes_13 : decode cX9_makes 13 = .ok (.iaload, 1) := by decide +kernel
theorem dX9_makes_14 : decode cX9_makes 14 = .ok (.if_icmp .ge 41, 3) := by decide +kernel
theorem dX9_makes_17 : decode cX9_makes 17 = .ok (.iload_n 2, 1) := by decide +kernel
theorem dX9_makes_18 : decode cX9_makes 18 = .ok (.iload_n 1, 1) := by decide +kernel
theorem dX9_makes_19 : decode cX9_makes 19 = .ok (.if_icmp .eq 30, 3) := by decide +kernel
theorem dX9_makes_22 : decode cX9_makes 22 = .ok (.aload_n 0, 1) := by decide +kernel
theorem dX9_makes_23 : decode cX9_makes 23 = .ok (.getfield 50, 3) := by decide +kernel
theorem dX9_makes_26 : decode cX9_makes 26 = .ok (.aload_n 0, 1) := by decide +kernel
theorem dX9_makes_27 : decode cX9_makes 27 = .ok (.getfield 167, 3) := by decide +kernel
theorem dX9_makes_30 : decode cX9_makes 30 = .ok (.aload_n 0, 1) := by decide +kernel
theorem dX9_makes_31 : decode cX9_makes 31 = .ok (.getfield 7, 3) := by decide +kernel
theorem dX9_makes_34 : decode cX9_makes 34 = .ok (.iconst 1, 1) := by decide +kernel
theorem dX9_makes_35 : decode cX9_makes 35 = .ok (.iload_n 2, 1) := by decide +kernel
theorem dX9_makes_36 : decode cX9_makes 36 = .ok (.iadd, 1) := by decide +kernel
theorem dX9_makes_37 : decode cX9_makes 37 = .ok (.iaload, 1) := by decide +kernel
theorem dX9_makes_38 : decode cX9_makes 38 = .ok (.iastore, 1) := by decide +kernel
theorem dX9_makes_39 : decode cX9_makes 39 = .ok (.aload_n 0, 1) := by decide +kernel
theorem dX9_makes_40 : decode cX9_makes 40 = .ok (.dup, 1) := by decide +kernel
theorem dX9_makes_41 : decode cX9_makes 41 = .ok (.getfield 167, 3) := by decide +kernel
theorem dX9_makes_44 : decode cX9_makes 44 = .ok (.iconst 1, 1) := by decide +kernel
theorem dX9_makes_45 : decode cX9_makes 45 = .ok (.iadd, 1) := by decide +kernel
theorem dX9_makes_46 : decode cX9_makes 46 = .ok (.putfield 167, 3) := by decide +kernel
theorem dX9_makes_49 : decode cX9_makes 49 = .ok (.iinc 2 1, 3) := by decide +kernel
theorem dX9_makes_52 : decode cX9_makes 52 = .ok (.goto (-45), 3) := by decide +kernel
theorem dX9_makes_55 : decode cX9_makes 55 = .ok (.aload_n 0, 1) := by decide +kernel
theorem dX9_makes_56 : decode cX9_makes 56 = .ok (.bipush (-9), 2) := by decide +kernel
theorem dX9_makes_58 : decode cX9_makes 58 = .ok (.putfield 174, 3) := by decide +kernel
theorem dX9_makes_61 : decode cX9_makes 61 = .ok (.iconst 0, 1) := by decide +kernel
theorem dX9_makes_62 : decode cX9_makes 62 = .ok (.istore_n 2, 1) := by decide +kernel
theorem dX9_makes_63 : decode cX9_makes 63 = .ok (.aload_n 0, 1) := by decide +kernel
theorem dX9_makes_64 : decode cX9_makes 64 = .ok (.getfield 167, 3) := by decide +kernel
theorem dX9_makes_67 : decode cX9_makes 67 = .ok (.ifCond .ne 7, 3) := by decide +kernel
theorem dX9_makes_70 : decode cX9_makes 70 = .ok (.iconst 1, 1) := by decide +kernel
theorem dX9_makes_71 : decode cX9_makes 71 = .ok (.goto 11, 3) := by decide +kernel
theorem dX9_makes_74 : decode cX9_makes 74 = .ok (.iconst 1, 1) := by decide +kernel
theorem dX9_makes_75 : decode cX9_makes 75 = .ok (.aload_n 0, 1) := by decide +kernel
theorem dX9_makes_76 : decode cX9_makes 76 = .ok (.getfield 167, 3) := by decide +kernel
theorem dX9_makes_79 : decode cX9_makes 79 = .ok (.iconst 1, 1) := by decide +kernel
theorem dX9_makes_80 : decode cX9_makes 80 = .ok (.isub, 1) := by decide +kernel
theorem dX9_makes_81 : decode cX9_makes 81 = .ok (.ishl, 1) := by decide +kernel
theorem dX9_makes_82 : decode cX9_makes 82 = .ok (.istore_n 3, 1) := by decide +kernel
theorem dX9_makes_83 : decode cX9_makes 83 = .ok (.iconst 0, 1) := by decide +kernel
theorem dX9_makes_84 : decode cX9_makes 84 = .ok (.istore 4, 2) := by decide +kernel
theorem dX9_makes_86 : decode cX9_makes 86 = .ok (.iload 4, 2) := by decide +kernel
theorem dX9_makes_88 : decode cX9_makes 88 = .ok (.iload_n 3, 1) := by decide +kernel
theorem dX9_makes_89 : decode cX9_makes 89 = .ok (.if_icmp .ge 51, 3) := by decide +kernel
theorem dX9_makes_92 : decode cX9_makes 92 = .ok (.aload_n 0, 1) := by decide +kernel
theorem dX9_makes_93 : decode cX9_makes 93 = .ok (.iload 4, 2) := by decide +kernel
theorem dX9_makes_95 : decode cX9_makes 95 = .ok (.invokevirtual 177, 3) := by decide +kernel
theorem dX9_makes_98 : decode cX9_makes 98 = .ok (.istore 5, 2) := by decide +kernel
theorem dX9_makes_100 : decode cX9_makes 100 = .ok (.iload 5, 2) := by decide +kernel
theorem dX9_makes_102 : decode cX9_makes 102 = .ok (.bipush (-9), 2) := by decide +kernel
theorem dX9_makes_104 : decode cX9_makes 104 = .ok (.if_icmp .eq 30, 3) := by decide +kernel
theorem dX9_makes_107 : decode cX9_makes 107 = .ok (.aload_n 0, 1) := by decide +kernel
theorem dX9_makes_108 : decode cX9_makes 108 = .ok (.getfield 174, 3) := by decide +kernel
theorem dX9_makes_111 : decode cX9_makes 111 = .ok (.bipush (-9), 2) := by decide +kernel
theorem dX9_makes_113 : decode cX9_makes 113 = .ok (.if_icmp .eq 12, 3) := by decide +kernel
theorem dX9_makes_116 : decode cX9_makes 116 = .ok (.iload 5, 2) := by decide +kernel
theorem dX9_makes_118 : decode cX9_makes 118 = .ok (.aload_n 0, 1) := by decide +kernel
theorem dX9_makes_119 : decode cX9_makes 119 = .ok (.getfield 174, 3) := by decide +kernel
theorem dX9_makes_122 : decode cX9_makes 122 = .ok (.if_icmp .ge 12, 3) := by decide +kernel
theorem dX9_makes_125 : decode cX9_makes 125 = .ok (.aload_n 0, 1) := by decide +kernel
theorem dX9_makes_126 : decode cX9_makes 126 = .ok (.iload 5, 2) := by decide +kernel
theorem dX9_makes_128 : decode cX9_makes 128 = .ok (.putfield 174, 3) := by decide +kernel
theorem dX9_makes_131 : decode cX9_makes 131 = .ok (.iload 4, 2) := by decide +kernel
theorem dX9_makes_133 : decode cX9_makes 133 = .ok (.istore_n 2, 1) := by decide +kernel
theorem dX9_makes_134 : decode cX9_makes 134 = .ok (.iinc 4 1, 3) := by decide +kernel
theorem dX9_makes_137 : decode cX9_makes 137 = .ok (.goto (-51), 3) := by decide +kernel
theorem dX9_makes_140 : decode cX9_makes 140 = .ok (.aload_n 0, 1) := by decide +kernel
theorem dX9_makes_141 : decode cX9_makes 141 = .ok (.getfield 174, 3) := by decide +kernel
theorem dX9_makes_144 : decode cX9_makes 144 = .ok (.bipush (-9), 2) := by decide +kernel
theorem dX9_makes_146 : decode cX9_makes 146 = .ok (.if_icmp .eq 9, 3) := by decide +kernel
theorem dX9_makes_149 : decode cX9_makes 149 = .ok (.aload_n 0, 1) := by decide +kernel
theorem dX9_makes_150 : decode cX9_makes 150 = .ok (.iload_n 2, 1) := by decide +kernel
theorem dX9_makes_151 : decode cX9_makes 151 = .ok (.invokevirtual 177, 3) := by decide +kernel
theorem dX9_makes_154 : decode cX9_makes 154 = .ok (.pop, 1) := by decide +kernel
theorem dX9_makes_155 : decode cX9_makes 155 = .ok (.return_, 1) := by decide +kernel
theorem dX9_things_0 : decode cX9_things 0 = .ok (.iload_n 1, 1) := by decide +kernel
theorem dX9_things_1 : decode cX9_things 1 = .ok (.i2l, 1) := by decide +kernel
theorem dX9_things_2 : decode cX9_things 2 = .ok (.lconst 0, 1) := by decide +kernel
theorem dX9_things_3 : decode cX9_things 3 = .ok (.aload_n 0, 1) := by decide +kernel
theorem dX9_things_4 : decode cX9_things 4 = .ok (.getfield 174, 3) := by decide +kernel
theorem dX9_things_7 : decode cX9_things 7 = .ok (.iconst 1, 1) := by decide +kernel
theorem dX9_things_8 : decode cX9_things 8 = .ok (.isub, 1) := by decide +kernel
theorem dX9_things_9 : decode cX9_things 9 = .ok (.i2l, 1) := by decide +kernel
theorem dX9_things_10 : decode cX9_things 10 = .ok (.invokestatic 78, 3) := by decide +kernel
theorem dX9_things_13 : decode cX9_things 13 = .ok (.ifCond .eq 24, 3) := by decide +kernel
theorem dX9_things_16 : decode cX9_things 16 = .ok (.aload_n 0, 1) := by decide +kernel
theorem dX9_things_17 : decode cX9_things 17 = .ok (.aload_n 0, 1) := by decide +kernel
theorem dX9_things_18 : decode cX9_things 18 = .ok (.getfield 59, 3) := by decide +kernel
theorem dX9_things_21 : decode cX9_things 21 = .ok (.iload_n 1, 1) := by decide +kernel
theorem dX9_things_22 : decode cX9_things 22 = .ok (.iaload, 1) := by decide +kernel
theorem dX9_things_23 : decode cX9_things 23 = .ok (.aload_n 0, 1) := by decide +kernel
theorem dX9_things_24 : decode cX9_things 24 = .ok (.getfield 59, 3) := by decide +kernel
theorem dX9_things_27 : decode cX9_things 27 = .ok (.iload_n 1, 1) := by decide +kernel
theorem dX9_things_28 : decode cX9_things 28 = .ok (.iconst 1, 1) := by decide +kernel
theorem dX9_things_29 : decode cX9_things 29 = .ok (.iadd, 1) := by decide +kernel
theorem dX9_things_30 : decode cX9_things 30 = .ok (.iaload, 1) := by decide +kernel
theorem dX9_things_31 : decode cX9_things 31 = .ok (.invokevirtual 170, 3) := by decide +kernel
theorem dX9_things_34 : decode cX9_things 34 = .ok (.goto 5, 3) := by decide +kernel
theorem dX9_things_37 : decode cX9_things 37 = .ok (.bipush (-9), 2) := by decide +kernel
theorem dX9_things_39 : decode cX9_things 39 = .ok (.ireturn, 1) := by decide +kernel
theorem dX9_message_0 : decode cX9_message 0 = .ok (.iload_n 1, 1) := by decide +kernel
theorem dX9_message_1 : decode cX9_message 1 = .ok (.i2l, 1) := by decide +kernel
theorem dX9_message_2 : decode cX9_message 2 = .ok (.lconst 0, 1) := by decide +kernel
theorem dX9_message_3 : decode cX9_message 3 = .ok (.aload_n 0, 1) := by decide +kernel
theorem dX9_message_4 : decode cX9_message 4 = .ok (.getfield 7, 3) := by decide +kernel
theorem dX9_message_7 : decode cX9_message 7 = .ok (.iconst 0, 1) := by decide +kernel
theorem dX9_message_8 : decode cX9_message 8 = .ok (.iaload, 1) := by decide +kernel
theorem dX9_message_9 : decode cX9_message 9 = .ok (.iconst 1, 1) := by decide +kernel
theorem dX9_message_10 : decode cX9_message 10 = .ok (.isub, 1) := by decide +kernel
theorem dX9_message_11 : decode cX9_message 11 = .ok (.i2l, 1) := by decide +kernel
theorem dX9_message_12 : decode cX9_message 12 = .ok (.invokestatic 78, 3) := by decide +kernel
theorem dX9_message_15 : decode cX9_message 15 = .ok (.ifCond .eq 14, 3) := by decide +kernel
theorem dX9_message_18 : decode cX9_message 18 = .ok (.aload_n 0, 1) := by decide +kernel
theorem dX9_message_19 : decode cX9_message 19 = .ok (.getfield 7, 3) := by decide +kernel
theorem dX9_message_22 : decode cX9_message 22 = .ok (.iconst 1, 1) := by decide +kernel
theorem dX9_message_23 : decode cX9_message 23 = .ok (.iload_n 1, 1) := by decide +kernel
theorem dX9_message_24 : decode cX9_message 24 = .ok (.iadd, 1) := by decide +kernel
theorem dX9_message_25 : decode cX9_message 25 = .ok (.iaload, 1) := by decide +kernel
theorem dX9_message_26 : decode cX9_message 26 = .ok (.goto 4, 3) := by decide +kernel
theorem dX9_message_29 : decode cX9_message 29 = .ok (.iconst (-1), 1) := by decide +kernel
theorem dX9_message_30 : decode cX9_message 30 = .ok (.ireturn, 1) := by decide +kernel
theorem dX9_hoist_0 : decode cX9_hoist 0 = .ok (.iload_n 1, 1) := by decide +kernel
theorem dX9_hoist_1 : decode cX9_hoist 1 = .ok (.ifCond .lt 15, 3) := by decide +kernel
theorem dX9_hoist_4 : decode cX9_hoist 4 = .ok (.iload_n 2, 1) := by decide +kernel
theorem dX9_hoist_5 : decode cX9_hoist 5 = .ok (.i2l, 1) := by decide +kernel
theorem dX9_hoist_6 : decode cX9_hoist 6 = .ok (.lconst 0, 1) := by decide +kernel
theorem dX9_hoist_7 : decode cX9_hoist 7 = .ok (.ldc2_w 180, 3) := by decide +kernel
theorem dX9_hoist_10 : decode cX9_hoist 10 = .ok (.invokestatic 78, 3) := by decide +kernel
theorem dX9_hoist_13 : decode cX9_hoist 13 = .ok (.ifCond .ne 5, 3) := by decide +kernel
theorem dX9_hoist_16 : decode cX9_hoist 16 = .ok (.iconst (-1), 1) := by decide +kernel
theorem dX9_hoist_17 : decode cX9_hoist 17 = .ok (.ireturn, 1) := by decide +kernel
theorem dX9_hoist_18 : decode cX9_hoist 18 = .ok (.aload_n 0, 1) := by decide +kernel
theorem dX9_hoist_19 : decode cX9_hoist 19 = .ok (.bipush (-9), 2) := by decide +kernel
theorem dX9_hoist_21 : decode cX9_hoist 21 = .ok (.invokevirtual 182, 3) := by decide +kernel
theorem dX9_hoist_24 : decode cX9_hoist 24 = .ok (.aload_n 0, 1) := by decide +kernel
theorem dX9_hoist_25 : decode cX9_hoist 25 = .ok (.iload_n 1, 1) := by decide +kernel
theorem dX9_hoist_26 : decode cX9_hoist 26 = .ok (.invokevirtual 186, 3) := by decide +kernel
theorem dX9_hoist_29 : decode cX9_hoist 29 = .ok (.istore_n 3, 1) := by decide +kernel
theorem dX9_hoist_30 : decode cX9_hoist 30 = .ok (.iload_n 3, 1) := by decide +kernel
theorem dX9_hoist_31 : decode cX9_hoist 31 = .ok (.bipush (-9), 2) := by decide +kernel
theorem dX9_hoist_33 : decode cX9_hoist 33 = .ok (.if_icmp .eq 8, 3) := by decide +kernel
theorem dX9_hoist_36 : decode cX9_hoist 36 = .ok (.iload_n 2, 1) := by decide +kernel
theorem dX9_hoist_37 : decode cX9_hoist 37 = .ok (.iconst 2, 1) := by decide +kernel
theorem dX9_hoist_38 : decode cX9_hoist 38 = .ok (.if_icmp .ne 5, 3) := by decide +kernel
theorem dX9_hoist_41 : decode cX9_hoist 41 = .ok (.iload_n 3, 1) := by decide +kernel
theorem dX9_hoist_42 : decode cX9_hoist 42 = .ok (.ireturn, 1) := by decide +kernel
theorem dX9_hoist_43 : decode cX9_hoist 43 = .ok (.iconst 0, 1) := by decide +kernel
theorem dX9_hoist_44 : decode cX9_hoist 44 = .ok (.istore 4, 2) := by decide +kernel
theorem dX9_hoist_46 : decode cX9_hoist 46 = .ok (.iconst 0, 1) := by decide +kernel
theorem dX9_hoist_47 : decode cX9_hoist 47 = .ok (.istore 5, 2) := by decide +kernel
theorem dX9_hoist_49 : decode cX9_hoist 49 = .ok (.iload 5, 2) := by decide +kernel
theorem dX9_hoist_51 : decode cX9_hoist 51 = .ok (.iload_n 3, 1) := by decide +kernel
theorem dX9_hoist_52 : decode cX9_hoist 52 = .ok (.if_icmp .ge 39, 3) := by decide +kernel
theorem dX9_hoist_55 : decode cX9_hoist 55 = .ok (.iload 4, 2) := by decide +kernel
theorem dX9_hoist_57 : decode cX9_hoist 57 = .ok (.aload_n 0, 1) := by decide +kernel
theorem dX9_hoist_58 : decode cX9_hoist 58 = .ok (.getfield 53, 3) := by decide +kernel
theorem dX9_hoist_61 : decode cX9_hoist 61 = .ok (.iload 5, 2) := by decide +kernel
theorem dX9_hoist_63 : decode cX9_hoist 63 = .ok (.iaload, 1) := by decide +kernel
theorem dX9_hoist_64 : decode cX9_hoist 64 = .ok (.i2l, 1) := by decide +kernel
theorem dX9_hoist_65 : decode cX9_hoist 65 = .ok (.ldc2_w 189, 3) := by decide +kernel
theorem dX9_hoist_68 : decode cX9_hoist 68 = .ok (.ldc2_w 191, 3) := by decide +kernel
theorem dX9_hoist_71 : decode cX9_hoist 71 = .ok (.invokestatic 78, 3) := by decide +kernel
theorem dX9_hoist_74 : decode cX9_hoist 74 = .ok (.ifCond .eq 7, 3) := by decide +kernel
theorem dX9_hoist_77 : decode cX9_hoist 77 = .ok (.iconst 1, 1) := by decide +kernel
theorem dX9_hoist_78 : decode cX9_hoist 78 = .ok (.goto 4, 3) := by decide +kernel
theorem dX9_hoist_81 : decode cX9_hoist 81 = .ok (.iconst 0, 1) := by decide +kernel
theorem dX9_hoist_82 : decode cX9_hoist 82 = .ok (.iadd, 1) := by decide +kernel
theorem dX9_hoist_83 : decode cX9_hoist 83 = .ok (.istore 4, 2) := by decide +kernel
theorem dX9_hoist_85 : decode cX9_hoist 85 = .ok (.iinc 5 1, 3) := by decide +kernel
theorem dX9_hoist_88 : decode cX9_hoist 88 = .ok (.goto (-39), 3) := by decide +kernel
theorem dX9_hoist_91 : decode cX9_hoist 91 = .ok (.iload_n 2, 1) := by decide +kernel
theorem dX9_hoist_92 : decode cX9_hoist 92 = .ok (.ifCond .ne 12, 3) := by decide +kernel
theorem dX9_hoist_95 : decode cX9_hoist 95 = .ok (.aload_n 0, 1) := by decide +kernel
theorem dX9_hoist_96 : decode cX9_hoist 96 = .ok (.getfield 59, 3) := by decide +kernel
theorem dX9_hoist_99 : decode cX9_hoist 99 = .ok (.iload_n 1, 1) := by decide +kernel
theorem dX9_hoist_100 : decode cX9_hoist 100 = .ok (.iaload, 1) := by decide +kernel
theorem dX9_hoist_101 : decode cX9_hoist 101 = .ok (.goto 28, 3) := by decide +kernel
theorem dX9_hoist_104 : decode cX9_hoist 104 = .ok (.iload_n 2, 1) := by decide +kernel
theorem dX9_hoist_105 : decode cX9_hoist 105 = .ok (.iconst 1, 1) := by decide +kernel
theorem dX9_hoist_106 : decode cX9_hoist 106 = .ok (.if_icmp .ne 21, 3) := by decide +kernel
theorem dX9_hoist_109 : decode cX9_hoist 109 = .ok (.aload_n 0, 1) := by decide +kernel
theorem dX9_hoist_110 : decode cX9_hoist 110 = .ok (.getfield 59, 3) := by decide +kernel
theorem dX9_hoist_113 : decode cX9_hoist 113 = .ok (.iload_n 1, 1) := by decide +kernel
theorem dX9_hoist_114 : decode cX9_hoist 114 = .ok (.iconst 1, 1) := by decide +kernel
theorem dX9_hoist_115 : decode cX9_hoist 115 = .ok (.iadd, 1) := by decide +kernel
theorem dX9_hoist_116 : decode cX9_hoist 116 = .ok (.iaload, 1) := by decide +kernel
theorem dX9_hoist_117 : decode cX9_hoist 117 = .ok (.aload_n 0, 1) := by decide +kernel
theorem dX9_hoist_118 : decode cX9_hoist 118 = .ok (.getfield 59, 3) := by decide +kernel
theorem dX9_hoist_121 : decode cX9_hoist 121 = .ok (.iload_n 1, 1) := by decide +kernel
theorem dX9_hoist_122 : decode cX9_hoist 122 = .ok (.iaload, 1) := by decide +kernel
theorem dX9_hoist_123 : decode cX9_hoist 123 = .ok (.isub, 1) := by decide +kernel
theorem dX9_hoist_124 : decode cX9_hoist 124 = .ok (.goto 5, 3) := by decide +kernel
theorem dX9_hoist_127 : decode cX9_hoist 127 = .ok (.iload 4, 2) := by decide +kernel
theorem dX9_hoist_129 : decode cX9_hoist 129 = .ok (.ireturn, 1) := by decide +kernel
theorem dX9_thing_0 : decode cX9_thing 0 = .ok (.iload_n 1, 1) := by decide +kernel
theorem dX9_thing_1 : decode cX9_thing 1 = .ok (.ifCond .lt 7, 3) := by decide +kernel
theorem dX9_thing_4 : decode cX9_thing 4 = .ok (.iload_n 2, 1) := by decide +kernel
theorem dX9_thing_5 : decode cX9_thing 5 = .ok (.ifCond .ge 5, 3) := by decide +kernel
theorem dX9_thing_8 : decode cX9_thing 8 = .ok (.iconst (-1), 1) := by decide +kernel
theorem dX9_thing_9 : decode cX9_thing 9 = .ok (.ireturn, 1) := by decide +kernel
theorem dX9_thing_10 : decode cX9_thing 10 = .ok (.aload_n 0, 1) := by decide +kernel
theorem dX9_thing_11 : decode cX9_thing 11 = .ok (.bipush (-9), 2) := by decide +kernel
theorem dX9_thing_13 : decode cX9_thing 13 = .ok (.invokevirtual 182, 3) := by decide +kernel
theorem dX9_thing_16 : decode cX9_thing 16 = .ok (.aload_n 0, 1) := by decide +kernel
theorem dX9_thing_17 : decode cX9_thing 17 = .ok (.iload_n 1, 1) := by decide +kernel
theorem dX9_thing_18 : decode cX9_thing 18 = .ok (.invokevirtual 186, 3) := by decide +kernel
theorem dX9_thing_21 : decode cX9_thing 21 = .ok (.istore_n 3, 1) := by decide +kernel
theorem dX9_thing_22 : decode cX9_thing 22 = .ok (.iload_n 3, 1) := by decide +kernel
theorem dX9_thing_23 : decode cX9_thing 23 = .ok (.bipush (-9), 2) := by decide +kernel
theorem dX9_thing_25 : decode cX9_thing 25 = .ok (.if_icmp .eq 17, 3) := by decide +kernel
theorem dX9_thing_28 : decode cX9_thing 28 = .ok (.iload_n 2, 1) := by decide +kernel
theorem dX9_thing_29 : decode cX9_thing 29 = .ok (.iload_n 3, 1) := by decide +kernel
theorem dX9_thing_30 : decode cX9_thing 30 = .ok (.if_icmp .ge 12, 3) := by decide +kernel
theorem dX9_thing_33 : decode cX9_thing 33 = .ok (.aload_n 0, 1) := by decide +kernel
theorem dX9_thing_34 : decode cX9_thing 34 = .ok (.getfield 53, 3) := by decide +kernel
theorem dX9_thing_37 : decode cX9_thing 37 = .ok (.iload_n 2, 1) := by decide +kernel
theorem dX9_thing_38 : decode cX9_thing 38 = .ok (.iaload, 1) := by decide +kernel
theorem dX9_thing_39 : decode cX9_thing 39 = .ok (.goto 5, 3) := by decide +kernel
theorem dX9_thing_42 : decode cX9_thing 42 = .ok (.bipush (-9), 2) := by decide +kernel
theorem dX9_thing_44 : decode cX9_thing 44 = .ok (.ireturn, 1) := by decide +kernel
theorem dX9_none_0 : decode cX9_none 0 = .ok (.aload_n 0, 1) := by decide +kernel
theorem dX9_none_1 : decode cX9_none 1 = .ok (.getfield 7, 3) := by decide +kernel
theorem dX9_none_4 : decode cX9_none 4 = .ok (.bipush 10, 2) := by decide +kernel
theorem dX9_none_6 : decode cX9_none 6 = .ok (.iconst 0, 1) := by decide +kernel
theorem dX9_none_7 : decode cX9_none 7 = .ok (.iastore, 1) := by decide +kernel
theorem dX9_none_8 : decode cX9_none 8 = .ok (.aload_n 0, 1) := by decide +kernel
theorem dX9_none_9 : decode cX9_none 9 = .ok (.getfield 7, 3) := by decide +kernel
theorem dX9_none_12 : decode cX9_none 12 = .ok (.bipush 11, 2) := by decide +kernel
theorem dX9_none_14 : decode cX9_none 14 = .ok (.iconst 0, 1) := by decide +kernel
theorem dX9_none_15 : decode cX9_none 15 = .ok (.iastore, 1) := by decide +kernel
theorem dX9_none_16 : decode cX9_none 16 = .ok (.return_, 1) := by decide +kernel
theorem dX9_puts_0 : decode cX9_puts 0 = .ok (.iload_n 1, 1) := by decide +kernel
theorem dX9_puts_1 : decode cX9_puts 1 = .ok (.i2l, 1) := by decide +kernel
theorem dX9_puts_2 : decode cX9_puts 2 = .ok (.lconst 0, 1) := by decide +kernel
theorem dX9_puts_3 : decode cX9_puts 3 = .ok (.aload_n 0, 1) := by decide +kernel
theorem dX9_puts_4 : decode cX9_puts 4 = .ok (.getfield 7, 3) := by decide +kernel
theorem dX9_puts_7 : decode cX9_puts 7 = .ok (.iconst 0, 1) := by decide +kernel
theorem dX9_puts_8 : decode cX9_puts 8 = .ok (.iaload, 1) := by decide +kernel
theorem dX9_puts_9 : decode cX9_puts 9 = .ok (.i2l, 1) := by decide +kernel
theorem dX9_puts_10 : decode cX9_puts 10 = .ok (.invokestatic 78, 3) := by decide +kernel
theorem dX9_puts_13 : decode cX9_puts 13 = .ok (.ifCond .eq 11, 3) := by decide +kernel
theorem dX9_puts_16 : decode cX9_puts 16 = .ok (.aload_n 0, 1) := by decide +kernel
theorem dX9_puts_17 : decode cX9_puts 17 = .ok (.iload_n 2, 1) := by decide +kernel
theorem dX9_puts_18 : decode cX9_puts 18 = .ok (.invokevirtual 153, 3) := by decide +kernel
theorem dX9_puts_21 : decode cX9_puts 21 = .ok (.ifCond .ne 5, 3) := by decide +kernel
theorem dX9_puts_24 : decode cX9_puts 24 = .ok (.iconst (-1), 1) := by decide +kernel
theorem dX9_puts_25 : decode cX9_puts 25 = .ok (.ireturn, 1) := by decide +kernel
theorem dX9_puts_26 : decode cX9_puts 26 = .ok (.aload_n 0, 1) := by decide +kernel
theorem dX9_puts_27 : decode cX9_puts 27 = .ok (.getfield 7, 3) := by decide +kernel
theorem dX9_puts_30 : decode cX9_puts 30 = .ok (.iconst 0, 1) := by decide +kernel
theorem dX9_puts_31 : decode cX9_puts 31 = .ok (.iaload, 1) := by decide +kernel
theorem dX9_puts_32 : decode cX9_puts 32 = .ok (.bipush 8, 2) := by decide +kernel
theorem dX9_puts_34 : decode cX9_puts 34 = .ok (.if_icmp .ne 6, 3) := by decide +kernel
theorem dX9_puts_37 : decode cX9_puts 37 = .ok (.bipush (-3), 2) := by decide +kernel
theorem dX9_puts_39 : decode cX9_puts 39 = .ok (.ireturn, 1) := by decide +kernel
theorem dX9_puts_40 : decode cX9_puts 40 = .ok (.aload_n 0, 1) := by decide +kernel
theorem dX9_puts_41 : decode cX9_puts 41 = .ok (.invokevirtual 193, 3) := by decide +kernel
theorem dX9_puts_44 : decode cX9_puts 44 = .ok (.aload_n 0, 1) := by decide +kernel
theorem dX9_puts_45 : decode cX9_puts 45 = .ok (.getfield 7, 3) := by decide +kernel
theorem dX9_puts_48 : decode cX9_puts 48 = .ok (.iconst 0, 1) := by decide +kernel
theorem dX9_puts_49 : decode cX9_puts 49 = .ok (.iaload, 1) := by decide +kernel
theorem dX9_puts_50 : decode cX9_puts 50 = .ok (.istore_n 3, 1) := by decide +kernel
theorem dX9_puts_51 : decode cX9_puts 51 = .ok (.iload_n 3, 1) := by decide +kernel
theorem dX9_puts_52 : decode cX9_puts 52 = .ok (.iload_n 1, 1) := by decide +kernel
theorem dX9_puts_53 : decode cX9_puts 53 = .ok (.if_icmp .le 27, 3) := by decide +kernel
theorem dX9_puts_56 : decode cX9_puts 56 = .ok (.aload_n 0, 1) := by decide +kernel
theorem dX9_puts_57 : decode cX9_puts 57 = .ok (.getfield 7, 3) := by decide +kernel
theorem dX9_puts_60 : decode cX9_puts 60 = .ok (.iconst 1, 1) := by decide +kernel
theorem dX9_puts_61 : decode cX9_puts 61 = .ok (.iload_n 3, 1) := by decide +kernel
theorem dX9_puts_62 : decode cX9_puts 62 = .ok (.iadd, 1) := by decide +kernel
theorem dX9_puts_63 : decode cX9_puts 63 = .ok (.aload_n 0, 1) := by decide +kernel
theorem dX9_puts_64 : decode cX9_puts 64 = .ok (.getfield 7, 3) := by decide +kernel
theorem dX9_puts_67 : decode cX9_puts 67 = .ok (.iconst 1, 1) := by decide +kernel
theorem dX9_puts_68 : decode cX9_puts 68 = .ok (.iload_n 3, 1) := by decide +kernel
theorem dX9_puts_69 : decode cX9_puts 69 = .ok (.iadd, 1) := by decide +kernel
theorem dX9_puts_70 : decode cX9_puts 70 = .ok (.iconst 1, 1) := by decide +kernel
theorem dX9_puts_71 : decode cX9_puts 71 = .ok (.isub, 1) := by decide +kernel
theorem dX9_puts_72 : decode cX9_puts 72 = .ok (.iaload, 1) := by decide +kernel
theorem dX9_puts_73 : decode cX9_puts 73 = .ok (.iastore, 1) := by decide +kernel
theorem dX9_puts_74 : decode cX9_puts 74 = .ok (.iinc 3 (-1), 3) := by decide +kernel
theorem dX9_puts_77 : decode cX9_puts 77 = .ok (.goto (-26), 3) := by decide +kernel
theorem dX9_puts_80 : decode cX9_puts 80 = .ok (.aload_n 0, 1) := by decide +kernel
theorem dX9_puts_81 : decode cX9_puts 81 = .ok (.getfield 7, 3) := by decide +kernel
theorem dX9_puts_84 : decode cX9_puts 84 = .ok (.iconst 1, 1) := by decide +kernel
theorem dX9_puts_85 : decode cX9_puts 85 = .ok (.iload_n 1, 1) := by decide +kernel
theorem dX9_puts_86 : decode cX9_puts 86 = .ok (.iadd, 1) := by decide +kernel
theorem dX9_puts_87 : decode cX9_puts 87 = .ok (.iload_n 2, 1) := by decide +kernel
theorem dX9_puts_88 : decode cX9_puts 88 = .ok (.iastore, 1) := by decide +kernel
theorem dX9_puts_89 : decode cX9_puts 89 = .ok (.aload_n 0, 1) := by decide +kernel
theorem dX9_puts_90 : decode cX9_puts 90 = .ok (.getfield 7, 3) := by decide +kernel
theorem dX9_puts_93 : decode cX9_puts 93 = .ok (.iconst 0, 1) := by decide +kernel
theorem dX9_puts_94 : decode cX9_puts 94 = .ok (.dup2, 1) := by decide +kernel
theorem dX9_puts_95 : decode cX9_puts 95 = .ok (.iaload, 1) := by decide +kernel
theorem dX9_puts_96 : decode cX9_puts 96 = .ok (.iconst 1, 1) := by decide +kernel
theorem dX9_puts_97 : decode cX9_puts 97 = .ok (.iadd, 1) := by decide +kernel
theorem dX9_puts_98 : decode cX9_puts 98 = .ok (.iastore, 1) := by decide +kernel
theorem dX9_puts_99 : decode cX9_puts 99 = .ok (.aload_n 0, 1) := by decide +kernel
theorem dX9_puts_100 : decode cX9_puts 100 = .ok (.invokevirtual 196, 3) := by decide +kernel
theorem dX9_puts_103 : decode cX9_puts 103 = .ok (.aload_n 0, 1) := by decide +kernel
theorem dX9_puts_104 : decode cX9_puts 104 = .ok (.getfield 7, 3) := by decide +kernel
theorem dX9_puts_107 : decode cX9_puts 107 = .ok (.iconst 0, 1) := by decide +kernel
theorem dX9_puts_108 : decode cX9_puts 108 = .ok (.iaload, 1) := by decide +kernel
theorem dX9_puts_109 : decode cX9_puts 109 = .ok (.ireturn, 1) := by decide +kernel
theorem dX9_takes_0 : decode cX9_takes 0 = .ok (.iload_n 1, 1) := by decide +kernel
theorem dX9_takes_1 : decode cX9_takes 1 = .ok (.i2l, 1) := by decide +kernel
theorem dX9_takes_2 : decode cX9_takes 2 = .ok (.lconst 0, 1) := by decide +kernel
theorem dX9_takes_3 : decode cX9_takes 3 = .ok (.aload_n 0, 1) := by decide +kernel
theorem dX9_takes_4 : decode cX9_takes 4 = .ok (.getfield 7, 3) := by decide +kernel
theorem dX9_takes_7 : decode cX9_takes 7 = .ok (.iconst 0, 1) := by decide +kernel
theorem dX9_takes_8 : decode cX9_takes 8 = .ok (.iaload, 1) := by decide +kernel
theorem dX9_takes_9 : decode cX9_takes 9 = .ok (.iconst 1, 1) := by decide +kernel
theorem dX9_takes_10 : decode cX9_takes 10 = .ok (.isub, 1) := by decide +kernel
theorem dX9_takes_11 : decode cX9_takes 11 = .ok (.i2l, 1) := by decide +kernel
theorem dX9_takes_12 : decode cX9_takes 12 = .ok (.invokestatic 78, 3) := by decide +kernel
theorem dX9_takes_15 : decode cX9_takes 15 = .ok (.ifCond .ne 5, 3) := by decide +kernel
theorem dX9_takes_18 : decode cX9_takes 18 = .ok (.iconst (-1), 1) := by decide +kernel
theorem dX9_takes_19 : decode cX9_takes 19 = .ok (.ireturn, 1) := by decide +kernel
theorem dX9_takes_20 : decode cX9_takes 20 = .ok (.aload_n 0, 1) := by decide +kernel
theorem dX9_takes_21 : decode cX9_takes 21 = .ok (.invokevirtual 193, 3) := by decide +kernel
theorem dX9_takes_24 : decode cX9_takes 24 = .ok (.aload_n 0, 1) := by decide +kernel
theorem dX9_takes_25 : decode cX9_takes 25 = .ok (.getfield 7, 3) := by decide +kernel
theorem dX9_takes_28 : decode cX9_takes 28 = .ok (.iconst 1, 1) := by decide +kernel
theorem dX9_takes_29 : decode cX9_takes 29 = .ok (.iload_n 1, 1) := by decide +kernel
theorem dX9_takes_30 : decode cX9_takes 30 = .ok (.iadd, 1) := by decide +kernel
theorem dX9_takes_31 : decode cX9_takes 31 = .ok (.iaload, 1) := by decide +kernel
theorem dX9_takes_32 : decode cX9_takes 32 = .ok (.istore_n 2, 1) := by decide +kernel
theorem dX9_takes_33 : decode cX9_takes 33 = .ok (.aload_n 0, 1) := by decide +kernel
theorem dX9_takes_34 : decode cX9_takes 34 = .ok (.getfield 7, 3) := by decide +kernel
theorem dX9_takes_37 : decode cX9_takes 37 = .ok (.iconst 0, 1) := by decide +kernel
theorem dX9_takes_38 : decode cX9_takes 38 = .ok (.dup2, 1) := by decide +kernel
theorem dX9_takes_39 : decode cX9_takes 39 = .ok (.iaload, 1) := by decide +kernel
theorem dX9_takes_40 : decode cX9_takes 40 = .ok (.iconst 1, 1) := by decide +kernel
theorem dX9_takes_41 : decode cX9_takes 41 = .ok (.isub, 1) := by decide +kernel
theorem dX9_takes_42 : decode cX9_takes 42 = .ok (.iastore, 1) := by decide +kernel
theorem dX9_takes_43 : decode cX9_takes 43 = .ok (.iload_n 1, 1) := by decide +kernel
theorem dX9_takes_44 : decode cX9_takes 44 = .ok (.istore_n 3, 1) := by decide +kernel
theorem dX9_takes_45 : decode cX9_takes 45 = .ok (.iload_n 3, 1) := by decide +kernel
theorem dX9_takes_46 : decode cX9_takes 46 = .ok (.aload_n 0, 1) := by decide +kernel
theorem dX9_takes_47 : decode cX9_takes 47 = .ok (.getfield 7, 3) := by decide +kernel
theorem dX9_takes_50 : decode cX9_takes 50 = .ok (.iconst 0, 1) := by decide +kernel
theorem dX9_takes_51 : decode cX9_takes 51 = .ok (.iaload, 1) := by decide +kernel
theorem dX9_takes_52 : decode cX9_takes 52 = .ok (.if_icmp .ge 27, 3) := by decide +kernel
theorem dX9_takes_55 : decode cX9_takes 55 = .ok (.aload_n 0, 1) := by decide +kernel
theorem dX9_takes_56 : decode cX9_takes 56 = .ok (.getfield 7, 3) := by decide +kernel
theorem dX9_takes_59 : decode cX9_takes 59 = .ok (.iconst 1, 1) := by decide +kernel
theorem dX9_takes_60 : decode cX9_takes 60 = .ok (.iload_n 3, 1) := by decide +kernel
theorem dX9_takes_61 : decode cX9_takes 61 = .ok (.iadd, 1) := by decide +kernel
theorem dX9_takes_62 : decode cX9_takes 62 = .ok (.aload_n 0, 1) := by decide +kernel
theorem dX9_takes_63 : decode cX9_takes 63 = .ok (.getfield 7, 3) := by decide +kernel
theorem dX9_takes_66 : decode cX9_takes 66 = .ok (.iconst 1, 1) := by decide +kernel
theorem dX9_takes_67 : decode cX9_takes 67 = .ok (.iload_n 3, 1) := by decide +kernel
theorem dX9_takes_68 : decode cX9_takes 68 = .ok (.iadd, 1) := by decide +kernel
theorem dX9_takes_69 : decode cX9_takes 69 = .ok (.iconst 1, 1) := by decide +kernel
theorem dX9_takes_70 : decode cX9_takes 70 = .ok (.iadd, 1) := by decide +kernel
theorem dX9_takes_71 : decode cX9_takes 71 = .ok (.iaload, 1) := by decide +kernel
theorem dX9_takes_72 : decode cX9_takes 72 = .ok (.iastore, 1) := by decide +kernel
theorem dX9_takes_73 : decode cX9_takes 73 = .ok (.iinc 3 1, 3) := by decide +kernel
theorem dX9_takes_76 : decode cX9_takes 76 = .ok (.goto (-31), 3) := by decide +kernel
theorem dX9_takes_79 : decode cX9_takes 79 = .ok (.aload_n 0, 1) := by decide +kernel
theorem dX9_takes_80 : decode cX9_takes 80 = .ok (.invokevirtual 196, 3) := by decide +kernel
theorem dX9_takes_83 : decode cX9_takes 83 = .ok (.iload_n 2, 1) := by decide +kernel
theorem dX9_takes_84 : decode cX9_takes 84 = .ok (.ireturn, 1) := by decide +kernel
theorem dX9_places_0 : decode cX9_places 0 = .ok (.iload_n 1, 1) := by decide +kernel
theorem dX9_places_1 : decode cX9_places 1 = .ok (.i2l, 1) := by decide +kernel
theorem dX9_places_2 : decode cX9_places 2 = .ok (.ldc2_w 180, 3) := by decide +kernel
theorem dX9_places_5 : decode cX9_places 5 = .ok (.ldc2_w 151, 3) := by decide +kernel
theorem dX9_places_8 : decode cX9_places 8 = .ok (.invokestatic 78, 3) := by decide +kernel
theorem dX9_places_11 : decode cX9_places 11 = .ok (.ifCond .ne 5, 3) := by decide +kernel
theorem dX9_places_14 : decode cX9_places 14 = .ok (.iconst (-1), 1) := by decide +kernel
theorem dX9_places_15 : decode cX9_places 15 = .ok (.ireturn, 1) := by decide +kernel
theorem dX9_places_16 : decode cX9_places 16 = .ok (.aload_n 0, 1) := by decide +kernel
theorem dX9_places_17 : decode cX9_places 17 = .ok (.getfield 7, 3) := by decide +kernel
theorem dX9_places_20 : decode cX9_places 20 = .ok (.bipush 9, 2) := by decide +kernel
theorem dX9_places_22 : decode cX9_places 22 = .ok (.iaload, 1) := by decide +kernel
theorem dX9_places_23 : decode cX9_places 23 = .ok (.istore_n 2, 1) := by decide +kernel
theorem dX9_places_24 : decode cX9_places 24 = .ok (.iload_n 2, 1) := by decide +kernel
theorem dX9_places_25 : decode cX9_places 25 = .ok (.iload_n 1, 1) := by decide +kernel
theorem dX9_places_26 : decode cX9_places 26 = .ok (.if_icmp .ne 6, 3) := by decide +kernel
theorem dX9_places_29 : decode cX9_places 29 = .ok (.bipush (-2), 2) := by decide +kernel
theorem dX9_places_31 : decode cX9_places 31 = .ok (.ireturn, 1) := by decide +kernel
theorem dX9_places_32 : decode cX9_places 32 = .ok (.aload_n 0, 1) := by decide +kernel
theorem dX9_places_33 : decode cX9_places 33 = .ok (.invokevirtual 193, 3) := by decide +kernel
theorem dX9_places_36 : decode cX9_places 36 = .ok (.aload_n 0, 1) := by decide +kernel
theorem dX9_places_37 : decode cX9_places 37 = .ok (.getfield 7, 3) := by decide +kernel
theorem dX9_places_40 : decode cX9_places 40 = .ok (.bipush 9, 2) := by decide +kernel
theorem dX9_places_42 : decode cX9_places 42 = .ok (.iload_n 1, 1) := by decide +kernel
theorem dX9_places_43 : decode cX9_places 43 = .ok (.iastore, 1) := by decide +kernel
theorem dX9_places_44 : decode cX9_places 44 = .ok (.aload_n 0, 1) := by decide +kernel
theorem dX9_places_45 : decode cX9_places 45 = .ok (.invokevirtual 196, 3) := by decide +kernel
theorem dX9_places_48 : decode cX9_places 48 = .ok (.iload_n 2, 1) := by decide +kernel
theorem dX9_places_49 : decode cX9_places 49 = .ok (.ireturn, 1) := by decide +kernel
theorem dX9_sends_0 : decode cX9_sends 0 = .ok (.aload_n 0, 1) := by decide +kernel
theorem dX9_sends_1 : decode cX9_sends 1 = .ok (.bipush (-9), 2) := by decide +kernel
theorem dX9_sends_3 : decode cX9_sends 3 = .ok (.invokevirtual 182, 3) := by decide +kernel
theorem dX9_sends_6 : decode cX9_sends 6 = .ok (.aload_n 0, 1) := by decide +kernel
theorem dX9_sends_7 : decode cX9_sends 7 = .ok (.getfield 7, 3) := by decide +kernel
theorem dX9_sends_10 : decode cX9_sends 10 = .ok (.bipush 11, 2) := by decide +kernel
theorem dX9_sends_12 : decode cX9_sends 12 = .ok (.iaload, 1) := by decide +kernel
theorem dX9_sends_13 : decode cX9_sends 13 = .ok (.ifCond .gt 17, 3) := by decide +kernel
theorem dX9_sends_16 : decode cX9_sends 16 = .ok (.aload_n 0, 1) := by decide +kernel
theorem dX9_sends_17 : decode cX9_sends 17 = .ok (.getfield 7, 3) := by decide +kernel
theorem dX9_sends_20 : decode cX9_sends 20 = .ok (.bipush 10, 2) := by decide +kernel
theorem dX9_sends_22 : decode cX9_sends 22 = .ok (.iaload, 1) := by decide +kernel
theorem dX9_sends_23 : decode cX9_sends 23 = .ok (.aload_n 0, 1) := by decide +kernel
theorem dX9_sends_24 : decode cX9_sends 24 = .ok (.getfield 174, 3) := by decide +kernel
theorem dX9_sends_27 : decode cX9_sends 27 = .ok (.if_icmp .lt 6, 3) := by decide +kernel
theorem dX9_sends_30 : decode cX9_sends 30 = .ok (.bipush (-2), 2) := by decide +kernel
theorem dX9_sends_32 : decode cX9_sends 32 = .ok (.ireturn, 1) := by decide +kernel
theorem dX9_sends_33 : decode cX9_sends 33 = .ok (.aload_n 0, 1) := by decide +kernel
theorem dX9_sends_34 : decode cX9_sends 34 = .ok (.invokevirtual 193, 3) := by decide +kernel
theorem dX9_sends_37 : decode cX9_sends 37 = .ok (.aload_n 0, 1) := by decide +kernel
theorem dX9_sends_38 : decode cX9_sends 38 = .ok (.getfield 7, 3) := by decide +kernel
theorem dX9_sends_41 : decode cX9_sends 41 = .ok (.bipush 11, 2) := by decide +kernel
theorem dX9_sends_43 : decode cX9_sends 43 = .ok (.iconst 1, 1) := by decide +kernel
theorem dX9_sends_44 : decode cX9_sends 44 = .ok (.iastore, 1) := by decide +kernel
theorem dX9_sends_45 : decode cX9_sends 45 = .ok (.aload_n 0, 1) := by decide +kernel
theorem dX9_sends_46 : decode cX9_sends 46 = .ok (.getfield 7, 3) := by decide +kernel
theorem dX9_sends_49 : decode cX9_sends 49 = .ok (.bipush 10, 2) := by decide +kernel
theorem dX9_sends_51 : decode cX9_sends 51 = .ok (.iaload, 1) := by decide +kernel
theorem dX9_sends_52 : decode cX9_sends 52 = .ok (.ireturn, 1) := by decide +kernel
theorem dX9_answers_0 : decode cX9_answers 0 = .ok (.iload_n 1, 1) := by decide +kernel
theorem dX9_answers_1 : decode cX9_answers 1 = .ok (.i2l, 1) := by decide +kernel
theorem dX9_answers_2 : decode cX9_answers 2 = .ok (.lconst 0, 1) := by decide +kernel
theorem dX9_answers_3 : decode cX9_answers 3 = .ok (.lconst 1, 1) := by decide +kernel
theorem dX9_answers_4 : decode cX9_answers 4 = .ok (.invokestatic 78, 3) := by decide +kernel
theorem dX9_answers_7 : decode cX9_answers 7 = .ok (.ifCond .ne 5, 3) := by decide +kernel
theorem dX9_answers_10 : decode cX9_answers 10 = .ok (.iconst (-1), 1) := by decide +kernel
theorem dX9_answers_11 : decode cX9_answers 11 = .ok (.ireturn, 1) := by decide +kernel
theorem dX9_answers_12 : decode cX9_answers 12 = .ok (.aload_n 0, 1) := by decide +kernel
theorem dX9_answers_13 : decode cX9_answers 13 = .ok (.getfield 7, 3) := by decide +kernel
theorem dX9_answers_16 : decode cX9_answers 16 = .ok (.bipush 11, 2) := by decide +kernel
theorem dX9_answers_18 : decode cX9_answers 18 = .ok (.iaload, 1) := by decide +kernel
theorem dX9_answers_19 : decode cX9_answers 19 = .ok (.ifCond .ne 6, 3) := by decide +kernel
theorem dX9_answers_22 : decode cX9_answers 22 = .ok (.bipush (-2), 2) := by decide +kernel
theorem dX9_answers_24 : decode cX9_answers 24 = .ok (.ireturn, 1) := by decide +kernel
theorem dX9_answers_25 : decode cX9_answers 25 = .ok (.aload_n 0, 1) := by decide +kernel
theorem dX9_answers_26 : decode cX9_answers 26 = .ok (.invokevirtual 193, 3) := by decide +kernel
theorem dX9_answers_29 : decode cX9_answers 29 = .ok (.aload_n 0, 1) := by decide +kernel
theorem dX9_answers_30 : decode cX9_answers 30 = .ok (.getfield 7, 3) := by decide +kernel
theorem dX9_answers_33 : decode cX9_answers 33 = .ok (.bipush 11, 2) := by decide +kernel
theorem dX9_answers_35 : decode cX9_answers 35 = .ok (.iaload, 1) := by decide +kernel
theorem dX9_answers_36 : decode cX9_answers 36 = .ok (.iconst 1, 1) := by decide +kernel
theorem dX9_answers_37 : decode cX9_answers 37 = .ok (.iadd, 1) := by decide +kernel
theorem dX9_answers_38 : decode cX9_answers 38 = .ok (.iload_n 1, 1) := by decide +kernel
theorem dX9_answers_39 : decode cX9_answers 39 = .ok (.isub, 1) := by decide +kernel
theorem dX9_answers_40 : decode cX9_answers 40 = .ok (.istore_n 2, 1) := by decide +kernel
theorem dX9_answers_41 : decode cX9_answers 41 = .ok (.aload_n 0, 1) := by decide +kernel
theorem dX9_answers_42 : decode cX9_answers 42 = .ok (.getfield 7, 3) := by decide +kernel
theorem dX9_answers_45 : decode cX9_answers 45 = .ok (.bipush 11, 2) := by decide +kernel
theorem dX9_answers_47 : decode cX9_answers 47 = .ok (.iload_n 1, 1) := by decide +kernel
theorem dX9_answers_48 : decode cX9_answers 48 = .ok (.ifCond .ne 7, 3) := by decide +kernel
theorem dX9_answers_51 : decode cX9_answers 51 = .ok (.iload_n 2, 1) := by decide +kernel
theorem dX9_answers_52 : decode cX9_answers 52 = .ok (.goto 4, 3) := by decide +kernel
theorem dX9_answers_55 : decode cX9_answers 55 = .ok (.iconst 0, 1) := by decide +kernel
theorem dX9_answers_56 : decode cX9_answers 56 = .ok (.iastore, 1) := by decide +kernel
theorem dX9_answers_57 : decode cX9_answers 57 = .ok (.aload_n 0, 1) := by decide +kernel
theorem dX9_answers_58 : decode cX9_answers 58 = .ok (.getfield 7, 3) := by decide +kernel
theorem dX9_answers_61 : decode cX9_answers 61 = .ok (.bipush 10, 2) := by decide +kernel
theorem dX9_answers_63 : decode cX9_answers 63 = .ok (.dup2, 1) := by decide +kernel
theorem dX9_answers_64 : decode cX9_answers 64 = .ok (.iaload, 1) := by decide +kernel
theorem dX9_answers_65 : decode cX9_answers 65 = .ok (.iload_n 1, 1) := by decide +kernel
theorem dX9_answers_66 : decode cX9_answers 66 = .ok (.iadd, 1) := by decide +kernel
theorem dX9_answers_67 : decode cX9_answers 67 = .ok (.iastore, 1) := by decide +kernel
theorem dX9_answers_68 : decode cX9_answers 68 = .ok (.iload_n 2, 1) := by decide +kernel
theorem dX9_answers_69 : decode cX9_answers 69 = .ok (.ireturn, 1) := by decide +kernel
theorem dX9_undo_0 : decode cX9_undo 0 = .ok (.aload_n 0, 1) := by decide +kernel
theorem dX9_undo_1 : decode cX9_undo 1 = .ok (.getfield 66, 3) := by decide +kernel
theorem dX9_undo_4 : decode cX9_undo 4 = .ok (.ifCond .ne 6, 3) := by decide +kernel
theorem dX9_undo_7 : decode cX9_undo 7 = .ok (.bipush (-2), 2) := by decide +kernel
theorem dX9_undo_9 : decode cX9_undo 9 = .ok (.ireturn, 1) := by decide +kernel
theorem dX9_undo_10 : decode cX9_undo 10 = .ok (.aload_n 0, 1) := by decide +kernel
theorem dX9_undo_11 : decode cX9_undo 11 = .ok (.dup, 1) := by decide +kernel
theorem dX9_undo_12 : decode cX9_undo 12 = .ok (.getfield 66, 3) := by decide +kernel
theorem dX9_undo_15 : decode cX9_undo 15 = .ok (.iconst 1, 1) := by decide +kernel
theorem dX9_undo_16 : decode cX9_undo 16 = .ok (.isub, 1) := by decide +kernel
theorem dX9_undo_17 : decode cX9_undo 17 = .ok (.putfield 66, 3) := by decide +kernel
theorem dX9_undo_20 : decode cX9_undo 20 = .ok (.aload_n 0, 1) := by decide +kernel
theorem dX9_undo_21 : decode cX9_undo 21 = .ok (.bipush 36, 2) := by decide +kernel
theorem dX9_undo_23 : decode cX9_undo 23 = .ok (.bipush 12, 2) := by decide +kernel
theorem dX9_undo_25 : decode cX9_undo 25 = .ok (.aload_n 0, 1) := by decide +kernel
theorem dX9_undo_26 : decode cX9_undo 26 = .ok (.getfield 66, 3) := by decide +kernel
theorem dX9_undo_29 : decode cX9_undo 29 = .ok (.imul, 1) := by decide +kernel
theorem dX9_undo_30 : decode cX9_undo 30 = .ok (.iadd, 1) := by decide +kernel
theorem dX9_undo_31 : decode cX9_undo 31 = .ok (.iconst 0, 1) := by decide +kernel
theorem dX9_undo_32 : decode cX9_undo 32 = .ok (.invokevirtual 70, 3) := by decide +kernel
theorem dX9_undo_35 : decode cX9_undo 35 = .ok (.aload_n 0, 1) := by decide +kernel
theorem dX9_undo_36 : decode cX9_undo 36 = .ok (.getfield 66, 3) := by decide +kernel
theorem dX9_undo_39 : decode cX9_undo 39 = .ok (.ireturn, 1) := by decide +kernel
theorem dX9_mayBe_0 : decode cX9_mayBe 0 = .ok (.iload_n 1, 1) := by decide +kernel
theorem dX9_mayBe_1 : decode cX9_mayBe 1 = .ok (.iload_n 2, 1) := by decide +kernel
theorem dX9_mayBe_2 : decode cX9_mayBe 2 = .ok (.if_icmp .eq 38, 3) := by decide +kernel
theorem dX9_mayBe_5 : decode cX9_mayBe 5 = .ok (.aload_n 0, 1) := by decide +kernel
theorem dX9_mayBe_6 : decode cX9_mayBe 6 = .ok (.getfield 29, 3) := by decide +kernel
theorem dX9_mayBe_9 : decode cX9_mayBe 9 = .ok (.iload_n 1, 1) := by decide +kernel
theorem dX9_mayBe_10 : decode cX9_mayBe 10 = .ok (.iaload, 1) := by decide +kernel
theorem dX9_mayBe_11 : decode cX9_mayBe 11 = .ok (.iload_n 3, 1) := by decide +kernel
theorem dX9_mayBe_12 : decode cX9_mayBe 12 = .ok (.if_icmp .ge 32, 3) := by decide +kernel
theorem dX9_mayBe_15 : decode cX9_mayBe 15 = .ok (.aload_n 0, 1) := by decide +kernel
theorem dX9_mayBe_16 : decode cX9_mayBe 16 = .ok (.getfield 29, 3) := by decide +kernel
theorem dX9_mayBe_19 : decode cX9_mayBe 19 = .ok (.iload_n 2, 1) := by decide +kernel
theorem dX9_mayBe_20 : decode cX9_mayBe 20 = .ok (.iaload, 1) := by decide +kernel
theorem dX9_mayBe_21 : decode cX9_mayBe 21 = .ok (.iload_n 3, 1) := by decide +kernel
theorem dX9_mayBe_22 : decode cX9_mayBe 22 = .ok (.if_icmp .ge 22, 3) := by decide +kernel
theorem dX9_mayBe_25 : decode cX9_mayBe 25 = .ok (.aload_n 0, 1) := by decide +kernel
theorem dX9_mayBe_26 : decode cX9_mayBe 26 = .ok (.getfield 26, 3) := by decide +kernel
theorem dX9_mayBe_29 : decode cX9_mayBe 29 = .ok (.iload_n 1, 1) := by decide +kernel
theorem dX9_mayBe_30 : decode cX9_mayBe 30 = .ok (.iaload, 1) := by decide +kernel
theorem dX9_mayBe_31 : decode cX9_mayBe 31 = .ok (.aload_n 0, 1) := by decide +kernel
theorem dX9_mayBe_32 : decode cX9_mayBe 32 = .ok (.getfield 26, 3) := by decide +kernel
theorem dX9_mayBe_35 : decode cX9_mayBe 35 = .ok (.iload_n 2, 1) := by decide +kernel
theorem dX9_mayBe_36 : decode cX9_mayBe 36 = .ok (.iaload, 1) := by decide +kernel
theorem dX9_mayBe_37 : decode cX9_mayBe 37 = .ok (.if_icmp .ne 7, 3) := by decide +kernel
theorem dX9_mayBe_40 : decode cX9_mayBe 40 = .ok (.iconst 1, 1) := by decide +kernel
theorem dX9_mayBe_41 : decode cX9_mayBe 41 = .ok (.goto 4, 3) := by decide +kernel
theorem dX9_mayBe_44 : decode cX9_mayBe 44 = .ok (.iconst 0, 1) := by decide +kernel
theorem dX9_mayBe_45 : decode cX9_mayBe 45 = .ok (.ireturn, 1) := by decide +kernel
theorem dX9_isTold_0 : decode cX9_isTold 0 = .ok (.aload_n 0, 1) := by decide +kernel
theorem dX9_isTold_1 : decode cX9_isTold 1 = .ok (.getfield 32, 3) := by decide +kernel
theorem dX9_isTold_4 : decode cX9_isTold 4 = .ok (.iload_n 1, 1) := by decide +kernel
theorem dX9_isTold_5 : decode cX9_isTold 5 = .ok (.iaload, 1) := by decide +kernel
theorem dX9_isTold_6 : decode cX9_isTold 6 = .ok (.aload_n 0, 1) := by decide +kernel
theorem dX9_isTold_7 : decode cX9_isTold 7 = .ok (.getfield 32, 3) := by decide +kernel
theorem dX9_isTold_10 : decode cX9_isTold 10 = .ok (.iload_n 2, 1) := by decide +kernel
theorem dX9_isTold_11 : decode cX9_isTold 11 = .ok (.iaload, 1) := by decide +kernel
theorem dX9_isTold_12 : decode cX9_isTold 12 = .ok (.if_icmp .ne 7, 3) := by decide +kernel
theorem dX9_isTold_15 : decode cX9_isTold 15 = .ok (.iconst 1, 1) := by decide +kernel
theorem dX9_isTold_16 : decode cX9_isTold 16 = .ok (.goto 4, 3) := by decide +kernel
theorem dX9_isTold_19 : decode cX9_isTold 19 = .ok (.iconst 0, 1) := by decide +kernel
theorem dX9_isTold_20 : decode cX9_isTold 20 = .ok (.istore 4, 2) := by decide +kernel
theorem dX9_isTold_22 : decode cX9_isTold 22 = .ok (.iconst 0, 1) := by decide +kernel
theorem dX9_isTold_23 : decode cX9_isTold 23 = .ok (.istore 5, 2) := by decide +kernel
theorem dX9_isTold_25 : decode cX9_isTold 25 = .ok (.iload 5, 2) := by decide +kernel
theorem dX9_isTold_27 : decode cX9_isTold 27 = .ok (.aload_n 0, 1) := by decide +kernel
theorem dX9_isTold_28 : decode cX9_isTold 28 = .ok (.getfield 32, 3) := by decide +kernel
theorem dX9_isTold_31 : decode cX9_isTold 31 = .ok (.iload_n 1, 1) := by decide +kernel
theorem dX9_isTold_32 : decode cX9_isTold 32 = .ok (.iaload, 1) := by decide +kernel
theorem dX9_isTold_33 : decode cX9_isTold 33 = .ok (.if_icmp .ge 43, 3) := by decide +kernel
theorem dX9_isTold_36 : decode cX9_isTold 36 = .ok (.iload 4, 2) := by decide +kernel
theorem dX9_isTold_38 : decode cX9_isTold 38 = .ok (.ifCond .eq 38, 3) := by decide +kernel
theorem dX9_isTold_41 : decode cX9_isTold 41 = .ok (.aload_n 0, 1) := by decide +kernel
theorem dX9_isTold_42 : decode cX9_isTold 42 = .ok (.aload_n 0, 1) := by decide +kernel
theorem dX9_isTold_43 : decode cX9_isTold 43 = .ok (.getfield 35, 3) := by decide +kernel
theorem dX9_isTold_46 : decode cX9_isTold 46 = .ok (.iconst 4, 1) := by decide +kernel
theorem dX9_isTold_47 : decode cX9_isTold 47 = .ok (.iload_n 1, 1) := by decide +kernel
theorem dX9_isTold_48 : decode cX9_isTold 48 = .ok (.imul, 1) := by decide +kernel
theorem dX9_isTold_49 : decode cX9_isTold 49 = .ok (.iload 5, 2) := by decide +kernel
theorem dX9_isTold_51 : decode cX9_isTold 51 = .ok (.iadd, 1) := by decide +kernel
theorem dX9_isTold_52 : decode cX9_isTold 52 = .ok (.iaload, 1) := by decide +kernel
theorem dX9_isTold_53 : decode cX9_isTold 53 = .ok (.aload_n 0, 1) := by decide +kernel
theorem dX9_isTold_54 : decode cX9_isTold 54 = .ok (.getfield 35, 3) := by decide +kernel
theorem dX9_isTold_57 : decode cX9_isTold 57 = .ok (.iconst 4, 1) := by decide +kernel
theorem dX9_isTold_58 : decode cX9_isTold 58 = .ok (.iload_n 2, 1) := by decide +kernel
theorem dX9_isTold_59 : decode cX9_isTold 59 = .ok (.imul, 1) := by decide +kernel
theorem dX9_isTold_60 : decode cX9_isTold 60 = .ok (.iload 5, 2) := by decide +kernel
theorem dX9_isTold_62 : decode cX9_isTold 62 = .ok (.iadd, 1) := by decide +kernel
theorem dX9_isTold_63 : decode cX9_isTold 63 = .ok (.iaload, 1) := by decide +kernel
theorem dX9_isTold_64 : decode cX9_isTold 64 = .ok (.iload_n 3, 1) := by decide +kernel
theorem dX9_isTold_65 : decode cX9_isTold 65 = .ok (.invokevirtual 199, 3) := by decide +kernel
theorem dX9_isTold_68 : decode cX9_isTold 68 = .ok (.istore 4, 2) := by decide +kernel
theorem dX9_isTold_70 : decode cX9_isTold 70 = .ok (.iinc 5 1, 3) := by decide +kernel
theorem dX9_isTold_73 : decode cX9_isTold 73 = .ok (.goto (-48), 3) := by decide +kernel
theorem dX9_isTold_76 : decode cX9_isTold 76 = .ok (.iload 4, 2) := by decide +kernel
theorem dX9_isTold_78 : decode cX9_isTold 78 = .ok (.ireturn, 1) := by decide +kernel
theorem dX9_told_0 : decode cX9_told 0 = .ok (.aload_n 0, 1) := by decide +kernel
theorem dX9_told_1 : decode cX9_told 1 = .ok (.iload_n 1, 1) := by decide +kernel
theorem dX9_told_2 : decode cX9_told 2 = .ok (.invokevirtual 153, 3) := by decide +kernel
theorem dX9_told_5 : decode cX9_told 5 = .ok (.ifCond .eq 23, 3) := by decide +kernel
theorem dX9_told_8 : decode cX9_told 8 = .ok (.aload_n 0, 1) := by decide +kernel
theorem dX9_told_9 : decode cX9_told 9 = .ok (.iload_n 2, 1) := by decide +kernel
theorem dX9_told_10 : decode cX9_told 10 = .ok (.invokevirtual 153, 3) := by decide +kernel
theorem dX9_told_13 : decode cX9_told 13 = .ok (.ifCond .eq 15, 3) := by decide +kernel
theorem dX9_told_16 : decode cX9_told 16 = .ok (.iload_n 3, 1) := by decide +kernel
theorem dX9_told_17 : decode cX9_told 17 = .ok (.i2l, 1) := by decide +kernel
theorem dX9_told_18 : decode cX9_told 18 = .ok (.lconst 1, 1) := by decide +kernel
theorem dX9_told_19 : decode cX9_told 19 = .ok (.ldc2_w 203, 3) := by decide +kernel
theorem dX9_told_22 : decode cX9_told 22 = .ok (.invokestatic 78, 3) := by decide +kernel
theorem dX9_told_25 : decode cX9_told 25 = .ok (.ifCond .ne 7, 3) := by decide +kernel
theorem dX9_told_28 : decode cX9_told 28 = .ok (.iconst (-1), 1) := by decide +kernel
theorem dX9_told_29 : decode cX9_told 29 = .ok (.goto 18, 3) := by decide +kernel
theorem dX9_told_32 : decode cX9_told 32 = .ok (.aload_n 0, 1) := by decide +kernel
theorem dX9_told_33 : decode cX9_told 33 = .ok (.iload_n 1, 1) := by decide +kernel
theorem dX9_told_34 : decode cX9_told 34 = .ok (.iload_n 2, 1) := by decide +kernel
theorem dX9_told_35 : decode cX9_told 35 = .ok (.iload_n 3, 1) := by decide +kernel
theorem dX9_told_36 : decode cX9_told 36 = .ok (.invokevirtual 205, 3) := by decide +kernel
theorem dX9_told_39 : decode cX9_told 39 = .ok (.ifCond .eq 7, 3) := by decide +kernel
theorem dX9_told_42 : decode cX9_told 42 = .ok (.iconst 1, 1) := by decide +kernel
theorem dX9_told_43 : decode cX9_told 43 = .ok (.goto 4, 3) := by decide +kernel
theorem dX9_told_46 : decode cX9_told 46 = .ok (.iconst 0, 1) := by decide +kernel
theorem dX9_told_47 : decode cX9_told 47 = .ok (.ireturn, 1) := by decide +kernel
theorem dX9_ways_0 : decode cX9_ways 0 = .ok (.iconst 1, 1) := by decide +kernel
theorem dX9_ways_1 : decode cX9_ways 1 = .ok (.istore_n 3, 1) := by decide +kernel
theorem dX9_ways_2 : decode cX9_ways 2 = .ok (.aload_n 0, 1) := by decide +kernel
theorem dX9_ways_3 : decode cX9_ways 3 = .ok (.getfield 59, 3) := by decide +kernel
theorem dX9_ways_6 : decode cX9_ways 6 = .ok (.iload_n 1, 1) := by decide +kernel
theorem dX9_ways_7 : decode cX9_ways 7 = .ok (.iaload, 1) := by decide +kernel
theorem dX9_ways_8 : decode cX9_ways 8 = .ok (.istore 4, 2) := by decide +kernel
theorem dX9_ways_10 : decode cX9_ways 10 = .ok (.iload 4, 2) := by decide +kernel
theorem dX9_ways_12 : decode cX9_ways 12 = .ok (.aload_n 0, 1) := by decide +kernel
theorem dX9_ways_13 : decode cX9_ways 13 = .ok (.getfield 59, 3) := by decide +kernel
theorem dX9_ways_16 : decode cX9_ways 16 = .ok (.iload_n 1, 1) := by decide +kernel
theorem dX9_ways_17 : decode cX9_ways 17 = .ok (.iconst 1, 1) := by decide +kernel
theorem dX9_ways_18 : decode cX9_ways 18 = .ok (.iadd, 1) := by decide +kernel
theorem dX9_ways_19 : decode cX9_ways 19 = .ok (.iaload, 1) := by decide +kernel
theorem dX9_ways_20 : decode cX9_ways 20 = .ok (.if_icmp .ge 62, 3) := by decide +kernel
theorem dX9_ways_23 : decode cX9_ways 23 = .ok (.iconst 0, 1) := by decide +kernel
theorem dX9_ways_24 : decode cX9_ways 24 = .ok (.istore 5, 2) := by decide +kernel
theorem dX9_ways_26 : decode cX9_ways 26 = .ok (.iconst 0, 1) := by decide +kernel
theorem dX9_ways_27 : decode cX9_ways 27 = .ok (.istore 6, 2) := by decide +kernel
theorem dX9_ways_29 : decode cX9_ways 29 = .ok (.iload 6, 2) := by decide +kernel
theorem dX9_ways_31 : decode cX9_ways 31 = .ok (.aload_n 0, 1) := by decide +kernel
theorem dX9_ways_32 : decode cX9_ways 32 = .ok (.getfield 145, 3) := by decide +kernel
theorem dX9_ways_35 : decode cX9_ways 35 = .ok (.if_icmp .ge 36, 3) := by decide +kernel
theorem dX9_ways_38 : decode cX9_ways 38 = .ok (.iload 5, 2) := by decide +kernel
theorem dX9_ways_40 : decode cX9_ways 40 = .ok (.aload_n 0, 1) := by decide +kernel
theorem dX9_ways_41 : decode cX9_ways 41 = .ok (.aload_n 0, 1) := by decide +kernel
theorem dX9_ways_42 : decode cX9_ways 42 = .ok (.getfield 50, 3) := by decide +kernel
theorem dX9_ways_45 : decode cX9_ways 45 = .ok (.iload 4, 2) := by decide +kernel
theorem dX9_ways_47 : decode cX9_ways 47 = .ok (.iaload, 1) := by decide +kernel
theorem dX9_ways_48 : decode cX9_ways 48 = .ok (.iload 6, 2) := by decide +kernel
theorem dX9_ways_50 : decode cX9_ways 50 = .ok (.iload_n 2, 1) := by decide +kernel
theorem dX9_ways_51 : decode cX9_ways 51 = .ok (.invokevirtual 205, 3) := by decide +kernel
theorem dX9_ways_54 : decode cX9_ways 54 = .ok (.ifCond .eq 7, 3) := by decide +kernel
theorem dX9_ways_57 : decode cX9_ways 57 = .ok (.iconst 1, 1) := by decide +kernel
theorem dX9_ways_58 : decode cX9_ways 58 = .ok (.goto 4, 3) := by decide +kernel
theorem dX9_ways_61 : decode cX9_ways 61 = .ok (.iconst 0, 1) := by decide +kernel
theorem dX9_ways_62 : decode cX9_ways 62 = .ok (.iadd, 1) := by decide +kernel
theorem dX9_ways_63 : decode cX9_ways 63 = .ok (.istore 5, 2) := by decide +kernel
theorem dX9_ways_65 : decode cX9_ways 65 = .ok (.iinc 6 1, 3) := by decide +kernel
theorem dX9_ways_68 : decode cX9_ways 68 = .ok (.goto (-39), 3) := by decide +kernel
theorem dX9_ways_71 : decode cX9_ways 71 = .ok (.iload_n 3, 1) := by decide +kernel
theorem dX9_ways_72 : decode cX9_ways 72 = .ok (.iload 5, 2) := by decide +kernel
theorem dX9_ways_74 : decode cX9_ways 74 = .ok (.imul, 1) := by decide +kernel
theorem dX9_ways_75 : decode cX9_ways 75 = .ok (.istore_n 3, 1) := by decide +kernel
theorem dX9_ways_76 : decode cX9_ways 76 = .ok (.iinc 4 1, 3) := by decide +kernel
theorem dX9_ways_79 : decode cX9_ways 79 = .ok (.goto (-69), 3) := by decide +kernel
theorem dX9_ways_82 : decode cX9_ways 82 = .ok (.iload_n 3, 1) := by decide +kernel
theorem dX9_ways_83 : decode cX9_ways 83 = .ok (.ireturn, 1) := by decide +kernel
theorem dX9_meanings_0 : decode cX9_meanings 0 = .ok (.iload_n 1, 1) := by decide +kernel
theorem dX9_meanings_1 : decode cX9_meanings 1 = .ok (.ifCond .lt 15, 3) := by decide +kernel
theorem dX9_meanings_4 : decode cX9_meanings 4 = .ok (.iload_n 2, 1) := by decide +kernel
theorem dX9_meanings_5 : decode cX9_meanings 5 = .ok (.i2l, 1) := by decide +kernel
theorem dX9_meanings_6 : decode cX9_meanings 6 = .ok (.lconst 1, 1) := by decide +kernel
theorem dX9_meanings_7 : decode cX9_meanings 7 = .ok (.ldc2_w 203, 3) := by decide +kernel
theorem dX9_meanings_10 : decode cX9_meanings 10 = .ok (.invokestatic 78, 3) := by decide +kernel
theorem dX9_meanings_13 : decode cX9_meanings 13 = .ok (.ifCond .ne 5, 3) := by decide +kernel
theorem dX9_meanings_16 : decode cX9_meanings 16 = .ok (.iconst (-1), 1) := by decide +kernel
theorem dX9_meanings_17 : decode cX9_meanings 17 = .ok (.ireturn, 1) := by decide +kernel
theorem dX9_meanings_18 : decode cX9_meanings 18 = .ok (.aload_n 0, 1) := by decide +kernel
theorem dX9_meanings_19 : decode cX9_meanings 19 = .ok (.bipush (-9), 2) := by decide +kernel
theorem dX9_meanings_21 : decode cX9_meanings 21 = .ok (.invokevirtual 182, 3) := by decide +kernel
theorem dX9_meanings_24 : decode cX9_meanings 24 = .ok (.iload_n 1, 1) := by decide +kernel
theorem dX9_meanings_25 : decode cX9_meanings 25 = .ok (.aload_n 0, 1) := by decide +kernel
theorem dX9_meanings_26 : decode cX9_meanings 26 = .ok (.getfield 174, 3) := by decide +kernel
theorem dX9_meanings_29 : decode cX9_meanings 29 = .ok (.if_icmp .ge 12, 3) := by decide +kernel
theorem dX9_meanings_32 : decode cX9_meanings 32 = .ok (.aload_n 0, 1) := by decide +kernel
theorem dX9_meanings_33 : decode cX9_meanings 33 = .ok (.iload_n 1, 1) := by decide +kernel
theorem dX9_meanings_34 : decode cX9_meanings 34 = .ok (.iload_n 2, 1) := by decide +kernel
theorem dX9_meanings_35 : decode cX9_meanings 35 = .ok (.invokevirtual 208, 3) := by decide +kernel
theorem dX9_meanings_38 : decode cX9_meanings 38 = .ok (.goto 5, 3) := by decide +kernel
theorem dX9_meanings_41 : decode cX9_meanings 41 = .ok (.bipush (-9), 2) := by decide +kernel
theorem dX9_meanings_43 : decode cX9_meanings 43 = .ok (.ireturn, 1) := by decide +kernel
theorem dX9_farthest_0 : decode cX9_farthest 0 = .ok (.aload_n 0, 1) := by decide +kernel
theorem dX9_farthest_1 : decode cX9_farthest 1 = .ok (.getfield 174, 3) := by decide +kernel
theorem dX9_farthest_4 : decode cX9_farthest 4 = .ok (.bipush (-9), 2) := by decide +kernel
theorem dX9_farthest_6 : decode cX9_farthest 6 = .ok (.if_icmp .ne 8, 3) := by decide +kernel
theorem dX9_farthest_9 : decode cX9_farthest 9 = .ok (.bipush (-9), 2) := by decide +kernel
theorem dX9_farthest_11 : decode cX9_farthest 11 = .ok (.goto 5, 3) := by decide +kernel
theorem dX9_farthest_14 : decode cX9_farthest 14 = .ok (.bipush 9, 2) := by decide +kernel
theorem dX9_farthest_16 : decode cX9_farthest 16 = .ok (.istore_n 1, 1) := by decide +kernel
theorem dX9_farthest_17 : decode cX9_farthest 17 = .ok (.iconst 0, 1) := by decide +kernel
theorem dX9_farthest_18 : decode cX9_farthest 18 = .ok (.istore_n 2, 1) := by decide +kernel
theorem dX9_farthest_19 : decode cX9_farthest 19 = .ok (.iload_n 2, 1) := by decide +kernel
theorem dX9_farthest_20 : decode cX9_farthest 20 = .ok (.aload_n 0, 1) := by decide +kernel
theorem dX9_farthest_21 : decode cX9_farthest 21 = .ok (.getfield 174, 3) := by decide +kernel
theorem dX9_farthest_24 : decode cX9_farthest 24 = .ok (.if_icmp .ge 29, 3) := by decide +kernel
theorem dX9_farthest_27 : decode cX9_farthest 27 = .ok (.iload_n 1, 1) := by decide +kernel
theorem dX9_farthest_28 : decode cX9_farthest 28 = .ok (.ifCond .le 19, 3) := by decide +kernel
theorem dX9_farthest_31 : decode cX9_farthest 31 = .ok (.aload_n 0, 1) := by decide +kernel
theorem dX9_farthest_32 : decode cX9_farthest 32 = .ok (.iload_n 2, 1) := by decide +kernel
theorem dX9_farthest_33 : decode cX9_farthest 33 = .ok (.iload_n 1, 1) := by decide +kernel
theorem dX9_farthest_34 : decode cX9_farthest 34 = .ok (.invokevirtual 208, 3) := by decide +kernel
theorem dX9_farthest_37 : decode cX9_farthest 37 = .ok (.iconst 1, 1) := by decide +kernel
theorem dX9_farthest_38 : decode cX9_farthest 38 = .ok (.if_icmp .eq 9, 3) := by decide +kernel
theorem dX9_farthest_41 : decode cX9_farthest 41 = .ok (.iinc 1 (-1), 3) := by decide +kernel
theorem dX9_farthest_44 : decode cX9_farthest 44 = .ok (.goto (-17), 3) := by decide +kernel
theorem dX9_farthest_47 : decode cX9_farthest 47 = .ok (.iinc 2 1, 3) := by decide +kernel
theorem dX9_farthest_50 : decode cX9_farthest 50 = .ok (.goto (-31), 3) := by decide +kernel
theorem dX9_farthest_53 : decode cX9_farthest 53 = .ok (.iload_n 1, 1) := by decide +kernel
theorem dX9_farthest_54 : decode cX9_farthest 54 = .ok (.ireturn, 1) := by decide +kernel
theorem dX9_sees_0 : decode cX9_sees 0 = .ok (.iload_n 1, 1) := by decide +kernel
theorem dX9_sees_1 : decode cX9_sees 1 = .ok (.i2l, 1) := by decide +kernel
theorem dX9_sees_2 : decode cX9_sees 2 = .ok (.lconst 0, 1) := by decide +kernel
theorem dX9_sees_3 : decode cX9_sees 3 = .ok (.ldc2_w 151, 3) := by decide +kernel
theorem dX9_sees_6 : decode cX9_sees 6 = .ok (.invokestatic 78, 3) := by decide +kernel
theorem dX9_sees_9 : decode cX9_sees 9 = .ok (.ifCond .eq 15, 3) := by decide +kernel
theorem dX9_sees_12 : decode cX9_sees 12 = .ok (.iload_n 2, 1) := by decide +kernel
theorem dX9_sees_13 : decode cX9_sees 13 = .ok (.i2l, 1) := by decide +kernel
theorem dX9_sees_14 : decode cX9_sees 14 = .ok (.lconst 0, 1) := by decide +kernel
theorem dX9_sees_15 : decode cX9_sees 15 = .ok (.ldc2_w 151, 3) := by decide +kernel
theorem dX9_sees_18 : decode cX9_sees 18 = .ok (.invokestatic 78, 3) := by decide +kernel
theorem dX9_sees_21 : decode cX9_sees 21 = .ok (.ifCond .ne 5, 3) := by decide +kernel
theorem dX9_sees_24 : decode cX9_sees 24 = .ok (.iconst (-1), 1) := by decide +kernel
theorem dX9_sees_25 : decode cX9_sees 25 = .ok (.ireturn, 1) := by decide +kernel
theorem dX9_sees_26 : decode cX9_sees 26 = .ok (.aload_n 0, 1) := by decide +kernel
theorem dX9_sees_27 : decode cX9_sees 27 = .ok (.getfield 148, 3) := by decide +kernel
theorem dX9_sees_30 : decode cX9_sees 30 = .ok (.bipush 6, 2) := by decide +kernel
theorem dX9_sees_32 : decode cX9_sees 32 = .ok (.if_icmp .ne 6, 3) := by decide +kernel
theorem dX9_sees_35 : decode cX9_sees 35 = .ok (.bipush (-3), 2) := by decide +kernel
theorem dX9_sees_37 : decode cX9_sees 37 = .ok (.ireturn, 1) := by decide +kernel
theorem dX9_sees_38 : decode cX9_sees 38 = .ok (.aload_n 0, 1) := by decide +kernel
theorem dX9_sees_39 : decode cX9_sees 39 = .ok (.getfield 17, 3) := by decide +kernel
theorem dX9_sees_42 : decode cX9_sees 42 = .ok (.aload_n 0, 1) := by decide +kernel
theorem dX9_sees_43 : decode cX9_sees 43 = .ok (.getfield 148, 3) := by decide +kernel
theorem dX9_sees_46 : decode cX9_sees 46 = .ok (.iload_n 1, 1) := by decide +kernel
theorem dX9_sees_47 : decode cX9_sees 47 = .ok (.iastore, 1) := by decide +kernel
theorem dX9_sees_48 : decode cX9_sees 48 = .ok (.aload_n 0, 1) := by decide +kernel
theorem dX9_sees_49 : decode cX9_sees 49 = .ok (.getfield 20, 3) := by decide +kernel
theorem dX9_sees_52 : decode cX9_sees 52 = .ok (.aload_n 0, 1) := by decide +kernel
theorem dX9_sees_53 : decode cX9_sees 53 = .ok (.getfield 148, 3) := by decide +kernel
theorem dX9_sees_56 : decode cX9_sees 56 = .ok (.iload_n 2, 1) := by decide +kernel
theorem dX9_sees_57 : decode cX9_sees 57 = .ok (.iastore, 1) := by decide +kernel
theorem dX9_sees_58 : decode cX9_sees 58 = .ok (.aload_n 0, 1) := by decide +kernel
theorem dX9_sees_59 : decode cX9_sees 59 = .ok (.dup, 1) := by decide +kernel
theorem dX9_sees_60 : decode cX9_sees 60 = .ok (.getfield 148, 3) := by decide +kernel
theorem dX9_sees_63 : decode cX9_sees 63 = .ok (.iconst 1, 1) := by decide +kernel
theorem dX9_sees_64 : decode cX9_sees 64 = .ok (.iadd, 1) := by decide +kernel
theorem dX9_sees_65 : decode cX9_sees 65 = .ok (.putfield 148, 3) := by decide +kernel
theorem dX9_sees_68 : decode cX9_sees 68 = .ok (.aload_n 0, 1) := by decide +kernel
theorem dX9_sees_69 : decode cX9_sees 69 = .ok (.getfield 148, 3) := by decide +kernel
theorem dX9_sees_72 : decode cX9_sees 72 = .ok (.ireturn, 1) := by decide +kernel
theorem dX9_forget_0 : decode cX9_forget 0 = .ok (.aload_n 0, 1) := by decide +kernel
theorem dX9_forget_1 : decode cX9_forget 1 = .ok (.getfield 148, 3) := by decide +kernel
theorem dX9_forget_4 : decode cX9_forget 4 = .ok (.istore_n 1, 1) := by decide +kernel
theorem dX9_forget_5 : decode cX9_forget 5 = .ok (.aload_n 0, 1) := by decide +kernel
theorem dX9_forget_6 : decode cX9_forget 6 = .ok (.iconst 0, 1) := by decide +kernel
theorem dX9_forget_7 : decode cX9_forget 7 = .ok (.putfield 148, 3) := by decide +kernel
theorem dX9_forget_10 : decode cX9_forget 10 = .ok (.iload_n 1, 1) := by decide +kernel
theorem dX9_forget_11 : decode cX9_forget 11 = .ok (.ireturn, 1) := by decide +kernel
theorem dX9_unseen_0 : decode cX9_unseen 0 = .ok (.iconst 0, 1) := by decide +kernel
theorem dX9_unseen_1 : decode cX9_unseen 1 = .ok (.istore_n 1, 1) := by decide +kernel
theorem dX9_unseen_2 : decode cX9_unseen 2 = .ok (.iconst 0, 1) := by decide +kernel
theorem dX9_unseen_3 : decode cX9_unseen 3 = .ok (.istore_n 2, 1) := by decide +kernel
theorem dX9_unseen_4 : decode cX9_unseen 4 = .ok (.iload_n 2, 1) := by decide +kernel
theorem dX9_unseen_5 : decode cX9_unseen 5 = .ok (.aload_n 0, 1) := by decide +kernel
theorem dX9_unseen_6 : decode cX9_unseen 6 = .ok (.getfield 7, 3) := by decide +kernel
theorem dX9_unseen_9 : decode cX9_unseen 9 = .ok (.iconst 0, 1) := by decide +kernel
theorem dX9_unseen_10 : decode cX9_unseen 10 = .ok (.iaload, 1) := by decide +kernel
theorem dX9_unseen_11 : decode cX9_unseen 11 = .ok (.if_icmp .ge 107, 3) := by decide +kernel
theorem dX9_unseen_14 : decode cX9_unseen 14 = .ok (.aload_n 0, 1) := by decide +kernel
theorem dX9_unseen_15 : decode cX9_unseen 15 = .ok (.iload_n 2, 1) := by decide +kernel
theorem dX9_unseen_16 : decode cX9_unseen 16 = .ok (.invokevirtual 182, 3) := by decide +kernel
theorem dX9_unseen_19 : decode cX9_unseen 19 = .ok (.aload_n 0, 1) := by decide +kernel
theorem dX9_unseen_20 : decode cX9_unseen 20 = .ok (.getfield 174, 3) := by decide +kernel
theorem dX9_unseen_23 : decode cX9_unseen 23 = .ok (.bipush (-9), 2) := by decide +kernel
theorem dX9_unseen_25 : decode cX9_unseen 25 = .ok (.if_icmp .eq 7, 3) := by decide +kernel
theorem dX9_unseen_28 : decode cX9_unseen 28 = .ok (.iconst 1, 1) := by decide +kernel
theorem dX9_unseen_29 : decode cX9_unseen 29 = .ok (.goto 4, 3) := by decide +kernel
theorem dX9_unseen_32 : decode cX9_unseen 32 = .ok (.iconst 0, 1) := by decide +kernel
theorem dX9_unseen_33 : decode cX9_unseen 33 = .ok (.istore_n 3, 1) := by decide +kernel
theorem dX9_unseen_34 : decode cX9_unseen 34 = .ok (.iconst 0, 1) := by decide +kernel
theorem dX9_unseen_35 : decode cX9_unseen 35 = .ok (.istore 4, 2) := by decide +kernel
theorem dX9_unseen_37 : decode cX9_unseen 37 = .ok (.iload 4, 2) := by decide +kernel
theorem dX9_unseen_39 : decode cX9_unseen 39 = .ok (.aload_n 0, 1) := by decide +kernel
theorem dX9_unseen_40 : decode cX9_unseen 40 = .ok (.getfield 148, 3) := by decide +kernel
theorem dX9_unseen_43 : decode cX9_unseen 43 = .ok (.if_icmp .ge 55, 3) := by decide +kernel
theorem dX9_unseen_46 : decode cX9_unseen 46 = .ok (.iload_n 3, 1) := by decide +kernel
theorem dX9_unseen_47 : decode cX9_unseen 47 = .ok (.ifCond .eq 51, 3) := by decide +kernel
theorem dX9_unseen_50 : decode cX9_unseen 50 = .ok (.aload_n 0, 1) := by decide +kernel
theorem dX9_unseen_51 : decode cX9_unseen 51 = .ok (.aload_n 0, 1) := by decide +kernel
theorem dX9_unseen_52 : decode cX9_unseen 52 = .ok (.getfield 17, 3) := by decide +kernel
theorem dX9_unseen_55 : decode cX9_unseen 55 = .ok (.iload 4, 2) := by decide +kernel
theorem dX9_unseen_57 : decode cX9_unseen 57 = .ok (.iaload, 1) := by decide +kernel
theorem dX9_unseen_58 : decode cX9_unseen 58 = .ok (.invokevirtual 186, 3) := by decide +kernel
theorem dX9_unseen_61 : decode cX9_unseen 61 = .ok (.istore 5, 2) := by decide +kernel
theorem dX9_unseen_63 : decode cX9_unseen 63 = .ok (.aload_n 0, 1) := by decide +kernel
theorem dX9_unseen_64 : decode cX9_unseen 64 = .ok (.getfield 20, 3) := by decide +kernel
theorem dX9_unseen_67 : decode cX9_unseen 67 = .ok (.iload 4, 2) := by decide +kernel
theorem dX9_unseen_69 : decode cX9_unseen 69 = .ok (.iaload, 1) := by decide +kernel
theorem dX9_unseen_70 : decode cX9_unseen 70 = .ok (.iload 5, 2) := by decide +kernel
theorem dX9_unseen_72 : decode cX9_unseen 72 = .ok (.bipush (-9), 2) := by decide +kernel
theorem dX9_unseen_74 : decode cX9_unseen 74 = .ok (.if_icmp .ne 7, 3) := by decide +kernel
theorem dX9_unseen_77 : decode cX9_unseen 77 = .ok (.iconst 0, 1) := by decide +kernel
theorem dX9_unseen_78 : decode cX9_unseen 78 = .ok (.goto 5, 3) := by decide +kernel
theorem dX9_unseen_81 : decode cX9_unseen 81 = .ok (.iload 5, 2) := by decide +kernel
theorem dX9_unseen_83 : decode cX9_unseen 83 = .ok (.if_icmp .ne 7, 3) := by decide +kernel
theorem dX9_unseen_86 : decode cX9_unseen 86 = .ok (.iconst 1, 1) := by decide +kernel
theorem dX9_unseen_87 : decode cX9_unseen 87 = .ok (.goto 4, 3) := by decide +kernel
theorem dX9_unseen_90 : decode cX9_unseen 90 = .ok (.iconst 0, 1) := by decide +kernel
theorem dX9_unseen_91 : decode cX9_unseen 91 = .ok (.istore_n 3, 1) := by decide +kernel
theorem dX9_unseen_92 : decode cX9_unseen 92 = .ok (.iinc 4 1, 3) := by decide +kernel
theorem dX9_unseen_95 : decode cX9_unseen 95 = .ok (.goto (-58), 3) := by decide +kernel
theorem dX9_unseen_98 : decode cX9_unseen 98 = .ok (.iload_n 1, 1) := by decide +kernel
theorem dX9_unseen_99 : decode cX9_unseen 99 = .ok (.iload_n 3, 1) := by decide +kernel
theorem dX9_unseen_100 : decode cX9_unseen 100 = .ok (.ifCond .eq 9, 3) := by decide +kernel
theorem dX9_unseen_103 : decode cX9_unseen 103 = .ok (.iconst 1, 1) := by decide +kernel
theorem dX9_unseen_104 : decode cX9_unseen 104 = .ok (.iload_n 2, 1) := by decide +kernel
theorem dX9_unseen_105 : decode cX9_unseen 105 = .ok (.ishl, 1) := by decide +kernel
theorem dX9_unseen_106 : decode cX9_unseen 106 = .ok (.goto 4, 3) := by decide +kernel
theorem dX9_unseen_109 : decode cX9_unseen 109 = .ok (.iconst 0, 1) := by decide +kernel
theorem dX9_unseen_110 : decode cX9_unseen 110 = .ok (.ior, 1) := by decide +kernel
theorem dX9_unseen_111 : decode cX9_unseen 111 = .ok (.istore_n 1, 1) := by decide +kernel
theorem dX9_unseen_112 : decode cX9_unseen 112 = .ok (.iinc 2 1, 3) := by decide +kernel
theorem dX9_unseen_115 : decode cX9_unseen 115 = .ok (.goto (-111), 3) := by decide +kernel
theorem dX9_unseen_118 : decode cX9_unseen 118 = .ok (.iload_n 1, 1) := by decide +kernel
theorem dX9_unseen_119 : decode cX9_unseen 119 = .ok (.ireturn, 1) := by decide +kernel
theorem dX9_keep_0 : decode cX9_keep 0 = .ok (.iload_n 1, 1) := by decide +kernel
theorem dX9_keep_1 : decode cX9_keep 1 = .ok (.i2l, 1) := by decide +kernel
theorem dX9_keep_2 : decode cX9_keep 2 = .ok (.lconst 0, 1) := by decide +kernel
theorem dX9_keep_3 : decode cX9_keep 3 = .ok (.lconst 1, 1) := by decide +kernel
theorem dX9_keep_4 : decode cX9_keep 4 = .ok (.invokestatic 78, 3) := by decide +kernel
theorem dX9_keep_7 : decode cX9_keep 7 = .ok (.ifCond .ne 5, 3) := by decide +kernel
theorem dX9_keep_10 : decode cX9_keep 10 = .ok (.iconst (-1), 1) := by decide +kernel
theorem dX9_keep_11 : decode cX9_keep 11 = .ok (.ireturn, 1) := by decide +kernel
theorem dX9_keep_12 : decode cX9_keep 12 = .ok (.aload_n 0, 1) := by decide +kernel
theorem dX9_keep_13 : decode cX9_keep 13 = .ok (.iconst 0, 1) := by decide +kernel
theorem dX9_keep_14 : decode cX9_keep 14 = .ok (.bipush 12, 2) := by decide +kernel
theorem dX9_keep_16 : decode cX9_keep 16 = .ok (.bipush 12, 2) := by decide +kernel
theorem dX9_keep_18 : decode cX9_keep 18 = .ok (.iload_n 1, 1) := by decide +kernel
theorem dX9_keep_19 : decode cX9_keep 19 = .ok (.imul, 1) := by decide +kernel
theorem dX9_keep_20 : decode cX9_keep 20 = .ok (.iadd, 1) := by decide +kernel
theorem dX9_keep_21 : decode cX9_keep 21 = .ok (.invokevirtual 70, 3) := by decide +kernel
theorem dX9_keep_24 : decode cX9_keep 24 = .ok (.aload_n 0, 1) := by decide +kernel
theorem dX9_keep_25 : decode cX9_keep 25 = .ok (.getfield 13, 3) := by decide +kernel
theorem dX9_keep_28 : decode cX9_keep 28 = .ok (.iload_n 1, 1) := by decide +kernel
theorem dX9_keep_29 : decode cX9_keep 29 = .ok (.iconst 1, 1) := by decide +kernel
theorem dX9_keep_30 : decode cX9_keep 30 = .ok (.bastore, 1) := by decide +kernel
theorem dX9_keep_31 : decode cX9_keep 31 = .ok (.aload_n 0, 1) := by decide +kernel
theorem dX9_keep_32 : decode cX9_keep 32 = .ok (.getfield 7, 3) := by decide +kernel
theorem dX9_keep_35 : decode cX9_keep 35 = .ok (.iconst 0, 1) := by decide +kernel
theorem dX9_keep_36 : decode cX9_keep 36 = .ok (.iaload, 1) := by decide +kernel
theorem dX9_keep_37 : decode cX9_keep 37 = .ok (.ireturn, 1) := by decide +kernel
theorem dX9_back_0 : decode cX9_back 0 = .ok (.iload_n 1, 1) := by decide +kernel
theorem dX9_back_1 : decode cX9_back 1 = .ok (.i2l, 1) := by decide +kernel
theorem dX9_back_2 : decode cX9_back 2 = .ok (.lconst 0, 1) := by decide +kernel
theorem dX9_back_3 : decode cX9_back 3 = .ok (.lconst 1, 1) := by decide +kernel
theorem dX9_back_4 : decode cX9_back 4 = .ok (.invokestatic 78, 3) := by decide +kernel
theorem dX9_back_7 : decode cX9_back 7 = .ok (.ifCond .ne 5, 3) := by decide +kernel
theorem dX9_back_10 : decode cX9_back 10 = .ok (.iconst (-1), 1) := by decide +kernel
theorem dX9_back_11 : decode cX9_back 11 = .ok (.ireturn, 1) := by decide +kernel
theorem dX9_back_12 : decode cX9_back 12 = .ok (.aload_n 0, 1) := by decide +kernel
theorem dX9_back_13 : decode cX9_back 13 = .ok (.getfield 13, 3) := by decide +kernel
theorem dX9_back_16 : decode cX9_back 16 = .ok (.iload_n 1, 1) := by decide +kernel
theorem dX9_back_17 : decode cX9_back 17 = .ok (.baload, 1) := by decide +kernel
theorem dX9_back_18 : decode cX9_back 18 = .ok (.ifCond .ne 6, 3) := by decide +kernel
theorem dX9_back_21 : decode cX9_back 21 = .ok (.bipush (-2), 2) := by decide +kernel
theorem dX9_back_23 : decode cX9_back 23 = .ok (.ireturn, 1) := by decide +kernel
theorem dX9_back_24 : decode cX9_back 24 = .ok (.aload_n 0, 1) := by decide +kernel
theorem dX9_back_25 : decode cX9_back 25 = .ok (.bipush 12, 2) := by decide +kernel
theorem dX9_back_27 : decode cX9_back 27 = .ok (.bipush 12, 2) := by decide +kernel
theorem dX9_back_29 : decode cX9_back 29 = .ok (.iload_n 1, 1) := by decide +kernel
theorem dX9_back_30 : decode cX9_back 30 = .ok (.imul, 1) := by decide +kernel
theorem dX9_back_31 : decode cX9_back 31 = .ok (.iadd, 1) := by decide +kernel
theorem dX9_back_32 : decode cX9_back 32 = .ok (.iconst 0, 1) := by decide +kernel
theorem dX9_back_33 : decode cX9_back 33 = .ok (.invokevirtual 70, 3) := by decide +kernel
theorem dX9_back_36 : decode cX9_back 36 = .ok (.aload_n 0, 1) := by decide +kernel
theorem dX9_back_37 : decode cX9_back 37 = .ok (.iconst 0, 1) := by decide +kernel
theorem dX9_back_38 : decode cX9_back 38 = .ok (.putfield 66, 3) := by decide +kernel
theorem dX9_back_41 : decode cX9_back 41 = .ok (.aload_n 0, 1) := by decide +kernel
theorem dX9_back_42 : decode cX9_back 42 = .ok (.getfield 7, 3) := by decide +kernel
theorem dX9_back_45 : decode cX9_back 45 = .ok (.iconst 0, 1) := by decide +kernel
theorem dX9_back_46 : decode cX9_back 46 = .ok (.iaload, 1) := by decide +kernel
theorem dX9_back_47 : decode cX9_back 47 = .ok (.ireturn, 1) := by decide +kernel
theorem dX9_count0_0 : decode cX9_count0 0 = .ok (.aload_n 0, 1) := by decide +kernel
theorem dX9_count0_1 : decode cX9_count0 1 = .ok (.bipush (-9), 2) := by decide +kernel
theorem dX9_count0_3 : decode cX9_count0 3 = .ok (.invokevirtual 182, 3) := by decide +kernel
theorem dX9_count0_6 : decode cX9_count0 6 = .ok (.iload_n 1, 1) := by decide +kernel
theorem dX9_count0_7 : decode cX9_count0 7 = .ok (.iconst 3, 1) := by decide +kernel
theorem dX9_count0_8 : decode cX9_count0 8 = .ok (.if_icmp .ne 10, 3) := by decide +kernel
theorem dX9_count0_11 : decode cX9_count0 11 = .ok (.aload_n 0, 1) := by decide +kernel
theorem dX9_count0_12 : decode cX9_count0 12 = .ok (.getfield 174, 3) := by decide +kernel
theorem dX9_count0_15 : decode cX9_count0 15 = .ok (.goto 7, 3) := by decide +kernel
theorem dX9_count0_18 : decode cX9_count0 18 = .ok (.aload_n 0, 1) := by decide +kernel
theorem dX9_count0_19 : decode cX9_count0 19 = .ok (.invokevirtual 211, 3) := by decide +kernel
theorem dX9_count0_22 : decode cX9_count0 22 = .ok (.ireturn, 1) := by decide +kernel
theorem dX9_count_0 : decode cX9_count 0 = .ok (.iload_n 1, 1) := by decide +kernel
theorem dX9_count_1 : decode cX9_count 1 = .ok (.tableswitch 127 0 9 #[55, 60, 67, 75, 75, 81, 104, 112, 117, 122], 55) := by decide +kernel
theorem dX9_count_56 : decode cX9_count 56 = .ok (.aload_n 0, 1) := by decide +kernel
theorem dX9_count_57 : decode cX9_count 57 = .ok (.getfield 145, 3) := by decide +kernel
theorem dX9_count_60 : decode cX9_count 60 = .ok (.ireturn, 1) := by decide +kernel
theorem dX9_count_61 : decode cX9_count 61 = .ok (.aload_n 0, 1) := by decide +kernel
theorem dX9_count_62 : decode cX9_count 62 = .ok (.getfield 7, 3) := by decide +kernel
theorem dX9_count_65 : decode cX9_count 65 = .ok (.iconst 0, 1) := by decide +kernel
theorem dX9_count_66 : decode cX9_count 66 = .ok (.iaload, 1) := by decide +kernel
theorem dX9_count_67 : decode cX9_count 67 = .ok (.ireturn, 1) := by decide +kernel
theorem dX9_count_68 : decode cX9_count 68 = .ok (.aload_n 0, 1) := by decide +kernel
theorem dX9_count_69 : decode cX9_count 69 = .ok (.getfield 7, 3) := by decide +kernel
theorem dX9_count_72 : decode cX9_count 72 = .ok (.bipush 9, 2) := by decide +kernel
theorem dX9_count_74 : decode cX9_count 74 = .ok (.iaload, 1) := by decide +kernel
theorem dX9_count_75 : decode cX9_count 75 = .ok (.ireturn, 1) := by decide +kernel
theorem dX9_count_76 : decode cX9_count 76 = .ok (.aload_n 0, 1) := by decide +kernel
theorem dX9_count_77 : decode cX9_count 77 = .ok (.iload_n 1, 1) := by decide +kernel
theorem dX9_count_78 : decode cX9_count 78 = .ok (.invokevirtual 215, 3) := by decide +kernel
theorem dX9_count_81 : decode cX9_count 81 = .ok (.ireturn, 1) := by decide +kernel
theorem dX9_count_82 : decode cX9_count 82 = .ok (.aload_n 0, 1) := by decide +kernel
theorem dX9_count_83 : decode cX9_count 83 = .ok (.getfield 7, 3) := by decide +kernel
theorem dX9_count_86 : decode cX9_count 86 = .ok (.bipush 11, 2) := by decide +kernel
theorem dX9_count_88 : decode cX9_count 88 = .ok (.iaload, 1) := by decide +kernel
theorem dX9_count_89 : decode cX9_count 89 = .ok (.ifCond .le 13, 3) := by decide +kernel
theorem dX9_count_92 : decode cX9_count 92 = .ok (.aload_n 0, 1) := by decide +kernel
theorem dX9_count_93 : decode cX9_count 93 = .ok (.getfield 7, 3) := by decide +kernel
theorem dX9_count_96 : decode cX9_count 96 = .ok (.bipush 10, 2) := by decide +kernel
theorem dX9_count_98 : decode cX9_count 98 = .ok (.iaload, 1) := by decide +kernel
theorem dX9_count_99 : decode cX9_count 99 = .ok (.goto 5, 3) := by decide +kernel
theorem dX9_count_102 : decode cX9_count 102 = .ok (.bipush (-9), 2) := by decide +kernel
theorem dX9_count_104 : decode cX9_count 104 = .ok (.ireturn, 1) := by decide +kernel
theorem dX9_count_105 : decode cX9_count 105 = .ok (.aload_n 0, 1) := by decide +kernel
theorem dX9_count_106 : decode cX9_count 106 = .ok (.getfield 7, 3) := by decide +kernel
theorem dX9_count_109 : decode cX9_count 109 = .ok (.bipush 10, 2) := by decide +kernel
theorem dX9_count_111 : decode cX9_count 111 = .ok (.iaload, 1) := by decide +kernel
theorem dX9_count_112 : decode cX9_count 112 = .ok (.ireturn, 1) := by decide +kernel
theorem dX9_count_113 : decode cX9_count 113 = .ok (.aload_n 0, 1) := by decide +kernel
theorem dX9_count_114 : decode cX9_count 114 = .ok (.getfield 148, 3) := by decide +kernel
theorem dX9_count_117 : decode cX9_count 117 = .ok (.ireturn, 1) := by decide +kernel
theorem dX9_count_118 : decode cX9_count 118 = .ok (.aload_n 0, 1) := by decide +kernel
theorem dX9_count_119 : decode cX9_count 119 = .ok (.getfield 85, 3) := by decide +kernel
theorem dX9_count_122 : decode cX9_count 122 = .ok (.ireturn, 1) := by decide +kernel
theorem dX9_count_123 : decode cX9_count 123 = .ok (.aload_n 0, 1) := by decide +kernel
theorem dX9_count_124 : decode cX9_count 124 = .ok (.getfield 66, 3) := by decide +kernel
theorem dX9_count_127 : decode cX9_count 127 = .ok (.ireturn, 1) := by decide +kernel
theorem dX9_count_128 : decode cX9_count 128 = .ok (.iconst (-1), 1) := by decide +kernel
theorem dX9_count_129 : decode cX9_count 129 = .ok (.ireturn, 1) := by decide +kernel

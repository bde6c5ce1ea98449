/-! decode rows -/
theorem dX8_init_0 : decode cX8_init 0 = .ok (.aload_n 0, 1) := by decide +kernel
theorem dX8_init_1 : decode cX8_init 1 = .ok (.invokespecial 1, 3) := by decide +kernel
theorem dX8_init_4 : decode cX8_init 4 = .ok (.aload_n 0, 1) := by decide +kernel
theorem dX8_init_5 : decode cX8_init 5 = .ok (.new 7, 3) := by decide +kernel
theorem dX8_init_8 : decode cX8_init 8 = .ok (.dup, 1) := by decide +kernel
theorem dX8_init_9 : decode cX8_init 9 = .ok (.invokespecial 9, 3) := by decide +kernel
theorem dX8_init_12 : decode cX8_init 12 = .ok (.putfield 10, 3) := by decide +kernel
theorem dX8_init_15 : decode cX8_init 15 = .ok (.aload_n 0, 1) := by decide +kernel
theorem dX8_init_16 : decode cX8_init 16 = .ok (.new 16, 3) := by decide +kernel
theorem dX8_init_19 : decode cX8_init 19 = .ok (.dup, 1) := by decide +kernel
theorem dX8_init_20 : decode cX8_init 20 = .ok (.aload_n 0, 1) := by decide +kernel
theorem dX8_init_21 : decode cX8_init 21 = .ok (.getfield 10, 3) := by decide +kernel
theorem dX8_init_24 : decode cX8_init 24 = .ok (.invokespecial 18, 3) := by decide +kernel
theorem dX8_init_27 : decode cX8_init 27 = .ok (.putfield 21, 3) := by decide +kernel
theorem dX8_init_30 : decode cX8_init 30 = .ok (.aload_n 0, 1) := by decide +kernel
theorem dX8_init_31 : decode cX8_init 31 = .ok (.new 25, 3) := by decide +kernel
theorem dX8_init_34 : decode cX8_init 34 = .ok (.dup, 1) := by decide +kernel
theorem dX8_init_35 : decode cX8_init 35 = .ok (.invokespecial 27, 3) := by decide +kernel
theorem dX8_init_38 : decode cX8_init 38 = .ok (.putfield 28, 3) := by decide +kernel
theorem dX8_init_41 : decode cX8_init 41 = .ok (.aload_n 0, 1) := by decide +kernel
theorem dX8_init_42 : decode cX8_init 42 = .ok (.new 32, 3) := by decide +kernel
theorem dX8_init_45 : decode cX8_init 45 = .ok (.dup, 1) := by decide +kernel
theorem dX8_init_46 : decode cX8_init 46 = .ok (.invokespecial 34, 3) := by decide +kernel
theorem dX8_init_49 : decode cX8_init 49 = .ok (.putfield 35, 3) := by decide +kernel
theorem dX8_init_52 : decode cX8_init 52 = .ok (.aload_n 0, 1) := by decide +kernel
theorem dX8_init_53 : decode cX8_init 53 = .ok (.getfield 35, 3) := by decide +kernel
theorem dX8_init_56 : decode cX8_init 56 = .ok (.aload_n 0, 1) := by decide +kernel
theorem dX8_init_57 : decode cX8_init 57 = .ok (.getfield 28, 3) := by decide +kernel
theorem dX8_init_60 : decode cX8_init 60 = .ok (.getfield 39, 3) := by decide +kernel
theorem dX8_init_63 : decode cX8_init 63 = .ok (.invokevirtual 43, 3) := by decide +kernel
theorem dX8_init_66 : decode cX8_init 66 = .ok (.aload_n 0, 1) := by decide +kernel
theorem dX8_init_67 : decode cX8_init 67 = .ok (.new 47, 3) := by decide +kernel
theorem dX8_init_70 : decode cX8_init 70 = .ok (.dup, 1) := by decide +kernel
theorem dX8_init_71 : decode cX8_init 71 = .ok (.invokespecial 49, 3) := by decide +kernel
theorem dX8_init_74 : decode cX8_init 74 = .ok (.putfield 50, 3) := by decide +kernel
theorem dX8_init_77 : decode cX8_init 77 = .ok (.aload_n 0, 1) := by decide +kernel
theorem dX8_init_78 : decode cX8_init 78 = .ok (.iconst 2, 1) := by decide +kernel
theorem dX8_init_79 : decode cX8_init 79 = .ok (.anewarray 32, 3) := by decide +kernel
theorem dX8_init_82 : decode cX8_init 82 = .ok (.putfield 54, 3) := by decide +kernel
theorem dX8_init_85 : decode cX8_init 85 = .ok (.iconst 0, 1) := by decide +kernel
theorem dX8_init_86 : decode cX8_init 86 = .ok (.istore_n 1, 1) := by decide +kernel
theorem dX8_init_87 : decode cX8_init 87 = .ok (.iload_n 1, 1) := by decide +kernel
theorem dX8_init_88 : decode cX8_init 88 = .ok (.iconst 2, 1) := by decide +kernel
theorem dX8_init_89 : decode cX8_init 89 = .ok (.if_icmp .ge 22, 3) := by decide +kernel
theorem dX8_init_92 : decode cX8_init 92 = .ok (.aload_n 0, 1) := by decide +kernel
theorem dX8_init_93 : decode cX8_init 93 = .ok (.getfield 54, 3) := by decide +kernel
theorem dX8_init_96 : decode cX8_init 96 = .ok (.iload_n 1, 1) := by decide +kernel
theorem dX8_init_97 : decode cX8_init 97 = .ok (.new 32, 3) := by decide +kernel
theorem dX8_init_100 : decode cX8_init 100 = .ok (.dup, 1) := by decide +kernel
theorem dX8_init_101 : decode cX8_init 101 = .ok (.invokespecial 34, 3) := by decide +kernel
theorem dX8_init_104 : decode cX8_init 104 = .ok (.aastore, 1) := by decide +kernel
theorem dX8_init_105 : decode cX8_init 105 = .ok (.iinc 1 1, 3) := by decide +kernel
theorem dX8_init_108 : decode cX8_init 108 = .ok (.goto (-21), 3) := by decide +kernel
theorem dX8_init_111 : decode cX8_init 111 = .ok (.aload_n 0, 1) := by decide +kernel
theorem dX8_init_112 : decode cX8_init 112 = .ok (.iconst 2, 1) := by decide +kernel
theorem dX8_init_113 : decode cX8_init 113 = .ok (.newarray .boolean, 2) := by decide +kernel
theorem dX8_init_115 : decode cX8_init 115 = .ok (.putfield 58, 3) := by decide +kernel
theorem dX8_init_118 : decode cX8_init 118 = .ok (.aload_n 0, 1) := by decide +kernel
theorem dX8_init_119 : decode cX8_init 119 = .ok (.new 62, 3) := by decide +kernel
theorem dX8_init_122 : decode cX8_init 122 = .ok (.dup, 1) := by decide +kernel
theorem dX8_init_123 : decode cX8_init 123 = .ok (.invokespecial 64, 3) := by decide +kernel
theorem dX8_init_126 : decode cX8_init 126 = .ok (.putfield 65, 3) := by decide +kernel
theorem dX8_init_129 : decode cX8_init 129 = .ok (.aload_n 0, 1) := by decide +kernel
theorem dX8_init_130 : decode cX8_init 130 = .ok (.new 69, 3) := by decide +kernel
theorem dX8_init_133 : decode cX8_init 133 = .ok (.dup, 1) := by decide +kernel
theorem dX8_init_134 : decode cX8_init 134 = .ok (.aload_n 0, 1) := by decide +kernel
theorem dX8_init_135 : decode cX8_init 135 = .ok (.getfield 28, 3) := by decide +kernel
theorem dX8_init_138 : decode cX8_init 138 = .ok (.invokespecial 71, 3) := by decide +kernel
theorem dX8_init_141 : decode cX8_init 141 = .ok (.putfield 74, 3) := by decide +kernel
theorem dX8_init_144 : decode cX8_init 144 = .ok (.return_, 1) := by decide +kernel
theorem dX8_type_0 : decode cX8_type 0 = .ok (.iload_n 1, 1) := by decide +kernel
theorem dX8_type_1 : decode cX8_type 1 = .ok (.ifCond .lt 10, 3) := by decide +kernel
theorem dX8_type_4 : decode cX8_type 4 = .ok (.iload_n 1, 1) := by decide +kernel
theorem dX8_type_5 : decode cX8_type 5 = .ok (.sipush 255, 3) := by decide +kernel
theorem dX8_type_8 : decode cX8_type 8 = .ok (.if_icmp .le 5, 3) := by decide +kernel
theorem dX8_type_11 : decode cX8_type 11 = .ok (.iconst (-1), 1) := by decide +kernel
theorem dX8_type_12 : decode cX8_type 12 = .ok (.ireturn, 1) := by decide +kernel
theorem dX8_type_13 : decode cX8_type 13 = .ok (.aload_n 0, 1) := by decide +kernel
theorem dX8_type_14 : decode cX8_type 14 = .ok (.getfield 10, 3) := by decide +kernel
theorem dX8_type_17 : decode cX8_type 17 = .ok (.getfield 78, 3) := by decide +kernel
theorem dX8_type_20 : decode cX8_type 20 = .ok (.bipush 120, 2) := by decide +kernel
theorem dX8_type_22 : decode cX8_type 22 = .ok (.if_icmp .lt 6, 3) := by decide +kernel
theorem dX8_type_25 : decode cX8_type 25 = .ok (.bipush (-3), 2) := by decide +kernel
theorem dX8_type_27 : decode cX8_type 27 = .ok (.ireturn, 1) := by decide +kernel
theorem dX8_type_28 : decode cX8_type 28 = .ok (.aload_n 0, 1) := by decide +kernel
theorem dX8_type_29 : decode cX8_type 29 = .ok (.getfield 10, 3) := by decide +kernel
theorem dX8_type_32 : decode cX8_type 32 = .ok (.getfield 81, 3) := by decide +kernel
theorem dX8_type_35 : decode cX8_type 35 = .ok (.aload_n 0, 1) := by decide +kernel
theorem dX8_type_36 : decode cX8_type 36 = .ok (.getfield 10, 3) := by decide +kernel
theorem dX8_type_39 : decode cX8_type 39 = .ok (.getfield 78, 3) := by decide +kernel
theorem dX8_type_42 : decode cX8_type 42 = .ok (.iload_n 1, 1) := by decide +kernel
theorem dX8_type_43 : decode cX8_type 43 = .ok (.iastore, 1) := by decide +kernel
theorem dX8_type_44 : decode cX8_type 44 = .ok (.aload_n 0, 1) := by decide +kernel
theorem dX8_type_45 : decode cX8_type 45 = .ok (.getfield 10, 3) := by decide +kernel
theorem dX8_type_48 : decode cX8_type 48 = .ok (.dup, 1) := by decide +kernel
theorem dX8_type_49 : decode cX8_type 49 = .ok (.getfield 78, 3) := by decide +kernel
theorem dX8_type_52 : decode cX8_type 52 = .ok (.iconst 1, 1) := by decide +kernel
theorem dX8_type_53 : decode cX8_type 53 = .ok (.iadd, 1) := by decide +kernel
theorem dX8_type_54 : decode cX8_type 54 = .ok (.putfield 78, 3) := by decide +kernel
theorem dX8_type_57 : decode cX8_type 57 = .ok (.aload_n 0, 1) := by decide +kernel
theorem dX8_type_58 : decode cX8_type 58 = .ok (.getfield 10, 3) := by decide +kernel
theorem dX8_type_61 : decode cX8_type 61 = .ok (.getfield 78, 3) := by decide +kernel
theorem dX8_type_64 : decode cX8_type 64 = .ok (.ireturn, 1) := by decide +kernel
theorem dX8_clear_0 : decode cX8_clear 0 = .ok (.aload_n 0, 1) := by decide +kernel
theorem dX8_clear_1 : decode cX8_clear 1 = .ok (.getfield 10, 3) := by decide +kernel
theorem dX8_clear_4 : decode cX8_clear 4 = .ok (.getfield 78, 3) := by decide +kernel
theorem dX8_clear_7 : decode cX8_clear 7 = .ok (.istore_n 1, 1) := by decide +kernel
theorem dX8_clear_8 : decode cX8_clear 8 = .ok (.aload_n 0, 1) := by decide +kernel
theorem dX8_clear_9 : decode cX8_clear 9 = .ok (.getfield 10, 3) := by decide +kernel
theorem dX8_clear_12 : decode cX8_clear 12 = .ok (.iconst 0, 1) := by decide +kernel
theorem dX8_clear_13 : decode cX8_clear 13 = .ok (.putfield 78, 3) := by decide +kernel
theorem dX8_clear_16 : decode cX8_clear 16 = .ok (.iload_n 1, 1) := by decide +kernel
theorem dX8_clear_17 : decode cX8_clear 17 = .ok (.ireturn, 1) := by decide +kernel
theorem dX8_book_0 : decode cX8_book 0 = .ok (.aload_n 0, 1) := by decide +kernel
theorem dX8_book_1 : decode cX8_book 1 = .ok (.getfield 21, 3) := by decide +kernel
theorem dX8_book_4 : decode cX8_book 4 = .ok (.invokevirtual 85, 3) := by decide +kernel
theorem dX8_book_7 : decode cX8_book 7 = .ok (.istore_n 1, 1) := by decide +kernel
theorem dX8_book_8 : decode cX8_book 8 = .ok (.iload_n 1, 1) := by decide +kernel
theorem dX8_book_9 : decode cX8_book 9 = .ok (.ifCond .ge 5, 3) := by decide +kernel
theorem dX8_book_12 : decode cX8_book 12 = .ok (.iload_n 1, 1) := by decide +kernel
theorem dX8_book_13 : decode cX8_book 13 = .ok (.ireturn, 1) := by decide +kernel
theorem dX8_book_14 : decode cX8_book 14 = .ok (.aload_n 0, 1) := by decide +kernel
theorem dX8_book_15 : decode cX8_book 15 = .ok (.getfield 28, 3) := by decide +kernel
theorem dX8_book_18 : decode cX8_book 18 = .ok (.aload_n 0, 1) := by decide +kernel
theorem dX8_book_19 : decode cX8_book 19 = .ok (.getfield 21, 3) := by decide +kernel
theorem dX8_book_22 : decode cX8_book 22 = .ok (.getfield 89, 3) := by decide +kernel
theorem dX8_book_25 : decode cX8_book 25 = .ok (.invokevirtual 92, 3) := by decide +kernel
theorem dX8_book_28 : decode cX8_book 28 = .ok (.aload_n 0, 1) := by decide +kernel
theorem dX8_book_29 : decode cX8_book 29 = .ok (.getfield 10, 3) := by decide +kernel
theorem dX8_book_32 : decode cX8_book 32 = .ok (.iconst 0, 1) := by decide +kernel
theorem dX8_book_33 : decode cX8_book 33 = .ok (.putfield 78, 3) := by decide +kernel
theorem dX8_book_36 : decode cX8_book 36 = .ok (.aload_n 0, 1) := by decide +kernel
theorem dX8_book_37 : decode cX8_book 37 = .ok (.getfield 35, 3) := by decide +kernel
theorem dX8_book_40 : decode cX8_book 40 = .ok (.aload_n 0, 1) := by decide +kernel
theorem dX8_book_41 : decode cX8_book 41 = .ok (.getfield 28, 3) := by decide +kernel
theorem dX8_book_44 : decode cX8_book 44 = .ok (.getfield 39, 3) := by decide +kernel
theorem dX8_book_47 : decode cX8_book 47 = .ok (.invokevirtual 43, 3) := by decide +kernel
theorem dX8_book_50 : decode cX8_book 50 = .ok (.aload_n 0, 1) := by decide +kernel
theorem dX8_book_51 : decode cX8_book 51 = .ok (.getfield 50, 3) := by decide +kernel
theorem dX8_book_54 : decode cX8_book 54 = .ok (.iconst 0, 1) := by decide +kernel
theorem dX8_book_55 : decode cX8_book 55 = .ok (.putfield 95, 3) := by decide +kernel
theorem dX8_book_58 : decode cX8_book 58 = .ok (.aload_n 0, 1) := by decide +kernel
theorem dX8_book_59 : decode cX8_book 59 = .ok (.getfield 65, 3) := by decide +kernel
theorem dX8_book_62 : decode cX8_book 62 = .ok (.iconst 0, 1) := by decide +kernel
theorem dX8_book_63 : decode cX8_book 63 = .ok (.putfield 98, 3) := by decide +kernel
theorem dX8_book_66 : decode cX8_book 66 = .ok (.iconst 0, 1) := by decide +kernel
theorem dX8_book_67 : decode cX8_book 67 = .ok (.istore_n 2, 1) := by decide +kernel
theorem dX8_book_68 : decode cX8_book 68 = .ok (.iload_n 2, 1) := by decide +kernel
theorem dX8_book_69 : decode cX8_book 69 = .ok (.iconst 2, 1) := by decide +kernel
theorem dX8_book_70 : decode cX8_book 70 = .ok (.if_icmp .ge 16, 3) := by decide +kernel
theorem dX8_book_73 : decode cX8_book 73 = .ok (.aload_n 0, 1) := by decide +kernel
theorem dX8_book_74 : decode cX8_book 74 = .ok (.getfield 58, 3) := by decide +kernel
theorem dX8_book_77 : decode cX8_book 77 = .ok (.iload_n 2, 1) := by decide +kernel
theorem dX8_book_78 : decode cX8_book 78 = .ok (.iconst 0, 1) := by decide +kernel
theorem dX8_book_79 : decode cX8_book 79 = .ok (.bastore, 1) := by decide +kernel
theorem dX8_book_80 : decode cX8_book 80 = .ok (.iinc 2 1, 3) := by decide +kernel
theorem dX8_book_83 : decode cX8_book 83 = .ok (.goto (-15), 3) := by decide +kernel
theorem dX8_book_86 : decode cX8_book 86 = .ok (.iload_n 1, 1) := by decide +kernel
theorem dX8_book_87 : decode cX8_book 87 = .ok (.ireturn, 1) := by decide +kernel
theorem dX8_flag_0 : decode cX8_flag 0 = .ok (.iload_n 1, 1) := by decide +kernel
theorem dX8_flag_1 : decode cX8_flag 1 = .ok (.ifCond .lt 18, 3) := by decide +kernel
theorem dX8_flag_4 : decode cX8_flag 4 = .ok (.iload_n 1, 1) := by decide +kernel
theorem dX8_flag_5 : decode cX8_flag 5 = .ok (.bipush 8, 2) := by decide +kernel
theorem dX8_flag_7 : decode cX8_flag 7 = .ok (.if_icmp .ge 12, 3) := by decide +kernel
theorem dX8_flag_10 : decode cX8_flag 10 = .ok (.iload_n 2, 1) := by decide +kernel
theorem dX8_flag_11 : decode cX8_flag 11 = .ok (.ifCond .lt 8, 3) := by decide +kernel
theorem dX8_flag_14 : decode cX8_flag 14 = .ok (.iload_n 2, 1) := by decide +kernel
theorem dX8_flag_15 : decode cX8_flag 15 = .ok (.iconst 1, 1) := by decide +kernel
theorem dX8_flag_16 : decode cX8_flag 16 = .ok (.if_icmp .le 5, 3) := by decide +kernel
theorem dX8_flag_19 : decode cX8_flag 19 = .ok (.iconst (-1), 1) := by decide +kernel
theorem dX8_flag_20 : decode cX8_flag 20 = .ok (.ireturn, 1) := by decide +kernel
theorem dX8_flag_21 : decode cX8_flag 21 = .ok (.iload_n 2, 1) := by decide +kernel
theorem dX8_flag_22 : decode cX8_flag 22 = .ok (.ifCond .ne 15, 3) := by decide +kernel
theorem dX8_flag_25 : decode cX8_flag 25 = .ok (.aload_n 0, 1) := by decide +kernel
theorem dX8_flag_26 : decode cX8_flag 26 = .ok (.getfield 28, 3) := by decide +kernel
theorem dX8_flag_29 : decode cX8_flag 29 = .ok (.getfield 99, 3) := by decide +kernel
theorem dX8_flag_32 : decode cX8_flag 32 = .ok (.iload_n 1, 1) := by decide +kernel
theorem dX8_flag_33 : decode cX8_flag 33 = .ok (.iaload, 1) := by decide +kernel
theorem dX8_flag_34 : decode cX8_flag 34 = .ok (.goto 12, 3) := by decide +kernel
theorem dX8_flag_37 : decode cX8_flag 37 = .ok (.aload_n 0, 1) := by decide +kernel
theorem dX8_flag_38 : decode cX8_flag 38 = .ok (.getfield 28, 3) := by decide +kernel
theorem dX8_flag_41 : decode cX8_flag 41 = .ok (.getfield 102, 3) := by decide +kernel
theorem dX8_flag_44 : decode cX8_flag 44 = .ok (.iload_n 1, 1) := by decide +kernel
theorem dX8_flag_45 : decode cX8_flag 45 = .ok (.iaload, 1) := by decide +kernel
theorem dX8_flag_46 : decode cX8_flag 46 = .ok (.ireturn, 1) := by decide +kernel
theorem dX8_code_0 : decode cX8_code 0 = .ok (.aload_n 0, 1) := by decide +kernel
theorem dX8_code_1 : decode cX8_code 1 = .ok (.getfield 28, 3) := by decide +kernel
theorem dX8_code_4 : decode cX8_code 4 = .ok (.iload_n 1, 1) := by decide +kernel
theorem dX8_code_5 : decode cX8_code 5 = .ok (.invokevirtual 105, 3) := by decide +kernel
theorem dX8_code_8 : decode cX8_code 8 = .ok (.ifCond .eq 8, 3) := by decide +kernel
theorem dX8_code_11 : decode cX8_code 11 = .ok (.iload_n 2, 1) := by decide +kernel
theorem dX8_code_12 : decode cX8_code 12 = .ok (.iconst (-1), 1) := by decide +kernel
theorem dX8_code_13 : decode cX8_code 13 = .ok (.if_icmp .ge 5, 3) := by decide +kernel
theorem dX8_code_16 : decode cX8_code 16 = .ok (.iconst (-1), 1) := by decide +kernel
theorem dX8_code_17 : decode cX8_code 17 = .ok (.ireturn, 1) := by decide +kernel
theorem dX8_code_18 : decode cX8_code 18 = .ok (.iload_n 2, 1) := by decide +kernel
theorem dX8_code_19 : decode cX8_code 19 = .ok (.iconst (-1), 1) := by decide +kernel
theorem dX8_code_20 : decode cX8_code 20 = .ok (.if_icmp .ne 12, 3) := by decide +kernel
theorem dX8_code_23 : decode cX8_code 23 = .ok (.aload_n 0, 1) := by decide +kernel
theorem dX8_code_24 : decode cX8_code 24 = .ok (.getfield 28, 3) := by decide +kernel
theorem dX8_code_27 : decode cX8_code 27 = .ok (.iload_n 1, 1) := by decide +kernel
theorem dX8_code_28 : decode cX8_code 28 = .ok (.invokevirtual 109, 3) := by decide +kernel
theorem dX8_code_31 : decode cX8_code 31 = .ok (.ireturn, 1) := by decide +kernel
theorem dX8_code_32 : decode cX8_code 32 = .ok (.iload_n 2, 1) := by decide +kernel
theorem dX8_code_33 : decode cX8_code 33 = .ok (.aload_n 0, 1) := by decide +kernel
theorem dX8_code_34 : decode cX8_code 34 = .ok (.getfield 28, 3) := by decide +kernel
theorem dX8_code_37 : decode cX8_code 37 = .ok (.iload_n 1, 1) := by decide +kernel
theorem dX8_code_38 : decode cX8_code 38 = .ok (.invokevirtual 109, 3) := by decide +kernel
theorem dX8_code_41 : decode cX8_code 41 = .ok (.if_icmp .ge 15, 3) := by decide +kernel
theorem dX8_code_44 : decode cX8_code 44 = .ok (.aload_n 0, 1) := by decide +kernel
theorem dX8_code_45 : decode cX8_code 45 = .ok (.getfield 28, 3) := by decide +kernel
theorem dX8_code_48 : decode cX8_code 48 = .ok (.iload_n 1, 1) := by decide +kernel
theorem dX8_code_49 : decode cX8_code 49 = .ok (.iload_n 2, 1) := by decide +kernel
theorem dX8_code_50 : decode cX8_code 50 = .ok (.invokevirtual 113, 3) := by decide +kernel
theorem dX8_code_53 : decode cX8_code 53 = .ok (.goto 5, 3) := by decide +kernel
theorem dX8_code_56 : decode cX8_code 56 = .ok (.bipush (-9), 2) := by decide +kernel
theorem dX8_code_58 : decode cX8_code 58 = .ok (.ireturn, 1) := by decide +kernel
theorem dX8_sorted_0 : decode cX8_sorted 0 = .ok (.iload_n 1, 1) := by decide +kernel
theorem dX8_sorted_1 : decode cX8_sorted 1 = .ok (.ifCond .ge 5, 3) := by decide +kernel
theorem dX8_sorted_4 : decode cX8_sorted 4 = .ok (.iconst (-1), 1) := by decide +kernel
theorem dX8_sorted_5 : decode cX8_sorted 5 = .ok (.ireturn, 1) := by decide +kernel
theorem dX8_sorted_6 : decode cX8_sorted 6 = .ok (.iconst 0, 1) := by decide +kernel
theorem dX8_sorted_7 : decode cX8_sorted 7 = .ok (.istore_n 2, 1) := by decide +kernel
theorem dX8_sorted_8 : decode cX8_sorted 8 = .ok (.iload_n 2, 1) := by decide +kernel
theorem dX8_sorted_9 : decode cX8_sorted 9 = .ok (.aload_n 0, 1) := by decide +kernel
theorem dX8_sorted_10 : decode cX8_sorted 10 = .ok (.getfield 28, 3) := by decide +kernel
theorem dX8_sorted_13 : decode cX8_sorted 13 = .ok (.getfield 117, 3) := by decide +kernel
theorem dX8_sorted_16 : decode cX8_sorted 16 = .ok (.if_icmp .ge 23, 3) := by decide +kernel
theorem dX8_sorted_19 : decode cX8_sorted 19 = .ok (.aload_n 0, 1) := by decide +kernel
theorem dX8_sorted_20 : decode cX8_sorted 20 = .ok (.getfield 28, 3) := by decide +kernel
theorem dX8_sorted_23 : decode cX8_sorted 23 = .ok (.iload_n 2, 1) := by decide +kernel
theorem dX8_sorted_24 : decode cX8_sorted 24 = .ok (.invokevirtual 118, 3) := by decide +kernel
theorem dX8_sorted_27 : decode cX8_sorted 27 = .ok (.iload_n 1, 1) := by decide +kernel
theorem dX8_sorted_28 : decode cX8_sorted 28 = .ok (.if_icmp .ne 5, 3) := by decide +kernel
theorem dX8_sorted_31 : decode cX8_sorted 31 = .ok (.iload_n 2, 1) := by decide +kernel
theorem dX8_sorted_32 : decode cX8_sorted 32 = .ok (.ireturn, 1) := by decide +kernel
theorem dX8_sorted_33 : decode cX8_sorted 33 = .ok (.iinc 2 1, 3) := by decide +kernel
theorem dX8_sorted_36 : decode cX8_sorted 36 = .ok (.goto (-28), 3) := by decide +kernel
theorem dX8_sorted_39 : decode cX8_sorted 39 = .ok (.bipush (-9), 2) := by decide +kernel
theorem dX8_sorted_41 : decode cX8_sorted 41 = .ok (.ireturn, 1) := by decide +kernel
theorem dX8_first_0 : decode cX8_first 0 = .ok (.iload_n 1, 1) := by decide +kernel
theorem dX8_first_1 : decode cX8_first 1 = .ok (.ifCond .lt 9, 3) := by decide +kernel
theorem dX8_first_4 : decode cX8_first 4 = .ok (.iload_n 1, 1) := by decide +kernel
theorem dX8_first_5 : decode cX8_first 5 = .ok (.bipush 8, 2) := by decide +kernel
theorem dX8_first_7 : decode cX8_first 7 = .ok (.if_icmp .lt 5, 3) := by decide +kernel
theorem dX8_first_10 : decode cX8_first 10 = .ok (.iconst (-1), 1) := by decide +kernel
theorem dX8_first_11 : decode cX8_first 11 = .ok (.ireturn, 1) := by decide +kernel
theorem dX8_first_12 : decode cX8_first 12 = .ok (.aload_n 0, 1) := by decide +kernel
theorem dX8_first_13 : decode cX8_first 13 = .ok (.getfield 28, 3) := by decide +kernel
theorem dX8_first_16 : decode cX8_first 16 = .ok (.iload_n 1, 1) := by decide +kernel
theorem dX8_first_17 : decode cX8_first 17 = .ok (.invokevirtual 121, 3) := by decide +kernel
theorem dX8_first_20 : decode cX8_first 20 = .ok (.ireturn, 1) := by decide +kernel
theorem dX8_puts_0 : decode cX8_puts 0 = .ok (.iload_n 1, 1) := by decide +kernel
theorem dX8_puts_1 : decode cX8_puts 1 = .ok (.ifCond .lt 25, 3) := by decide +kernel
theorem dX8_puts_4 : decode cX8_puts 4 = .ok (.iload_n 1, 1) := by decide +kernel
theorem dX8_puts_5 : decode cX8_puts 5 = .ok (.aload_n 0, 1) := by decide +kernel
theorem dX8_puts_6 : decode cX8_puts 6 = .ok (.getfield 35, 3) := by decide +kernel
theorem dX8_puts_9 : decode cX8_puts 9 = .ok (.getfield 124, 3) := by decide +kernel
theorem dX8_puts_12 : decode cX8_puts 12 = .ok (.if_icmp .gt 14, 3) := by decide +kernel
theorem dX8_puts_15 : decode cX8_puts 15 = .ok (.aload_n 0, 1) := by decide +kernel
theorem dX8_puts_16 : decode cX8_puts 16 = .ok (.getfield 28, 3) := by decide +kernel
theorem dX8_puts_19 : decode cX8_puts 19 = .ok (.iload_n 2, 1) := by decide +kernel
theorem dX8_puts_20 : decode cX8_puts 20 = .ok (.invokevirtual 105, 3) := by decide +kernel
theorem dX8_puts_23 : decode cX8_puts 23 = .ok (.ifCond .ne 5, 3) := by decide +kernel
theorem dX8_puts_26 : decode cX8_puts 26 = .ok (.iconst (-1), 1) := by decide +kernel
theorem dX8_puts_27 : decode cX8_puts 27 = .ok (.ireturn, 1) := by decide +kernel
theorem dX8_puts_28 : decode cX8_puts 28 = .ok (.aload_n 0, 1) := by decide +kernel
theorem dX8_puts_29 : decode cX8_puts 29 = .ok (.getfield 35, 3) := by decide +kernel
theorem dX8_puts_32 : decode cX8_puts 32 = .ok (.getfield 124, 3) := by decide +kernel
theorem dX8_puts_35 : decode cX8_puts 35 = .ok (.bipush 8, 2) := by decide +kernel
theorem dX8_puts_37 : decode cX8_puts 37 = .ok (.if_icmp .lt 6, 3) := by decide +kernel
theorem dX8_puts_40 : decode cX8_puts 40 = .ok (.bipush (-3), 2) := by decide +kernel
theorem dX8_puts_42 : decode cX8_puts 42 = .ok (.ireturn, 1) := by decide +kernel
theorem dX8_puts_43 : decode cX8_puts 43 = .ok (.aload_n 0, 1) := by decide +kernel
theorem dX8_puts_44 : decode cX8_puts 44 = .ok (.getfield 50, 3) := by decide +kernel
theorem dX8_puts_47 : decode cX8_puts 47 = .ok (.aload_n 0, 1) := by decide +kernel
theorem dX8_puts_48 : decode cX8_puts 48 = .ok (.getfield 35, 3) := by decide +kernel
theorem dX8_puts_51 : decode cX8_puts 51 = .ok (.invokevirtual 125, 3) := by decide +kernel
theorem dX8_puts_54 : decode cX8_puts 54 = .ok (.aload_n 0, 1) := by decide +kernel
theorem dX8_puts_55 : decode cX8_puts 55 = .ok (.getfield 35, 3) := by decide +kernel
theorem dX8_puts_58 : decode cX8_puts 58 = .ok (.iload_n 1, 1) := by decide +kernel
theorem dX8_puts_59 : decode cX8_puts 59 = .ok (.iload_n 2, 1) := by decide +kernel
theorem dX8_puts_60 : decode cX8_puts 60 = .ok (.invokevirtual 129, 3) := by decide +kernel
theorem dX8_puts_63 : decode cX8_puts 63 = .ok (.aload_n 0, 1) := by decide +kernel
theorem dX8_puts_64 : decode cX8_puts 64 = .ok (.getfield 35, 3) := by decide +kernel
theorem dX8_puts_67 : decode cX8_puts 67 = .ok (.getfield 124, 3) := by decide +kernel
theorem dX8_puts_70 : decode cX8_puts 70 = .ok (.ireturn, 1) := by decide +kernel
theorem dX8_takes_0 : decode cX8_takes 0 = .ok (.aload_n 0, 1) := by decide +kernel
theorem dX8_takes_1 : decode cX8_takes 1 = .ok (.getfield 35, 3) := by decide +kernel
theorem dX8_takes_4 : decode cX8_takes 4 = .ok (.iload_n 1, 1) := by decide +kernel
theorem dX8_takes_5 : decode cX8_takes 5 = .ok (.invokevirtual 133, 3) := by decide +kernel
theorem dX8_takes_8 : decode cX8_takes 8 = .ok (.ifCond .ne 5, 3) := by decide +kernel
theorem dX8_takes_11 : decode cX8_takes 11 = .ok (.iconst (-1), 1) := by decide +kernel
theorem dX8_takes_12 : decode cX8_takes 12 = .ok (.ireturn, 1) := by decide +kernel
theorem dX8_takes_13 : decode cX8_takes 13 = .ok (.aload_n 0, 1) := by decide +kernel
theorem dX8_takes_14 : decode cX8_takes 14 = .ok (.getfield 50, 3) := by decide +kernel
theorem dX8_takes_17 : decode cX8_takes 17 = .ok (.aload_n 0, 1) := by decide +kernel
theorem dX8_takes_18 : decode cX8_takes 18 = .ok (.getfield 35, 3) := by decide +kernel
theorem dX8_takes_21 : decode cX8_takes 21 = .ok (.invokevirtual 125, 3) := by decide +kernel
theorem dX8_takes_24 : decode cX8_takes 24 = .ok (.aload_n 0, 1) := by decide +kernel
theorem dX8_takes_25 : decode cX8_takes 25 = .ok (.getfield 35, 3) := by decide +kernel
theorem dX8_takes_28 : decode cX8_takes 28 = .ok (.iload_n 1, 1) := by decide +kernel
theorem dX8_takes_29 : decode cX8_takes 29 = .ok (.invokevirtual 136, 3) := by decide +kernel
theorem dX8_takes_32 : decode cX8_takes 32 = .ok (.ireturn, 1) := by decide +kernel
theorem dX8_places_0 : decode cX8_places 0 = .ok (.iload_n 1, 1) := by decide +kernel
theorem dX8_places_1 : decode cX8_places 1 = .ok (.iconst 3, 1) := by decide +kernel
theorem dX8_places_2 : decode cX8_places 2 = .ok (.if_icmp .lt 9, 3) := by decide +kernel
theorem dX8_places_5 : decode cX8_places 5 = .ok (.iload_n 1, 1) := by decide +kernel
theorem dX8_places_6 : decode cX8_places 6 = .ok (.bipush 7, 2) := by decide +kernel
theorem dX8_places_8 : decode cX8_places 8 = .ok (.if_icmp .le 5, 3) := by decide +kernel
theorem dX8_places_11 : decode cX8_places 11 = .ok (.iconst (-1), 1) := by decide +kernel
theorem dX8_places_12 : decode cX8_places 12 = .ok (.ireturn, 1) := by decide +kernel
theorem dX8_places_13 : decode cX8_places 13 = .ok (.iload_n 1, 1) := by decide +kernel
theorem dX8_places_14 : decode cX8_places 14 = .ok (.aload_n 0, 1) := by decide +kernel
theorem dX8_places_15 : decode cX8_places 15 = .ok (.getfield 35, 3) := by decide +kernel
theorem dX8_places_18 : decode cX8_places 18 = .ok (.getfield 139, 3) := by decide +kernel
theorem dX8_places_21 : decode cX8_places 21 = .ok (.if_icmp .ne 6, 3) := by decide +kernel
theorem dX8_places_24 : decode cX8_places 24 = .ok (.bipush (-2), 2) := by decide +kernel
theorem dX8_places_26 : decode cX8_places 26 = .ok (.ireturn, 1) := by decide +kernel
theorem dX8_places_27 : decode cX8_places 27 = .ok (.aload_n 0, 1) := by decide +kernel
theorem dX8_places_28 : decode cX8_places 28 = .ok (.getfield 50, 3) := by decide +kernel
theorem dX8_places_31 : decode cX8_places 31 = .ok (.aload_n 0, 1) := by decide +kernel
theorem dX8_places_32 : decode cX8_places 32 = .ok (.getfield 35, 3) := by decide +kernel
theorem dX8_places_35 : decode cX8_places 35 = .ok (.invokevirtual 125, 3) := by decide +kernel
theorem dX8_places_38 : decode cX8_places 38 = .ok (.aload_n 0, 1) := by decide +kernel
theorem dX8_places_39 : decode cX8_places 39 = .ok (.getfield 35, 3) := by decide +kernel
theorem dX8_places_42 : decode cX8_places 42 = .ok (.getfield 139, 3) := by decide +kernel
theorem dX8_places_45 : decode cX8_places 45 = .ok (.istore_n 2, 1) := by decide +kernel
theorem dX8_places_46 : decode cX8_places 46 = .ok (.aload_n 0, 1) := by decide +kernel
theorem dX8_places_47 : decode cX8_places 47 = .ok (.getfield 35, 3) := by decide +kernel
theorem dX8_places_50 : decode cX8_places 50 = .ok (.iload_n 1, 1) := by decide +kernel
theorem dX8_places_51 : decode cX8_places 51 = .ok (.putfield 139, 3) := by decide +kernel
theorem dX8_places_54 : decode cX8_places 54 = .ok (.aload_n 0, 1) := by decide +kernel
theorem dX8_places_55 : decode cX8_places 55 = .ok (.getfield 35, 3) := by decide +kernel
theorem dX8_places_58 : decode cX8_places 58 = .ok (.invokevirtual 140, 3) := by decide +kernel
theorem dX8_places_61 : decode cX8_places 61 = .ok (.iload_n 2, 1) := by decide +kernel
theorem dX8_places_62 : decode cX8_places 62 = .ok (.ireturn, 1) := by decide +kernel
theorem dX8_sends_0 : decode cX8_sends 0 = .ok (.aload_n 0, 1) := by decide +kernel
theorem dX8_sends_1 : decode cX8_sends 1 = .ok (.getfield 74, 3) := by decide +kernel
theorem dX8_sends_4 : decode cX8_sends 4 = .ok (.aload_n 0, 1) := by decide +kernel
theorem dX8_sends_5 : decode cX8_sends 5 = .ok (.getfield 35, 3) := by decide +kernel
theorem dX8_sends_8 : decode cX8_sends 8 = .ok (.bipush (-9), 2) := by decide +kernel
theorem dX8_sends_10 : decode cX8_sends 10 = .ok (.invokevirtual 143, 3) := by decide +kernel
theorem dX8_sends_13 : decode cX8_sends 13 = .ok (.aload_n 0, 1) := by decide +kernel
theorem dX8_sends_14 : decode cX8_sends 14 = .ok (.getfield 35, 3) := by decide +kernel
theorem dX8_sends_17 : decode cX8_sends 17 = .ok (.invokevirtual 147, 3) := by decide +kernel
theorem dX8_sends_20 : decode cX8_sends 20 = .ok (.ifCond .ne 30, 3) := by decide +kernel
theorem dX8_sends_23 : decode cX8_sends 23 = .ok (.aload_n 0, 1) := by decide +kernel
theorem dX8_sends_24 : decode cX8_sends 24 = .ok (.getfield 74, 3) := by decide +kernel
theorem dX8_sends_27 : decode cX8_sends 27 = .ok (.getfield 151, 3) := by decide +kernel
theorem dX8_sends_30 : decode cX8_sends 30 = .ok (.ifCond .eq 20, 3) := by decide +kernel
theorem dX8_sends_33 : decode cX8_sends 33 = .ok (.aload_n 0, 1) := by decide +kernel
theorem dX8_sends_34 : decode cX8_sends 34 = .ok (.getfield 35, 3) := by decide +kernel
theorem dX8_sends_37 : decode cX8_sends 37 = .ok (.getfield 155, 3) := by decide +kernel
theorem dX8_sends_40 : decode cX8_sends 40 = .ok (.aload_n 0, 1) := by decide +kernel
theorem dX8_sends_41 : decode cX8_sends 41 = .ok (.getfield 74, 3) := by decide +kernel
theorem dX8_sends_44 : decode cX8_sends 44 = .ok (.getfield 158, 3) := by decide +kernel
theorem dX8_sends_47 : decode cX8_sends 47 = .ok (.if_icmp .lt 6, 3) := by decide +kernel
theorem dX8_sends_50 : decode cX8_sends 50 = .ok (.bipush (-2), 2) := by decide +kernel
theorem dX8_sends_52 : decode cX8_sends 52 = .ok (.ireturn, 1) := by decide +kernel
theorem dX8_sends_53 : decode cX8_sends 53 = .ok (.aload_n 0, 1) := by decide +kernel
theorem dX8_sends_54 : decode cX8_sends 54 = .ok (.getfield 50, 3) := by decide +kernel
theorem dX8_sends_57 : decode cX8_sends 57 = .ok (.aload_n 0, 1) := by decide +kernel
theorem dX8_sends_58 : decode cX8_sends 58 = .ok (.getfield 35, 3) := by decide +kernel
theorem dX8_sends_61 : decode cX8_sends 61 = .ok (.invokevirtual 125, 3) := by decide +kernel
theorem dX8_sends_64 : decode cX8_sends 64 = .ok (.aload_n 0, 1) := by decide +kernel
theorem dX8_sends_65 : decode cX8_sends 65 = .ok (.getfield 35, 3) := by decide +kernel
theorem dX8_sends_68 : decode cX8_sends 68 = .ok (.iconst 1, 1) := by decide +kernel
theorem dX8_sends_69 : decode cX8_sends 69 = .ok (.putfield 161, 3) := by decide +kernel
theorem dX8_sends_72 : decode cX8_sends 72 = .ok (.aload_n 0, 1) := by decide +kernel
theorem dX8_sends_73 : decode cX8_sends 73 = .ok (.getfield 35, 3) := by decide +kernel
theorem dX8_sends_76 : decode cX8_sends 76 = .ok (.getfield 155, 3) := by decide +kernel
theorem dX8_sends_79 : decode cX8_sends 79 = .ok (.ireturn, 1) := by decide +kernel
theorem dX8_answers_0 : decode cX8_answers 0 = .ok (.iload_n 1, 1) := by decide +kernel
theorem dX8_answers_1 : decode cX8_answers 1 = .ok (.ifCond .lt 8, 3) := by decide +kernel
theorem dX8_answers_4 : decode cX8_answers 4 = .ok (.iload_n 1, 1) := by decide +kernel
theorem dX8_answers_5 : decode cX8_answers 5 = .ok (.iconst 1, 1) := by decide +kernel
theorem dX8_answers_6 : decode cX8_answers 6 = .ok (.if_icmp .le 5, 3) := by decide +kernel
theorem dX8_answers_9 : decode cX8_answers 9 = .ok (.iconst (-1), 1) := by decide +kernel
theorem dX8_answers_10 : decode cX8_answers 10 = .ok (.ireturn, 1) := by decide +kernel
theorem dX8_answers_11 : decode cX8_answers 11 = .ok (.aload_n 0, 1) := by decide +kernel
theorem dX8_answers_12 : decode cX8_answers 12 = .ok (.getfield 35, 3) := by decide +kernel
theorem dX8_answers_15 : decode cX8_answers 15 = .ok (.invokevirtual 147, 3) := by decide +kernel
theorem dX8_answers_18 : decode cX8_answers 18 = .ok (.ifCond .ne 6, 3) := by decide +kernel
theorem dX8_answers_21 : decode cX8_answers 21 = .ok (.bipush (-2), 2) := by decide +kernel
theorem dX8_answers_23 : decode cX8_answers 23 = .ok (.ireturn, 1) := by decide +kernel
theorem dX8_answers_24 : decode cX8_answers 24 = .ok (.aload_n 0, 1) := by decide +kernel
theorem dX8_answers_25 : decode cX8_answers 25 = .ok (.getfield 50, 3) := by decide +kernel
theorem dX8_answers_28 : decode cX8_answers 28 = .ok (.aload_n 0, 1) := by decide +kernel
theorem dX8_answers_29 : decode cX8_answers 29 = .ok (.getfield 35, 3) := by decide +kernel
theorem dX8_answers_32 : decode cX8_answers 32 = .ok (.invokevirtual 125, 3) := by decide +kernel
theorem dX8_answers_35 : decode cX8_answers 35 = .ok (.iload_n 1, 1) := by decide +kernel
theorem dX8_answers_36 : decode cX8_answers 36 = .ok (.ifCond .ne 13, 3) := by decide +kernel
theorem dX8_answers_39 : decode cX8_answers 39 = .ok (.aload_n 0, 1) := by decide +kernel
theorem dX8_answers_40 : decode cX8_answers 40 = .ok (.getfield 35, 3) := by decide +kernel
theorem dX8_answers_43 : decode cX8_answers 43 = .ok (.invokevirtual 164, 3) := by decide +kernel
theorem dX8_answers_46 : decode cX8_answers 46 = .ok (.goto 10, 3) := by decide +kernel
theorem dX8_answers_49 : decode cX8_answers 49 = .ok (.aload_n 0, 1) := by decide +kernel
theorem dX8_answers_50 : decode cX8_answers 50 = .ok (.getfield 35, 3) := by decide +kernel
theorem dX8_answers_53 : decode cX8_answers 53 = .ok (.invokevirtual 167, 3) := by decide +kernel
theorem dX8_answers_56 : decode cX8_answers 56 = .ok (.ireturn, 1) := by decide +kernel
theorem dX8_undo_0 : decode cX8_undo 0 = .ok (.aload_n 0, 1) := by decide +kernel
theorem dX8_undo_1 : decode cX8_undo 1 = .ok (.getfield 50, 3) := by decide +kernel
theorem dX8_undo_4 : decode cX8_undo 4 = .ok (.getfield 95, 3) := by decide +kernel
theorem dX8_undo_7 : decode cX8_undo 7 = .ok (.ifCond .ne 6, 3) := by decide +kernel
theorem dX8_undo_10 : decode cX8_undo 10 = .ok (.bipush (-2), 2) := by decide +kernel
theorem dX8_undo_12 : decode cX8_undo 12 = .ok (.ireturn, 1) := by decide +kernel
theorem dX8_undo_13 : decode cX8_undo 13 = .ok (.aload_n 0, 1) := by decide +kernel
theorem dX8_undo_14 : decode cX8_undo 14 = .ok (.getfield 50, 3) := by decide +kernel
theorem dX8_undo_17 : decode cX8_undo 17 = .ok (.aload_n 0, 1) := by decide +kernel
theorem dX8_undo_18 : decode cX8_undo 18 = .ok (.getfield 35, 3) := by decide +kernel
theorem dX8_undo_21 : decode cX8_undo 21 = .ok (.invokevirtual 170, 3) := by decide +kernel
theorem dX8_undo_24 : decode cX8_undo 24 = .ok (.aload_n 0, 1) := by decide +kernel
theorem dX8_undo_25 : decode cX8_undo 25 = .ok (.getfield 50, 3) := by decide +kernel
theorem dX8_undo_28 : decode cX8_undo 28 = .ok (.getfield 95, 3) := by decide +kernel
theorem dX8_undo_31 : decode cX8_undo 31 = .ok (.ireturn, 1) := by decide +kernel
theorem dX8_message_0 : decode cX8_message 0 = .ok (.aload_n 0, 1) := by decide +kernel
theorem dX8_message_1 : decode cX8_message 1 = .ok (.getfield 35, 3) := by decide +kernel
theorem dX8_message_4 : decode cX8_message 4 = .ok (.iload_n 1, 1) := by decide +kernel
theorem dX8_message_5 : decode cX8_message 5 = .ok (.invokevirtual 133, 3) := by decide +kernel
theorem dX8_message_8 : decode cX8_message 8 = .ok (.ifCond .eq 15, 3) := by decide +kernel
theorem dX8_message_11 : decode cX8_message 11 = .ok (.aload_n 0, 1) := by decide +kernel
theorem dX8_message_12 : decode cX8_message 12 = .ok (.getfield 35, 3) := by decide +kernel
theorem dX8_message_15 : decode cX8_message 15 = .ok (.getfield 173, 3) := by decide +kernel
theorem dX8_message_18 : decode cX8_message 18 = .ok (.iload_n 1, 1) := by decide +kernel
theorem dX8_message_19 : decode cX8_message 19 = .ok (.iaload, 1) := by decide +kernel
theorem dX8_message_20 : decode cX8_message 20 = .ok (.goto 4, 3) := by decide +kernel
theorem dX8_message_23 : decode cX8_message 23 = .ok (.iconst (-1), 1) := by decide +kernel
theorem dX8_message_24 : decode cX8_message 24 = .ok (.ireturn, 1) := by decide +kernel
theorem dX8_hoist_0 : decode cX8_hoist 0 = .ok (.iload_n 1, 1) := by decide +kernel
theorem dX8_hoist_1 : decode cX8_hoist 1 = .ok (.ifCond .lt 12, 3) := by decide +kernel
theorem dX8_hoist_4 : decode cX8_hoist 4 = .ok (.iload_n 2, 1) := by decide +kernel
theorem dX8_hoist_5 : decode cX8_hoist 5 = .ok (.ifCond .lt 8, 3) := by decide +kernel
theorem dX8_hoist_8 : decode cX8_hoist 8 = .ok (.iload_n 2, 1) := by decide +kernel
theorem dX8_hoist_9 : decode cX8_hoist 9 = .ok (.iconst 3, 1) := by decide +kernel
theorem dX8_hoist_10 : decode cX8_hoist 10 = .ok (.if_icmp .le 5, 3) := by decide +kernel
theorem dX8_hoist_13 : decode cX8_hoist 13 = .ok (.iconst (-1), 1) := by decide +kernel
theorem dX8_hoist_14 : decode cX8_hoist 14 = .ok (.ireturn, 1) := by decide +kernel
theorem dX8_hoist_15 : decode cX8_hoist 15 = .ok (.aload_n 0, 1) := by decide +kernel
theorem dX8_hoist_16 : decode cX8_hoist 16 = .ok (.getfield 74, 3) := by decide +kernel
theorem dX8_hoist_19 : decode cX8_hoist 19 = .ok (.aload_n 0, 1) := by decide +kernel
theorem dX8_hoist_20 : decode cX8_hoist 20 = .ok (.getfield 35, 3) := by decide +kernel
theorem dX8_hoist_23 : decode cX8_hoist 23 = .ok (.bipush (-9), 2) := by decide +kernel
theorem dX8_hoist_25 : decode cX8_hoist 25 = .ok (.invokevirtual 143, 3) := by decide +kernel
theorem dX8_hoist_28 : decode cX8_hoist 28 = .ok (.aload_n 0, 1) := by decide +kernel
theorem dX8_hoist_29 : decode cX8_hoist 29 = .ok (.getfield 74, 3) := by decide +kernel
theorem dX8_hoist_32 : decode cX8_hoist 32 = .ok (.iload_n 1, 1) := by decide +kernel
theorem dX8_hoist_33 : decode cX8_hoist 33 = .ok (.invokevirtual 176, 3) := by decide +kernel
theorem dX8_hoist_36 : decode cX8_hoist 36 = .ok (.ifCond .ne 6, 3) := by decide +kernel
theorem dX8_hoist_39 : decode cX8_hoist 39 = .ok (.bipush (-9), 2) := by decide +kernel
theorem dX8_hoist_41 : decode cX8_hoist 41 = .ok (.ireturn, 1) := by decide +kernel
theorem dX8_hoist_42 : decode cX8_hoist 42 = .ok (.aload_n 0, 1) := by decide +kernel
theorem dX8_hoist_43 : decode cX8_hoist 43 = .ok (.getfield 74, 3) := by decide +kernel
theorem dX8_hoist_46 : decode cX8_hoist 46 = .ok (.iload_n 1, 1) := by decide +kernel
theorem dX8_hoist_47 : decode cX8_hoist 47 = .ok (.invokevirtual 177, 3) := by decide +kernel
theorem dX8_hoist_50 : decode cX8_hoist 50 = .ok (.iload_n 2, 1) := by decide +kernel
theorem dX8_hoist_51 : decode cX8_hoist 51 = .ok (.tableswitch 68 0 2 #[25, 35, 57], 25) := by decide +kernel
theorem dX8_hoist_76 : decode cX8_hoist 76 = .ok (.aload_n 0, 1) := by decide +kernel
theorem dX8_hoist_77 : decode cX8_hoist 77 = .ok (.getfield 74, 3) := by decide +kernel
theorem dX8_hoist_80 : decode cX8_hoist 80 = .ok (.getfield 180, 3) := by decide +kernel
theorem dX8_hoist_83 : decode cX8_hoist 83 = .ok (.iload_n 1, 1) := by decide +kernel
theorem dX8_hoist_84 : decode cX8_hoist 84 = .ok (.iaload, 1) := by decide +kernel
theorem dX8_hoist_85 : decode cX8_hoist 85 = .ok (.ireturn, 1) := by decide +kernel
theorem dX8_hoist_86 : decode cX8_hoist 86 = .ok (.aload_n 0, 1) := by decide +kernel
theorem dX8_hoist_87 : decode cX8_hoist 87 = .ok (.getfield 74, 3) := by decide +kernel
theorem dX8_hoist_90 : decode cX8_hoist 90 = .ok (.getfield 180, 3) := by decide +kernel
theorem dX8_hoist_93 : decode cX8_hoist 93 = .ok (.iload_n 1, 1) := by decide +kernel
theorem dX8_hoist_94 : decode cX8_hoist 94 = .ok (.iconst 1, 1) := by decide +kernel
theorem dX8_hoist_95 : decode cX8_hoist 95 = .ok (.iadd, 1) := by decide +kernel
theorem dX8_hoist_96 : decode cX8_hoist 96 = .ok (.iaload, 1) := by decide +kernel
theorem dX8_hoist_97 : decode cX8_hoist 97 = .ok (.aload_n 0, 1) := by decide +kernel
theorem dX8_hoist_98 : decode cX8_hoist 98 = .ok (.getfield 74, 3) := by decide +kernel
theorem dX8_hoist_101 : decode cX8_hoist 101 = .ok (.getfield 180, 3) := by decide +kernel
theorem dX8_hoist_104 : decode cX8_hoist 104 = .ok (.iload_n 1, 1) := by decide +kernel
theorem dX8_hoist_105 : decode cX8_hoist 105 = .ok (.iaload, 1) := by decide +kernel
theorem dX8_hoist_106 : decode cX8_hoist 106 = .ok (.isub, 1) := by decide +kernel
theorem dX8_hoist_107 : decode cX8_hoist 107 = .ok (.ireturn, 1) := by decide +kernel
theorem dX8_hoist_108 : decode cX8_hoist 108 = .ok (.aload_n 0, 1) := by decide +kernel
theorem dX8_hoist_109 : decode cX8_hoist 109 = .ok (.getfield 74, 3) := by decide +kernel
theorem dX8_hoist_112 : decode cX8_hoist 112 = .ok (.getfield 183, 3) := by decide +kernel
theorem dX8_hoist_115 : decode cX8_hoist 115 = .ok (.getfield 187, 3) := by decide +kernel
theorem dX8_hoist_118 : decode cX8_hoist 118 = .ok (.ireturn, 1) := by decide +kernel
theorem dX8_hoist_119 : decode cX8_hoist 119 = .ok (.aload_n 0, 1) := by decide +kernel
theorem dX8_hoist_120 : decode cX8_hoist 120 = .ok (.getfield 74, 3) := by decide +kernel
theorem dX8_hoist_123 : decode cX8_hoist 123 = .ok (.getfield 183, 3) := by decide +kernel
theorem dX8_hoist_126 : decode cX8_hoist 126 = .ok (.getfield 190, 3) := by decide +kernel
theorem dX8_hoist_129 : decode cX8_hoist 129 = .ok (.ireturn, 1) := by decide +kernel
theorem dX8_thing_0 : decode cX8_thing 0 = .ok (.iload_n 1, 1) := by decide +kernel
theorem dX8_thing_1 : decode cX8_thing 1 = .ok (.ifCond .lt 7, 3) := by decide +kernel
theorem dX8_thing_4 : decode cX8_thing 4 = .ok (.iload_n 2, 1) := by decide +kernel
theorem dX8_thing_5 : decode cX8_thing 5 = .ok (.ifCond .ge 5, 3) := by decide +kernel
theorem dX8_thing_8 : decode cX8_thing 8 = .ok (.iconst (-1), 1) := by decide +kernel
theorem dX8_thing_9 : decode cX8_thing 9 = .ok (.ireturn, 1) := by decide +kernel
theorem dX8_thing_10 : decode cX8_thing 10 = .ok (.aload_n 0, 1) := by decide +kernel
theorem dX8_thing_11 : decode cX8_thing 11 = .ok (.getfield 74, 3) := by decide +kernel
theorem dX8_thing_14 : decode cX8_thing 14 = .ok (.aload_n 0, 1) := by decide +kernel
theorem dX8_thing_15 : decode cX8_thing 15 = .ok (.getfield 35, 3) := by decide +kernel
theorem dX8_thing_18 : decode cX8_thing 18 = .ok (.bipush (-9), 2) := by decide +kernel
theorem dX8_thing_20 : decode cX8_thing 20 = .ok (.invokevirtual 143, 3) := by decide +kernel
theorem dX8_thing_23 : decode cX8_thing 23 = .ok (.aload_n 0, 1) := by decide +kernel
theorem dX8_thing_24 : decode cX8_thing 24 = .ok (.getfield 74, 3) := by decide +kernel
theorem dX8_thing_27 : decode cX8_thing 27 = .ok (.iload_n 1, 1) := by decide +kernel
theorem dX8_thing_28 : decode cX8_thing 28 = .ok (.invokevirtual 176, 3) := by decide +kernel
theorem dX8_thing_31 : decode cX8_thing 31 = .ok (.ifCond .ne 6, 3) := by decide +kernel
theorem dX8_thing_34 : decode cX8_thing 34 = .ok (.bipush (-9), 2) := by decide +kernel
theorem dX8_thing_36 : decode cX8_thing 36 = .ok (.ireturn, 1) := by decide +kernel
theorem dX8_thing_37 : decode cX8_thing 37 = .ok (.aload_n 0, 1) := by decide +kernel
theorem dX8_thing_38 : decode cX8_thing 38 = .ok (.getfield 74, 3) := by decide +kernel
theorem dX8_thing_41 : decode cX8_thing 41 = .ok (.iload_n 1, 1) := by decide +kernel
theorem dX8_thing_42 : decode cX8_thing 42 = .ok (.invokevirtual 177, 3) := by decide +kernel
theorem dX8_thing_45 : decode cX8_thing 45 = .ok (.iload_n 2, 1) := by decide +kernel
theorem dX8_thing_46 : decode cX8_thing 46 = .ok (.aload_n 0, 1) := by decide +kernel
theorem dX8_thing_47 : decode cX8_thing 47 = .ok (.getfield 74, 3) := by decide +kernel
theorem dX8_thing_50 : decode cX8_thing 50 = .ok (.getfield 183, 3) := by decide +kernel
theorem dX8_thing_53 : decode cX8_thing 53 = .ok (.getfield 187, 3) := by decide +kernel
theorem dX8_thing_56 : decode cX8_thing 56 = .ok (.if_icmp .ge 18, 3) := by decide +kernel
theorem dX8_thing_59 : decode cX8_thing 59 = .ok (.aload_n 0, 1) := by decide +kernel
theorem dX8_thing_60 : decode cX8_thing 60 = .ok (.getfield 74, 3) := by decide +kernel
theorem dX8_thing_63 : decode cX8_thing 63 = .ok (.getfield 183, 3) := by decide +kernel
theorem dX8_thing_66 : decode cX8_thing 66 = .ok (.getfield 193, 3) := by decide +kernel
theorem dX8_thing_69 : decode cX8_thing 69 = .ok (.iload_n 2, 1) := by decide +kernel
theorem dX8_thing_70 : decode cX8_thing 70 = .ok (.iaload, 1) := by decide +kernel
theorem dX8_thing_71 : decode cX8_thing 71 = .ok (.goto 5, 3) := by decide +kernel
theorem dX8_thing_74 : decode cX8_thing 74 = .ok (.bipush (-9), 2) := by decide +kernel
theorem dX8_thing_76 : decode cX8_thing 76 = .ok (.ireturn, 1) := by decide +kernel
theorem dX8_told_0 : decode cX8_told 0 = .ok (.aload_n 0, 1) := by decide +kernel
theorem dX8_told_1 : decode cX8_told 1 = .ok (.getfield 28, 3) := by decide +kernel
theorem dX8_told_4 : decode cX8_told 4 = .ok (.iload_n 1, 1) := by decide +kernel
theorem dX8_told_5 : decode cX8_told 5 = .ok (.invokevirtual 105, 3) := by decide +kernel
theorem dX8_told_8 : decode cX8_told 8 = .ok (.ifCond .eq 21, 3) := by decide +kernel
theorem dX8_told_11 : decode cX8_told 11 = .ok (.aload_n 0, 1) := by decide +kernel
theorem dX8_told_12 : decode cX8_told 12 = .ok (.getfield 28, 3) := by decide +kernel
theorem dX8_told_15 : decode cX8_told 15 = .ok (.iload_n 2, 1) := by decide +kernel
theorem dX8_told_16 : decode cX8_told 16 = .ok (.invokevirtual 105, 3) := by decide +kernel
theorem dX8_told_19 : decode cX8_told 19 = .ok (.ifCond .eq 10, 3) := by decide +kernel
theorem dX8_told_22 : decode cX8_told 22 = .ok (.iload_n 3, 1) := by decide +kernel
theorem dX8_told_23 : decode cX8_told 23 = .ok (.invokestatic 196, 3) := by decide +kernel
theorem dX8_told_26 : decode cX8_told 26 = .ok (.ifCond .ne 5, 3) := by decide +kernel
theorem dX8_told_29 : decode cX8_told 29 = .ok (.iconst (-1), 1) := by decide +kernel
theorem dX8_told_30 : decode cX8_told 30 = .ok (.ireturn, 1) := by decide +kernel
theorem dX8_told_31 : decode cX8_told 31 = .ok (.aload_n 0, 1) := by decide +kernel
theorem dX8_told_32 : decode cX8_told 32 = .ok (.getfield 28, 3) := by decide +kernel
theorem dX8_told_35 : decode cX8_told 35 = .ok (.iload_n 1, 1) := by decide +kernel
theorem dX8_told_36 : decode cX8_told 36 = .ok (.iload_n 2, 1) := by decide +kernel
theorem dX8_told_37 : decode cX8_told 37 = .ok (.iload_n 3, 1) := by decide +kernel
theorem dX8_told_38 : decode cX8_told 38 = .ok (.invokevirtual 199, 3) := by decide +kernel
theorem dX8_told_41 : decode cX8_told 41 = .ok (.ifCond .eq 7, 3) := by decide +kernel
theorem dX8_told_44 : decode cX8_told 44 = .ok (.iconst 1, 1) := by decide +kernel
theorem dX8_told_45 : decode cX8_told 45 = .ok (.goto 4, 3) := by decide +kernel
theorem dX8_told_48 : decode cX8_told 48 = .ok (.iconst 0, 1) := by decide +kernel
theorem dX8_told_49 : decode cX8_told 49 = .ok (.ireturn, 1) := by decide +kernel
theorem dX8_meanings_0 : decode cX8_meanings 0 = .ok (.iload_n 1, 1) := by decide +kernel
theorem dX8_meanings_1 : decode cX8_meanings 1 = .ok (.ifCond .lt 10, 3) := by decide +kernel
theorem dX8_meanings_4 : decode cX8_meanings 4 = .ok (.iload_n 2, 1) := by decide +kernel
theorem dX8_meanings_5 : decode cX8_meanings 5 = .ok (.invokestatic 196, 3) := by decide +kernel
theorem dX8_meanings_8 : decode cX8_meanings 8 = .ok (.ifCond .ne 5, 3) := by decide +kernel
theorem dX8_meanings_11 : decode cX8_meanings 11 = .ok (.iconst (-1), 1) := by decide +kernel
theorem dX8_meanings_12 : decode cX8_meanings 12 = .ok (.ireturn, 1) := by decide +kernel
theorem dX8_meanings_13 : decode cX8_meanings 13 = .ok (.aload_n 0, 1) := by decide +kernel
theorem dX8_meanings_14 : decode cX8_meanings 14 = .ok (.getfield 74, 3) := by decide +kernel
theorem dX8_meanings_17 : decode cX8_meanings 17 = .ok (.aload_n 0, 1) := by decide +kernel
theorem dX8_meanings_18 : decode cX8_meanings 18 = .ok (.getfield 35, 3) := by decide +kernel
theorem dX8_meanings_21 : decode cX8_meanings 21 = .ok (.bipush (-9), 2) := by decide +kernel
theorem dX8_meanings_23 : decode cX8_meanings 23 = .ok (.invokevirtual 143, 3) := by decide +kernel
theorem dX8_meanings_26 : decode cX8_meanings 26 = .ok (.aload_n 0, 1) := by decide +kernel
theorem dX8_meanings_27 : decode cX8_meanings 27 = .ok (.getfield 74, 3) := by decide +kernel
theorem dX8_meanings_30 : decode cX8_meanings 30 = .ok (.iload_n 1, 1) := by decide +kernel
theorem dX8_meanings_31 : decode cX8_meanings 31 = .ok (.invokevirtual 176, 3) := by decide +kernel
theorem dX8_meanings_34 : decode cX8_meanings 34 = .ok (.ifCond .eq 15, 3) := by decide +kernel
theorem dX8_meanings_37 : decode cX8_meanings 37 = .ok (.aload_n 0, 1) := by decide +kernel
theorem dX8_meanings_38 : decode cX8_meanings 38 = .ok (.getfield 74, 3) := by decide +kernel
theorem dX8_meanings_41 : decode cX8_meanings 41 = .ok (.iload_n 1, 1) := by decide +kernel
theorem dX8_meanings_42 : decode cX8_meanings 42 = .ok (.iload_n 2, 1) := by decide +kernel
theorem dX8_meanings_43 : decode cX8_meanings 43 = .ok (.invokevirtual 203, 3) := by decide +kernel
theorem dX8_meanings_46 : decode cX8_meanings 46 = .ok (.goto 5, 3) := by decide +kernel
theorem dX8_meanings_49 : decode cX8_meanings 49 = .ok (.bipush (-9), 2) := by decide +kernel
theorem dX8_meanings_51 : decode cX8_meanings 51 = .ok (.ireturn, 1) := by decide +kernel
theorem dX8_sees_0 : decode cX8_sees 0 = .ok (.iload_n 1, 1) := by decide +kernel
theorem dX8_sees_1 : decode cX8_sees 1 = .ok (.ifCond .lt 19, 3) := by decide +kernel
theorem dX8_sees_4 : decode cX8_sees 4 = .ok (.iload_n 1, 1) := by decide +kernel
theorem dX8_sees_5 : decode cX8_sees 5 = .ok (.bipush 8, 2) := by decide +kernel
theorem dX8_sees_7 : decode cX8_sees 7 = .ok (.if_icmp .ge 13, 3) := by decide +kernel
theorem dX8_sees_10 : decode cX8_sees 10 = .ok (.iload_n 2, 1) := by decide +kernel
theorem dX8_sees_11 : decode cX8_sees 11 = .ok (.ifCond .lt 9, 3) := by decide +kernel
theorem dX8_sees_14 : decode cX8_sees 14 = .ok (.iload_n 2, 1) := by decide +kernel
theorem dX8_sees_15 : decode cX8_sees 15 = .ok (.bipush 7, 2) := by decide +kernel
theorem dX8_sees_17 : decode cX8_sees 17 = .ok (.if_icmp .le 5, 3) := by decide +kernel
theorem dX8_sees_20 : decode cX8_sees 20 = .ok (.iconst (-1), 1) := by decide +kernel
theorem dX8_sees_21 : decode cX8_sees 21 = .ok (.ireturn, 1) := by decide +kernel
theorem dX8_sees_22 : decode cX8_sees 22 = .ok (.aload_n 0, 1) := by decide +kernel
theorem dX8_sees_23 : decode cX8_sees 23 = .ok (.getfield 65, 3) := by decide +kernel
theorem dX8_sees_26 : decode cX8_sees 26 = .ok (.getfield 98, 3) := by decide +kernel
theorem dX8_sees_29 : decode cX8_sees 29 = .ok (.bipush 6, 2) := by decide +kernel
theorem dX8_sees_31 : decode cX8_sees 31 = .ok (.if_icmp .lt 6, 3) := by decide +kernel
theorem dX8_sees_34 : decode cX8_sees 34 = .ok (.bipush (-3), 2) := by decide +kernel
theorem dX8_sees_36 : decode cX8_sees 36 = .ok (.ireturn, 1) := by decide +kernel
theorem dX8_sees_37 : decode cX8_sees 37 = .ok (.aload_n 0, 1) := by decide +kernel
theorem dX8_sees_38 : decode cX8_sees 38 = .ok (.getfield 65, 3) := by decide +kernel
theorem dX8_sees_41 : decode cX8_sees 41 = .ok (.iload_n 1, 1) := by decide +kernel
theorem dX8_sees_42 : decode cX8_sees 42 = .ok (.iload_n 2, 1) := by decide +kernel
theorem dX8_sees_43 : decode cX8_sees 43 = .ok (.invokevirtual 206, 3) := by decide +kernel
theorem dX8_sees_46 : decode cX8_sees 46 = .ok (.aload_n 0, 1) := by decide +kernel
theorem dX8_sees_47 : decode cX8_sees 47 = .ok (.getfield 65, 3) := by decide +kernel
theorem dX8_sees_50 : decode cX8_sees 50 = .ok (.getfield 98, 3) := by decide +kernel
theorem dX8_sees_53 : decode cX8_sees 53 = .ok (.ireturn, 1) := by decide +kernel
theorem dX8_forget_0 : decode cX8_forget 0 = .ok (.aload_n 0, 1) := by decide +kernel
theorem dX8_forget_1 : decode cX8_forget 1 = .ok (.getfield 65, 3) := by decide +kernel
theorem dX8_forget_4 : decode cX8_forget 4 = .ok (.getfield 98, 3) := by decide +kernel
theorem dX8_forget_7 : decode cX8_forget 7 = .ok (.istore_n 1, 1) := by decide +kernel
theorem dX8_forget_8 : decode cX8_forget 8 = .ok (.aload_n 0, 1) := by decide +kernel
theorem dX8_forget_9 : decode cX8_forget 9 = .ok (.getfield 65, 3) := by decide +kernel
theorem dX8_forget_12 : decode cX8_forget 12 = .ok (.iconst 0, 1) := by decide +kernel
theorem dX8_forget_13 : decode cX8_forget 13 = .ok (.putfield 98, 3) := by decide +kernel
theorem dX8_forget_16 : decode cX8_forget 16 = .ok (.iload_n 1, 1) := by decide +kernel
theorem dX8_forget_17 : decode cX8_forget 17 = .ok (.ireturn, 1) := by decide +kernel
theorem dX8_unseen_0 : decode cX8_unseen 0 = .ok (.iconst 0, 1) := by decide +kernel
theorem dX8_unseen_1 : decode cX8_unseen 1 = .ok (.istore_n 1, 1) := by decide +kernel
theorem dX8_unseen_2 : decode cX8_unseen 2 = .ok (.iconst 0, 1) := by decide +kernel
theorem dX8_unseen_3 : decode cX8_unseen 3 = .ok (.istore_n 2, 1) := by decide +kernel
theorem dX8_unseen_4 : decode cX8_unseen 4 = .ok (.iload_n 2, 1) := by decide +kernel
theorem dX8_unseen_5 : decode cX8_unseen 5 = .ok (.aload_n 0, 1) := by decide +kernel
theorem dX8_unseen_6 : decode cX8_unseen 6 = .ok (.getfield 35, 3) := by decide +kernel
theorem dX8_unseen_9 : decode cX8_unseen 9 = .ok (.getfield 124, 3) := by decide +kernel
theorem dX8_unseen_12 : decode cX8_unseen 12 = .ok (.if_icmp .ge 51, 3) := by decide +kernel
theorem dX8_unseen_15 : decode cX8_unseen 15 = .ok (.aload_n 0, 1) := by decide +kernel
theorem dX8_unseen_16 : decode cX8_unseen 16 = .ok (.getfield 74, 3) := by decide +kernel
theorem dX8_unseen_19 : decode cX8_unseen 19 = .ok (.aload_n 0, 1) := by decide +kernel
theorem dX8_unseen_20 : decode cX8_unseen 20 = .ok (.getfield 35, 3) := by decide +kernel
theorem dX8_unseen_23 : decode cX8_unseen 23 = .ok (.iload_n 2, 1) := by decide +kernel
theorem dX8_unseen_24 : decode cX8_unseen 24 = .ok (.invokevirtual 143, 3) := by decide +kernel
theorem dX8_unseen_27 : decode cX8_unseen 27 = .ok (.aload_n 0, 1) := by decide +kernel
theorem dX8_unseen_28 : decode cX8_unseen 28 = .ok (.getfield 74, 3) := by decide +kernel
theorem dX8_unseen_31 : decode cX8_unseen 31 = .ok (.getfield 151, 3) := by decide +kernel
theorem dX8_unseen_34 : decode cX8_unseen 34 = .ok (.ifCond .eq 23, 3) := by decide +kernel
theorem dX8_unseen_37 : decode cX8_unseen 37 = .ok (.aload_n 0, 1) := by decide +kernel
theorem dX8_unseen_38 : decode cX8_unseen 38 = .ok (.getfield 65, 3) := by decide +kernel
theorem dX8_unseen_41 : decode cX8_unseen 41 = .ok (.aload_n 0, 1) := by decide +kernel
theorem dX8_unseen_42 : decode cX8_unseen 42 = .ok (.getfield 74, 3) := by decide +kernel
theorem dX8_unseen_45 : decode cX8_unseen 45 = .ok (.invokevirtual 209, 3) := by decide +kernel
theorem dX8_unseen_48 : decode cX8_unseen 48 = .ok (.ifCond .eq 9, 3) := by decide +kernel
theorem dX8_unseen_51 : decode cX8_unseen 51 = .ok (.iload_n 1, 1) := by decide +kernel
theorem dX8_unseen_52 : decode cX8_unseen 52 = .ok (.iconst 1, 1) := by decide +kernel
theorem dX8_unseen_53 : decode cX8_unseen 53 = .ok (.iload_n 2, 1) := by decide +kernel
theorem dX8_unseen_54 : decode cX8_unseen 54 = .ok (.ishl, 1) := by decide +kernel
theorem dX8_unseen_55 : decode cX8_unseen 55 = .ok (.ior, 1) := by decide +kernel
theorem dX8_unseen_56 : decode cX8_unseen 56 = .ok (.istore_n 1, 1) := by decide +kernel
theorem dX8_unseen_57 : decode cX8_unseen 57 = .ok (.iinc 2 1, 3) := by decide +kernel
theorem dX8_unseen_60 : decode cX8_unseen 60 = .ok (.goto (-56), 3) := by decide +kernel
theorem dX8_unseen_63 : decode cX8_unseen 63 = .ok (.iload_n 1, 1) := by decide +kernel
theorem dX8_unseen_64 : decode cX8_unseen 64 = .ok (.ireturn, 1) := by decide +kernel
theorem dX8_keep_0 : decode cX8_keep 0 = .ok (.iload_n 1, 1) := by decide +kernel
theorem dX8_keep_1 : decode cX8_keep 1 = .ok (.ifCond .lt 8, 3) := by decide +kernel
theorem dX8_keep_4 : decode cX8_keep 4 = .ok (.iload_n 1, 1) := by decide +kernel
theorem dX8_keep_5 : decode cX8_keep 5 = .ok (.iconst 2, 1) := by decide +kernel
theorem dX8_keep_6 : decode cX8_keep 6 = .ok (.if_icmp .lt 5, 3) := by decide +kernel
theorem dX8_keep_9 : decode cX8_keep 9 = .ok (.iconst (-1), 1) := by decide +kernel
theorem dX8_keep_10 : decode cX8_keep 10 = .ok (.ireturn, 1) := by decide +kernel
theorem dX8_keep_11 : decode cX8_keep 11 = .ok (.aload_n 0, 1) := by decide +kernel
theorem dX8_keep_12 : decode cX8_keep 12 = .ok (.getfield 54, 3) := by decide +kernel
theorem dX8_keep_15 : decode cX8_keep 15 = .ok (.iload_n 1, 1) := by decide +kernel
theorem dX8_keep_16 : decode cX8_keep 16 = .ok (.aaload, 1) := by decide +kernel
theorem dX8_keep_17 : decode cX8_keep 17 = .ok (.aload_n 0, 1) := by decide +kernel
theorem dX8_keep_18 : decode cX8_keep 18 = .ok (.getfield 35, 3) := by decide +kernel
theorem dX8_keep_21 : decode cX8_keep 21 = .ok (.invokevirtual 213, 3) := by decide +kernel
theorem dX8_keep_24 : decode cX8_keep 24 = .ok (.aload_n 0, 1) := by decide +kernel
theorem dX8_keep_25 : decode cX8_keep 25 = .ok (.getfield 58, 3) := by decide +kernel
theorem dX8_keep_28 : decode cX8_keep 28 = .ok (.iload_n 1, 1) := by decide +kernel
theorem dX8_keep_29 : decode cX8_keep 29 = .ok (.iconst 1, 1) := by decide +kernel
theorem dX8_keep_30 : decode cX8_keep 30 = .ok (.bastore, 1) := by decide +kernel
theorem dX8_keep_31 : decode cX8_keep 31 = .ok (.aload_n 0, 1) := by decide +kernel
theorem dX8_keep_32 : decode cX8_keep 32 = .ok (.getfield 35, 3) := by decide +kernel
theorem dX8_keep_35 : decode cX8_keep 35 = .ok (.getfield 124, 3) := by decide +kernel
theorem dX8_keep_38 : decode cX8_keep 38 = .ok (.ireturn, 1) := by decide +kernel
theorem dX8_back_0 : decode cX8_back 0 = .ok (.iload_n 1, 1) := by decide +kernel
theorem dX8_back_1 : decode cX8_back 1 = .ok (.ifCond .lt 8, 3) := by decide +kernel
theorem dX8_back_4 : decode cX8_back 4 = .ok (.iload_n 1, 1) := by decide +kernel
theorem dX8_back_5 : decode cX8_back 5 = .ok (.iconst 2, 1) := by decide +kernel
theorem dX8_back_6 : decode cX8_back 6 = .ok (.if_icmp .lt 5, 3) := by decide +kernel
theorem dX8_back_9 : decode cX8_back 9 = .ok (.iconst (-1), 1) := by decide +kernel
theorem dX8_back_10 : decode cX8_back 10 = .ok (.ireturn, 1) := by decide +kernel
theorem dX8_back_11 : decode cX8_back 11 = .ok (.aload_n 0, 1) := by decide +kernel
theorem dX8_back_12 : decode cX8_back 12 = .ok (.getfield 58, 3) := by decide +kernel
theorem dX8_back_15 : decode cX8_back 15 = .ok (.iload_n 1, 1) := by decide +kernel
theorem dX8_back_16 : decode cX8_back 16 = .ok (.baload, 1) := by decide +kernel
theorem dX8_back_17 : decode cX8_back 17 = .ok (.ifCond .ne 6, 3) := by decide +kernel
theorem dX8_back_20 : decode cX8_back 20 = .ok (.bipush (-2), 2) := by decide +kernel
theorem dX8_back_22 : decode cX8_back 22 = .ok (.ireturn, 1) := by decide +kernel
theorem dX8_back_23 : decode cX8_back 23 = .ok (.aload_n 0, 1) := by decide +kernel
theorem dX8_back_24 : decode cX8_back 24 = .ok (.getfield 35, 3) := by decide +kernel
theorem dX8_back_27 : decode cX8_back 27 = .ok (.aload_n 0, 1) := by decide +kernel
theorem dX8_back_28 : decode cX8_back 28 = .ok (.getfield 54, 3) := by decide +kernel
theorem dX8_back_31 : decode cX8_back 31 = .ok (.iload_n 1, 1) := by decide +kernel
theorem dX8_back_32 : decode cX8_back 32 = .ok (.aaload, 1) := by decide +kernel
theorem dX8_back_33 : decode cX8_back 33 = .ok (.invokevirtual 213, 3) := by decide +kernel
theorem dX8_back_36 : decode cX8_back 36 = .ok (.aload_n 0, 1) := by decide +kernel
theorem dX8_back_37 : decode cX8_back 37 = .ok (.getfield 50, 3) := by decide +kernel
theorem dX8_back_40 : decode cX8_back 40 = .ok (.iconst 0, 1) := by decide +kernel
theorem dX8_back_41 : decode cX8_back 41 = .ok (.putfield 95, 3) := by decide +kernel
theorem dX8_back_44 : decode cX8_back 44 = .ok (.aload_n 0, 1) := by decide +kernel
theorem dX8_back_45 : decode cX8_back 45 = .ok (.getfield 35, 3) := by decide +kernel
theorem dX8_back_48 : decode cX8_back 48 = .ok (.getfield 124, 3) := by decide +kernel
theorem dX8_back_51 : decode cX8_back 51 = .ok (.ireturn, 1) := by decide +kernel
theorem dX8_count_0 : decode cX8_count 0 = .ok (.iload_n 1, 1) := by decide +kernel
theorem dX8_count_1 : decode cX8_count 1 = .ok (.tableswitch 206 0 9 #[55, 63, 71, 79, 115, 151, 174, 182, 190, 198], 55) := by decide +kernel
theorem dX8_count_56 : decode cX8_count 56 = .ok (.aload_n 0, 1) := by decide +kernel
theorem dX8_count_57 : decode cX8_count 57 = .ok (.getfield 28, 3) := by decide +kernel
theorem dX8_count_60 : decode cX8_count 60 = .ok (.getfield 117, 3) := by decide +kernel
theorem dX8_count_63 : decode cX8_count 63 = .ok (.ireturn, 1) := by decide +kernel
theorem dX8_count_64 : decode cX8_count 64 = .ok (.aload_n 0, 1) := by decide +kernel
theorem dX8_count_65 : decode cX8_count 65 = .ok (.getfield 35, 3) := by decide +kernel
theorem dX8_count_68 : decode cX8_count 68 = .ok (.getfield 124, 3) := by decide +kernel
theorem dX8_count_71 : decode cX8_count 71 = .ok (.ireturn, 1) := by decide +kernel
theorem dX8_count_72 : decode cX8_count 72 = .ok (.aload_n 0, 1) := by decide +kernel
theorem dX8_count_73 : decode cX8_count 73 = .ok (.getfield 35, 3) := by decide +kernel
theorem dX8_count_76 : decode cX8_count 76 = .ok (.getfield 139, 3) := by decide +kernel
theorem dX8_count_79 : decode cX8_count 79 = .ok (.ireturn, 1) := by decide +kernel
theorem dX8_count_80 : decode cX8_count 80 = .ok (.aload_n 0, 1) := by decide +kernel
theorem dX8_count_81 : decode cX8_count 81 = .ok (.getfield 74, 3) := by decide +kernel
theorem dX8_count_84 : decode cX8_count 84 = .ok (.aload_n 0, 1) := by decide +kernel
theorem dX8_count_85 : decode cX8_count 85 = .ok (.getfield 35, 3) := by decide +kernel
theorem dX8_count_88 : decode cX8_count 88 = .ok (.bipush (-9), 2) := by decide +kernel
theorem dX8_count_90 : decode cX8_count 90 = .ok (.invokevirtual 143, 3) := by decide +kernel
theorem dX8_count_93 : decode cX8_count 93 = .ok (.aload_n 0, 1) := by decide +kernel
theorem dX8_count_94 : decode cX8_count 94 = .ok (.getfield 74, 3) := by decide +kernel
theorem dX8_count_97 : decode cX8_count 97 = .ok (.getfield 151, 3) := by decide +kernel
theorem dX8_count_100 : decode cX8_count 100 = .ok (.ifCond .eq 13, 3) := by decide +kernel
theorem dX8_count_103 : decode cX8_count 103 = .ok (.aload_n 0, 1) := by decide +kernel
theorem dX8_count_104 : decode cX8_count 104 = .ok (.getfield 74, 3) := by decide +kernel
theorem dX8_count_107 : decode cX8_count 107 = .ok (.getfield 158, 3) := by decide +kernel
theorem dX8_count_110 : decode cX8_count 110 = .ok (.goto 5, 3) := by decide +kernel
theorem dX8_count_113 : decode cX8_count 113 = .ok (.bipush (-9), 2) := by decide +kernel
theorem dX8_count_115 : decode cX8_count 115 = .ok (.ireturn, 1) := by decide +kernel
theorem dX8_count_116 : decode cX8_count 116 = .ok (.aload_n 0, 1) := by decide +kernel
theorem dX8_count_117 : decode cX8_count 117 = .ok (.getfield 74, 3) := by decide +kernel
theorem dX8_count_120 : decode cX8_count 120 = .ok (.aload_n 0, 1) := by decide +kernel
theorem dX8_count_121 : decode cX8_count 121 = .ok (.getfield 35, 3) := by decide +kernel
theorem dX8_count_124 : decode cX8_count 124 = .ok (.bipush (-9), 2) := by decide +kernel
theorem dX8_count_126 : decode cX8_count 126 = .ok (.invokevirtual 143, 3) := by decide +kernel
theorem dX8_count_129 : decode cX8_count 129 = .ok (.aload_n 0, 1) := by decide +kernel
theorem dX8_count_130 : decode cX8_count 130 = .ok (.getfield 74, 3) := by decide +kernel
theorem dX8_count_133 : decode cX8_count 133 = .ok (.getfield 151, 3) := by decide +kernel
theorem dX8_count_136 : decode cX8_count 136 = .ok (.ifCond .eq 13, 3) := by decide +kernel
theorem dX8_count_139 : decode cX8_count 139 = .ok (.aload_n 0, 1) := by decide +kernel
theorem dX8_count_140 : decode cX8_count 140 = .ok (.getfield 74, 3) := by decide +kernel
theorem dX8_count_143 : decode cX8_count 143 = .ok (.invokevirtual 215, 3) := by decide +kernel
theorem dX8_count_146 : decode cX8_count 146 = .ok (.goto 5, 3) := by decide +kernel
theorem dX8_count_149 : decode cX8_count 149 = .ok (.bipush (-9), 2) := by decide +kernel
theorem dX8_count_151 : decode cX8_count 151 = .ok (.ireturn, 1) := by decide +kernel
theorem dX8_count_152 : decode cX8_count 152 = .ok (.aload_n 0, 1) := by decide +kernel
theorem dX8_count_153 : decode cX8_count 153 = .ok (.getfield 35, 3) := by decide +kernel
theorem dX8_count_156 : decode cX8_count 156 = .ok (.invokevirtual 147, 3) := by decide +kernel
theorem dX8_count_159 : decode cX8_count 159 = .ok (.ifCond .eq 13, 3) := by decide +kernel
theorem dX8_count_162 : decode cX8_count 162 = .ok (.aload_n 0, 1) := by decide +kernel
theorem dX8_count_163 : decode cX8_count 163 = .ok (.getfield 35, 3) := by decide +kernel
theorem dX8_count_166 : decode cX8_count 166 = .ok (.getfield 155, 3) := by decide +kernel
theorem dX8_count_169 : decode cX8_count 169 = .ok (.goto 5, 3) := by decide +kernel
theorem dX8_count_172 : decode cX8_count 172 = .ok (.bipush (-9), 2) := by decide +kernel
theorem dX8_count_174 : decode cX8_count 174 = .ok (.ireturn, 1) := by decide +kernel
theorem dX8_count_175 : decode cX8_count 175 = .ok (.aload_n 0, 1) := by decide +kernel
theorem dX8_count_176 : decode cX8_count 176 = .ok (.getfield 35, 3) := by decide +kernel
theorem dX8_count_179 : decode cX8_count 179 = .ok (.getfield 155, 3) := by decide +kernel
theorem dX8_count_182 : decode cX8_count 182 = .ok (.ireturn, 1) := by decide +kernel
theorem dX8_count_183 : decode cX8_count 183 = .ok (.aload_n 0, 1) := by decide +kernel
theorem dX8_count_184 : decode cX8_count 184 = .ok (.getfield 65, 3) := by decide +kernel
theorem dX8_count_187 : decode cX8_count 187 = .ok (.getfield 98, 3) := by decide +kernel
theorem dX8_count_190 : decode cX8_count 190 = .ok (.ireturn, 1) := by decide +kernel
theorem dX8_count_191 : decode cX8_count 191 = .ok (.aload_n 0, 1) := by decide +kernel
theorem dX8_count_192 : decode cX8_count 192 = .ok (.getfield 10, 3) := by decide +kernel
theorem dX8_count_195 : decode cX8_count 195 = .ok (.getfield 78, 3) := by decide +kernel
theorem dX8_count_198 : decode cX8_count 198 = .ok (.ireturn, 1) := by decide +kernel
theorem dX8_count_199 : decode cX8_count 199 = .ok (.aload_n 0, 1) := by decide +kernel
theorem dX8_count_200 : decode cX8_count 200 = .ok (.getfield 50, 3) := by decide +kernel
theorem dX8_count_203 : decode cX8_count 203 = .ok (.getfield 95, 3) := by decide +kernel
theorem dX8_count_206 : decode cX8_count 206 = .ok (.ireturn, 1) := by decide +kernel
theorem dX8_count_207 : decode cX8_count 207 = .ok (.iconst (-1), 1) := by decide +kernel
theorem dX8_count_208 : decode cX8_count 208 = .ok (.ireturn, 1) := by decide +kernel
theorem dX8_isDistance_0 : decode cX8_isDistance 0 = .ok (.iload_n 0, 1) := by decide +kernel
theorem dX8_isDistance_1 : decode cX8_isDistance 1 = .ok (.iconst 1, 1) := by decide +kernel
theorem dX8_isDistance_2 : decode cX8_isDistance 2 = .ok (.if_icmp .lt 13, 3) := by decide +kernel
theorem dX8_isDistance_5 : decode cX8_isDistance 5 = .ok (.iload_n 0, 1) := by decide +kernel
theorem dX8_isDistance_6 : decode cX8_isDistance 6 = .ok (.bipush 9, 2) := by decide +kernel
theorem dX8_isDistance_8 : decode cX8_isDistance 8 = .ok (.if_icmp .gt 7, 3) := by decide +kernel
theorem dX8_isDistance_11 : decode cX8_isDistance 11 = .ok (.iconst 1, 1) := by decide +kernel
theorem dX8_isDistance_12 : decode cX8_isDistance 12 = .ok (.goto 4, 3) := by decide +kernel
theorem dX8_isDistance_15 : decode cX8_isDistance 15 = .ok (.iconst 0, 1) := by decide +kernel
theorem dX8_isDistance_16 : decode cX8_isDistance 16 = .ok (.ireturn, 1) := by decide +kernel

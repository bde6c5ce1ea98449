/-! decode rows -/
theorem dX0_init_0 : decode cX0_init 0 = .ok (.aload_n 0, 1) := by decide +kernel
theorem dX0_init_1 : decode cX0_init 1 = .ok (.invokespecial 3, 3) := by decide +kernel
theorem dX0_init_4 : decode cX0_init 4 = .ok (.aload_n 0, 1) := by decide +kernel
theorem dX0_init_5 : decode cX0_init 5 = .ok (.bipush 8, 2) := by decide +kernel
theorem dX0_init_7 : decode cX0_init 7 = .ok (.newarray .int, 2) := by decide +kernel
theorem dX0_init_9 : decode cX0_init 9 = .ok (.putfield 9, 3) := by decide +kernel
theorem dX0_init_12 : decode cX0_init 12 = .ok (.aload_n 0, 1) := by decide +kernel
theorem dX0_init_13 : decode cX0_init 13 = .ok (.bipush 8, 2) := by decide +kernel
theorem dX0_init_15 : decode cX0_init 15 = .ok (.newarray .int, 2) := by decide +kernel
theorem dX0_init_17 : decode cX0_init 17 = .ok (.putfield 15, 3) := by decide +kernel
theorem dX0_init_20 : decode cX0_init 20 = .ok (.aload_n 0, 1) := by decide +kernel
theorem dX0_init_21 : decode cX0_init 21 = .ok (.bipush 10, 2) := by decide +kernel
theorem dX0_init_23 : decode cX0_init 23 = .ok (.newarray .int, 2) := by decide +kernel
theorem dX0_init_25 : decode cX0_init 25 = .ok (.putfield 18, 3) := by decide +kernel
theorem dX0_init_28 : decode cX0_init 28 = .ok (.aload_n 0, 1) := by decide +kernel
theorem dX0_init_29 : decode cX0_init 29 = .ok (.invokevirtual 21, 3) := by decide +kernel
theorem dX0_init_32 : decode cX0_init 32 = .ok (.return_, 1) := by decide +kernel
theorem dX0_reset_0 : decode cX0_reset 0 = .ok (.iconst 0, 1) := by decide +kernel
theorem dX0_reset_1 : decode cX0_reset 1 = .ok (.istore_n 1, 1) := by decide +kernel
theorem dX0_reset_2 : decode cX0_reset 2 = .ok (.iload_n 1, 1) := by decide +kernel
theorem dX0_reset_3 : decode cX0_reset 3 = .ok (.bipush 8, 2) := by decide +kernel
theorem dX0_reset_5 : decode cX0_reset 5 = .ok (.if_icmp .ge 23, 3) := by decide +kernel
theorem dX0_reset_8 : decode cX0_reset 8 = .ok (.aload_n 0, 1) := by decide +kernel
theorem dX0_reset_9 : decode cX0_reset 9 = .ok (.getfield 9, 3) := by decide +kernel
theorem dX0_reset_12 : decode cX0_reset 12 = .ok (.iload_n 1, 1) := by decide +kernel
theorem dX0_reset_13 : decode cX0_reset 13 = .ok (.iload_n 1, 1) := by decide +kernel
theorem dX0_reset_14 : decode cX0_reset 14 = .ok (.iastore, 1) := by decide +kernel
theorem dX0_reset_15 : decode cX0_reset 15 = .ok (.aload_n 0, 1) := by decide +kernel
theorem dX0_reset_16 : decode cX0_reset 16 = .ok (.getfield 15, 3) := by decide +kernel
theorem dX0_reset_19 : decode cX0_reset 19 = .ok (.iload_n 1, 1) := by decide +kernel
theorem dX0_reset_20 : decode cX0_reset 20 = .ok (.iconst 5, 1) := by decide +kernel
theorem dX0_reset_21 : decode cX0_reset 21 = .ok (.iastore, 1) := by decide +kernel
theorem dX0_reset_22 : decode cX0_reset 22 = .ok (.iinc 1 1, 3) := by decide +kernel
theorem dX0_reset_25 : decode cX0_reset 25 = .ok (.goto (-23), 3) := by decide +kernel
theorem dX0_reset_28 : decode cX0_reset 28 = .ok (.aload_n 0, 1) := by decide +kernel
theorem dX0_reset_29 : decode cX0_reset 29 = .ok (.iconst 0, 1) := by decide +kernel
theorem dX0_reset_30 : decode cX0_reset 30 = .ok (.putfield 24, 3) := by decide +kernel
theorem dX0_reset_33 : decode cX0_reset 33 = .ok (.aload_n 0, 1) := by decide +kernel
theorem dX0_reset_34 : decode cX0_reset 34 = .ok (.iconst 5, 1) := by decide +kernel
theorem dX0_reset_35 : decode cX0_reset 35 = .ok (.putfield 28, 3) := by decide +kernel
theorem dX0_reset_38 : decode cX0_reset 38 = .ok (.return_, 1) := by decide +kernel
theorem dX0_copyFrom_0 : decode cX0_copyFrom 0 = .ok (.aload_n 1, 1) := by decide +kernel
theorem dX0_copyFrom_1 : decode cX0_copyFrom 1 = .ok (.getfield 9, 3) := by decide +kernel
theorem dX0_copyFrom_4 : decode cX0_copyFrom 4 = .ok (.iconst 0, 1) := by decide +kernel
theorem dX0_copyFrom_5 : decode cX0_copyFrom 5 = .ok (.aload_n 0, 1) := by decide +kernel
theorem dX0_copyFrom_6 : decode cX0_copyFrom 6 = .ok (.getfield 9, 3) := by decide +kernel
theorem dX0_copyFrom_9 : decode cX0_copyFrom 9 = .ok (.iconst 0, 1) := by decide +kernel
theorem dX0_copyFrom_10 : decode cX0_copyFrom 10 = .ok (.bipush 8, 2) := by decide +kernel
theorem dX0_copyFrom_12 : decode cX0_copyFrom 12 = .ok (.invokestatic 31, 3) := by decide +kernel
theorem dX0_copyFrom_15 : decode cX0_copyFrom 15 = .ok (.aload_n 1, 1) := by decide +kernel
theorem dX0_copyFrom_16 : decode cX0_copyFrom 16 = .ok (.getfield 15, 3) := by decide +kernel
theorem dX0_copyFrom_19 : decode cX0_copyFrom 19 = .ok (.iconst 0, 1) := by decide +kernel
theorem dX0_copyFrom_20 : decode cX0_copyFrom 20 = .ok (.aload_n 0, 1) := by decide +kernel
theorem dX0_copyFrom_21 : decode cX0_copyFrom 21 = .ok (.getfield 15, 3) := by decide +kernel
theorem dX0_copyFrom_24 : decode cX0_copyFrom 24 = .ok (.iconst 0, 1) := by decide +kernel
theorem dX0_copyFrom_25 : decode cX0_copyFrom 25 = .ok (.bipush 8, 2) := by decide +kernel
theorem dX0_copyFrom_27 : decode cX0_copyFrom 27 = .ok (.invokestatic 31, 3) := by decide +kernel
theorem dX0_copyFrom_30 : decode cX0_copyFrom 30 = .ok (.aload_n 1, 1) := by decide +kernel
theorem dX0_copyFrom_31 : decode cX0_copyFrom 31 = .ok (.getfield 18, 3) := by decide +kernel
theorem dX0_copyFrom_34 : decode cX0_copyFrom 34 = .ok (.iconst 0, 1) := by decide +kernel
theorem dX0_copyFrom_35 : decode cX0_copyFrom 35 = .ok (.aload_n 0, 1) := by decide +kernel
theorem dX0_copyFrom_36 : decode cX0_copyFrom 36 = .ok (.getfield 18, 3) := by decide +kernel
theorem dX0_copyFrom_39 : decode cX0_copyFrom 39 = .ok (.iconst 0, 1) := by decide +kernel
theorem dX0_copyFrom_40 : decode cX0_copyFrom 40 = .ok (.bipush 10, 2) := by decide +kernel
theorem dX0_copyFrom_42 : decode cX0_copyFrom 42 = .ok (.invokestatic 31, 3) := by decide +kernel
theorem dX0_copyFrom_45 : decode cX0_copyFrom 45 = .ok (.aload_n 0, 1) := by decide +kernel
theorem dX0_copyFrom_46 : decode cX0_copyFrom 46 = .ok (.aload_n 1, 1) := by decide +kernel
theorem dX0_copyFrom_47 : decode cX0_copyFrom 47 = .ok (.getfield 24, 3) := by decide +kernel
theorem dX0_copyFrom_50 : decode cX0_copyFrom 50 = .ok (.putfield 24, 3) := by decide +kernel
theorem dX0_copyFrom_53 : decode cX0_copyFrom 53 = .ok (.aload_n 0, 1) := by decide +kernel
theorem dX0_copyFrom_54 : decode cX0_copyFrom 54 = .ok (.aload_n 1, 1) := by decide +kernel
theorem dX0_copyFrom_55 : decode cX0_copyFrom 55 = .ok (.getfield 28, 3) := by decide +kernel
theorem dX0_copyFrom_58 : decode cX0_copyFrom 58 = .ok (.putfield 28, 3) := by decide +kernel
theorem dX0_copyFrom_61 : decode cX0_copyFrom 61 = .ok (.return_, 1) := by decide +kernel
theorem dX0_packed_0 : decode cX0_packed 0 = .ok (.iload_n 0, 1) := by decide +kernel
theorem dX0_packed_1 : decode cX0_packed 1 = .ok (.iconst 1, 1) := by decide +kernel
theorem dX0_packed_2 : decode cX0_packed 2 = .ok (.iadd, 1) := by decide +kernel
theorem dX0_packed_3 : decode cX0_packed 3 = .ok (.iload_n 1, 1) := by decide +kernel
theorem dX0_packed_4 : decode cX0_packed 4 = .ok (.invokestatic 37, 3) := by decide +kernel
theorem dX0_packed_7 : decode cX0_packed 7 = .ok (.ishl, 1) := by decide +kernel
theorem dX0_packed_8 : decode cX0_packed 8 = .ok (.ireturn, 1) := by decide +kernel
theorem dX0_shiftOf_0 : decode cX0_shiftOf 0 = .ok (.iconst 4, 1) := by decide +kernel
theorem dX0_shiftOf_1 : decode cX0_shiftOf 1 = .ok (.iconst 3, 1) := by decide +kernel
theorem dX0_shiftOf_2 : decode cX0_shiftOf 2 = .ok (.iload_n 0, 1) := by decide +kernel
theorem dX0_shiftOf_3 : decode cX0_shiftOf 3 = .ok (.isub, 1) := by decide +kernel
theorem dX0_shiftOf_4 : decode cX0_shiftOf 4 = .ok (.imul, 1) := by decide +kernel
theorem dX0_shiftOf_5 : decode cX0_shiftOf 5 = .ok (.ireturn, 1) := by decide +kernel
theorem dX0_has_0 : decode cX0_has 0 = .ok (.iload_n 1, 1) := by decide +kernel
theorem dX0_has_1 : decode cX0_has 1 = .ok (.ifCond .lt 15, 3) := by decide +kernel
theorem dX0_has_4 : decode cX0_has 4 = .ok (.iload_n 1, 1) := by decide +kernel
theorem dX0_has_5 : decode cX0_has 5 = .ok (.aload_n 0, 1) := by decide +kernel
theorem dX0_has_6 : decode cX0_has 6 = .ok (.getfield 24, 3) := by decide +kernel
theorem dX0_has_9 : decode cX0_has 9 = .ok (.if_icmp .ge 7, 3) := by decide +kernel
theorem dX0_has_12 : decode cX0_has 12 = .ok (.iconst 1, 1) := by decide +kernel
theorem dX0_has_13 : decode cX0_has 13 = .ok (.goto 4, 3) := by decide +kernel
theorem dX0_has_16 : decode cX0_has 16 = .ok (.iconst 0, 1) := by decide +kernel
theorem dX0_has_17 : decode cX0_has 17 = .ok (.ireturn, 1) := by decide +kernel
theorem dX0_hasCode_0 : decode cX0_hasCode 0 = .ok (.iconst 0, 1) := by decide +kernel
theorem dX0_hasCode_1 : decode cX0_hasCode 1 = .ok (.istore_n 2, 1) := by decide +kernel
theorem dX0_hasCode_2 : decode cX0_hasCode 2 = .ok (.iload_n 2, 1) := by decide +kernel
theorem dX0_hasCode_3 : decode cX0_hasCode 3 = .ok (.aload_n 0, 1) := by decide +kernel
theorem dX0_hasCode_4 : decode cX0_hasCode 4 = .ok (.getfield 24, 3) := by decide +kernel
theorem dX0_hasCode_7 : decode cX0_hasCode 7 = .ok (.if_icmp .ge 21, 3) := by decide +kernel
theorem dX0_hasCode_10 : decode cX0_hasCode 10 = .ok (.aload_n 0, 1) := by decide +kernel
theorem dX0_hasCode_11 : decode cX0_hasCode 11 = .ok (.getfield 18, 3) := by decide +kernel
theorem dX0_hasCode_14 : decode cX0_hasCode 14 = .ok (.iload_n 2, 1) := by decide +kernel
theorem dX0_hasCode_15 : decode cX0_hasCode 15 = .ok (.iaload, 1) := by decide +kernel
theorem dX0_hasCode_16 : decode cX0_hasCode 16 = .ok (.iload_n 1, 1) := by decide +kernel
theorem dX0_hasCode_17 : decode cX0_hasCode 17 = .ok (.if_icmp .ne 5, 3) := by decide +kernel
theorem dX0_hasCode_20 : decode cX0_hasCode 20 = .ok (.iconst 1, 1) := by decide +kernel
theorem dX0_hasCode_21 : decode cX0_hasCode 21 = .ok (.ireturn, 1) := by decide +kernel
theorem dX0_hasCode_22 : decode cX0_hasCode 22 = .ok (.iinc 2 1, 3) := by decide +kernel
theorem dX0_hasCode_25 : decode cX0_hasCode 25 = .ok (.goto (-23), 3) := by decide +kernel
theorem dX0_hasCode_28 : decode cX0_hasCode 28 = .ok (.iconst 0, 1) := by decide +kernel
theorem dX0_hasCode_29 : decode cX0_hasCode 29 = .ok (.ireturn, 1) := by decide +kernel
theorem dX0_add_0 : decode cX0_add 0 = .ok (.aload_n 0, 1) := by decide +kernel
theorem dX0_add_1 : decode cX0_add 1 = .ok (.getfield 24, 3) := by decide +kernel
theorem dX0_add_4 : decode cX0_add 4 = .ok (.bipush 10, 2) := by decide +kernel
theorem dX0_add_6 : decode cX0_add 6 = .ok (.if_icmp .ge 23, 3) := by decide +kernel
theorem dX0_add_9 : decode cX0_add 9 = .ok (.aload_n 0, 1) := by decide +kernel
theorem dX0_add_10 : decode cX0_add 10 = .ok (.getfield 18, 3) := by decide +kernel
theorem dX0_add_13 : decode cX0_add 13 = .ok (.aload_n 0, 1) := by decide +kernel
theorem dX0_add_14 : decode cX0_add 14 = .ok (.getfield 24, 3) := by decide +kernel
theorem dX0_add_17 : decode cX0_add 17 = .ok (.iload_n 1, 1) := by decide +kernel
theorem dX0_add_18 : decode cX0_add 18 = .ok (.iastore, 1) := by decide +kernel
theorem dX0_add_19 : decode cX0_add 19 = .ok (.aload_n 0, 1) := by decide +kernel
theorem dX0_add_20 : decode cX0_add 20 = .ok (.dup, 1) := by decide +kernel
theorem dX0_add_21 : decode cX0_add 21 = .ok (.getfield 24, 3) := by decide +kernel
theorem dX0_add_24 : decode cX0_add 24 = .ok (.iconst 1, 1) := by decide +kernel
theorem dX0_add_25 : decode cX0_add 25 = .ok (.iadd, 1) := by decide +kernel
theorem dX0_add_26 : decode cX0_add 26 = .ok (.putfield 24, 3) := by decide +kernel
theorem dX0_add_29 : decode cX0_add 29 = .ok (.return_, 1) := by decide +kernel
theorem dX0_letterOf_0 : decode cX0_letterOf 0 = .ok (.aload_n 0, 1) := by decide +kernel
theorem dX0_letterOf_1 : decode cX0_letterOf 1 = .ok (.iload_n 1, 1) := by decide +kernel
theorem dX0_letterOf_2 : decode cX0_letterOf 2 = .ok (.invokevirtual 41, 3) := by decide +kernel
theorem dX0_letterOf_5 : decode cX0_letterOf 5 = .ok (.ifCond .ne 6, 3) := by decide +kernel
theorem dX0_letterOf_8 : decode cX0_letterOf 8 = .ok (.bipush (-9), 2) := by decide +kernel
theorem dX0_letterOf_10 : decode cX0_letterOf 10 = .ok (.ireturn, 1) := by decide +kernel
theorem dX0_letterOf_11 : decode cX0_letterOf 11 = .ok (.aload_n 0, 1) := by decide +kernel
theorem dX0_letterOf_12 : decode cX0_letterOf 12 = .ok (.getfield 18, 3) := by decide +kernel
theorem dX0_letterOf_15 : decode cX0_letterOf 15 = .ok (.iload_n 1, 1) := by decide +kernel
theorem dX0_letterOf_16 : decode cX0_letterOf 16 = .ok (.iaload, 1) := by decide +kernel
theorem dX0_letterOf_17 : decode cX0_letterOf 17 = .ok (.iload_n 2, 1) := by decide +kernel
theorem dX0_letterOf_18 : decode cX0_letterOf 18 = .ok (.invokestatic 37, 3) := by decide +kernel
theorem dX0_letterOf_21 : decode cX0_letterOf 21 = .ok (.ishr, 1) := by decide +kernel
theorem dX0_letterOf_22 : decode cX0_letterOf 22 = .ok (.bipush 15, 2) := by decide +kernel
theorem dX0_letterOf_24 : decode cX0_letterOf 24 = .ok (.iand, 1) := by decide +kernel
theorem dX0_letterOf_25 : decode cX0_letterOf 25 = .ok (.istore_n 3, 1) := by decide +kernel
theorem dX0_letterOf_26 : decode cX0_letterOf 26 = .ok (.iload_n 3, 1) := by decide +kernel
theorem dX0_letterOf_27 : decode cX0_letterOf 27 = .ok (.ifCond .ne 8, 3) := by decide +kernel
theorem dX0_letterOf_30 : decode cX0_letterOf 30 = .ok (.bipush (-9), 2) := by decide +kernel
theorem dX0_letterOf_32 : decode cX0_letterOf 32 = .ok (.goto 6, 3) := by decide +kernel
theorem dX0_letterOf_35 : decode cX0_letterOf 35 = .ok (.iload_n 3, 1) := by decide +kernel
theorem dX0_letterOf_36 : decode cX0_letterOf 36 = .ok (.iconst 1, 1) := by decide +kernel
theorem dX0_letterOf_37 : decode cX0_letterOf 37 = .ok (.isub, 1) := by decide +kernel
theorem dX0_letterOf_38 : decode cX0_letterOf 38 = .ok (.ireturn, 1) := by decide +kernel
theorem dX0_lengthOf_0 : decode cX0_lengthOf 0 = .ok (.iconst 0, 1) := by decide +kernel
theorem dX0_lengthOf_1 : decode cX0_lengthOf 1 = .ok (.istore_n 2, 1) := by decide +kernel
theorem dX0_lengthOf_2 : decode cX0_lengthOf 2 = .ok (.iload_n 2, 1) := by decide +kernel
theorem dX0_lengthOf_3 : decode cX0_lengthOf 3 = .ok (.iconst 4, 1) := by decide +kernel
theorem dX0_lengthOf_4 : decode cX0_lengthOf 4 = .ok (.if_icmp .ge 20, 3) := by decide +kernel
theorem dX0_lengthOf_7 : decode cX0_lengthOf 7 = .ok (.aload_n 0, 1) := by decide +kernel
theorem dX0_lengthOf_8 : decode cX0_lengthOf 8 = .ok (.iload_n 1, 1) := by decide +kernel
theorem dX0_lengthOf_9 : decode cX0_lengthOf 9 = .ok (.iload_n 2, 1) := by decide +kernel
theorem dX0_lengthOf_10 : decode cX0_lengthOf 10 = .ok (.invokevirtual 45, 3) := by decide +kernel
theorem dX0_lengthOf_13 : decode cX0_lengthOf 13 = .ok (.bipush (-9), 2) := by decide +kernel
theorem dX0_lengthOf_15 : decode cX0_lengthOf 15 = .ok (.if_icmp .eq 9, 3) := by decide +kernel
theorem dX0_lengthOf_18 : decode cX0_lengthOf 18 = .ok (.iinc 2 1, 3) := by decide +kernel
theorem dX0_lengthOf_21 : decode cX0_lengthOf 21 = .ok (.goto (-19), 3) := by decide +kernel
theorem dX0_lengthOf_24 : decode cX0_lengthOf 24 = .ok (.iload_n 2, 1) := by decide +kernel
theorem dX0_lengthOf_25 : decode cX0_lengthOf 25 = .ok (.ireturn, 1) := by decide +kernel
theorem dX0_rankOf_0 : decode cX0_rankOf 0 = .ok (.aload_n 0, 1) := by decide +kernel
theorem dX0_rankOf_1 : decode cX0_rankOf 1 = .ok (.iload_n 1, 1) := by decide +kernel
theorem dX0_rankOf_2 : decode cX0_rankOf 2 = .ok (.invokevirtual 41, 3) := by decide +kernel
theorem dX0_rankOf_5 : decode cX0_rankOf 5 = .ok (.ifCond .ne 6, 3) := by decide +kernel
theorem dX0_rankOf_8 : decode cX0_rankOf 8 = .ok (.bipush (-9), 2) := by decide +kernel
theorem dX0_rankOf_10 : decode cX0_rankOf 10 = .ok (.ireturn, 1) := by decide +kernel
theorem dX0_rankOf_11 : decode cX0_rankOf 11 = .ok (.iconst 0, 1) := by decide +kernel
theorem dX0_rankOf_12 : decode cX0_rankOf 12 = .ok (.istore_n 2, 1) := by decide +kernel
theorem dX0_rankOf_13 : decode cX0_rankOf 13 = .ok (.iconst 0, 1) := by decide +kernel
theorem dX0_rankOf_14 : decode cX0_rankOf 14 = .ok (.istore_n 3, 1) := by decide +kernel
theorem dX0_rankOf_15 : decode cX0_rankOf 15 = .ok (.iload_n 3, 1) := by decide +kernel
theorem dX0_rankOf_16 : decode cX0_rankOf 16 = .ok (.aload_n 0, 1) := by decide +kernel
theorem dX0_rankOf_17 : decode cX0_rankOf 17 = .ok (.getfield 24, 3) := by decide +kernel
theorem dX0_rankOf_20 : decode cX0_rankOf 20 = .ok (.if_icmp .ge 27, 3) := by decide +kernel
theorem dX0_rankOf_23 : decode cX0_rankOf 23 = .ok (.aload_n 0, 1) := by decide +kernel
theorem dX0_rankOf_24 : decode cX0_rankOf 24 = .ok (.getfield 18, 3) := by decide +kernel
theorem dX0_rankOf_27 : decode cX0_rankOf 27 = .ok (.iload_n 3, 1) := by decide +kernel
theorem dX0_rankOf_28 : decode cX0_rankOf 28 = .ok (.iaload, 1) := by decide +kernel
theorem dX0_rankOf_29 : decode cX0_rankOf 29 = .ok (.aload_n 0, 1) := by decide +kernel
theorem dX0_rankOf_30 : decode cX0_rankOf 30 = .ok (.getfield 18, 3) := by decide +kernel
theorem dX0_rankOf_33 : decode cX0_rankOf 33 = .ok (.iload_n 1, 1) := by decide +kernel
theorem dX0_rankOf_34 : decode cX0_rankOf 34 = .ok (.iaload, 1) := by decide +kernel
theorem dX0_rankOf_35 : decode cX0_rankOf 35 = .ok (.if_icmp .ge 6, 3) := by decide +kernel
theorem dX0_rankOf_38 : decode cX0_rankOf 38 = .ok (.iinc 2 1, 3) := by decide +kernel
theorem dX0_rankOf_41 : decode cX0_rankOf 41 = .ok (.iinc 3 1, 3) := by decide +kernel
theorem dX0_rankOf_44 : decode cX0_rankOf 44 = .ok (.goto (-29), 3) := by decide +kernel
theorem dX0_rankOf_47 : decode cX0_rankOf 47 = .ok (.iload_n 2, 1) := by decide +kernel
theorem dX0_rankOf_48 : decode cX0_rankOf 48 = .ok (.ireturn, 1) := by decide +kernel
theorem dX0_firstFrom_0 : decode cX0_firstFrom 0 = .ok (.bipush (-9), 2) := by decide +kernel
theorem dX0_firstFrom_2 : decode cX0_firstFrom 2 = .ok (.istore_n 2, 1) := by decide +kernel
theorem dX0_firstFrom_3 : decode cX0_firstFrom 3 = .ok (.iconst 0, 1) := by decide +kernel
theorem dX0_firstFrom_4 : decode cX0_firstFrom 4 = .ok (.istore_n 3, 1) := by decide +kernel
theorem dX0_firstFrom_5 : decode cX0_firstFrom 5 = .ok (.iload_n 3, 1) := by decide +kernel
theorem dX0_firstFrom_6 : decode cX0_firstFrom 6 = .ok (.aload_n 0, 1) := by decide +kernel
theorem dX0_firstFrom_7 : decode cX0_firstFrom 7 = .ok (.getfield 24, 3) := by decide +kernel
theorem dX0_firstFrom_10 : decode cX0_firstFrom 10 = .ok (.if_icmp .ge 54, 3) := by decide +kernel
theorem dX0_firstFrom_13 : decode cX0_firstFrom 13 = .ok (.aload_n 0, 1) := by decide +kernel
theorem dX0_firstFrom_14 : decode cX0_firstFrom 14 = .ok (.iload_n 3, 1) := by decide +kernel
theorem dX0_firstFrom_15 : decode cX0_firstFrom 15 = .ok (.iconst 0, 1) := by decide +kernel
theorem dX0_firstFrom_16 : decode cX0_firstFrom 16 = .ok (.invokevirtual 45, 3) := by decide +kernel
theorem dX0_firstFrom_19 : decode cX0_firstFrom 19 = .ok (.iload_n 1, 1) := by decide +kernel
theorem dX0_firstFrom_20 : decode cX0_firstFrom 20 = .ok (.if_icmp .lt 7, 3) := by decide +kernel
theorem dX0_firstFrom_23 : decode cX0_firstFrom 23 = .ok (.iconst 1, 1) := by decide +kernel
theorem dX0_firstFrom_24 : decode cX0_firstFrom 24 = .ok (.goto 4, 3) := by decide +kernel
theorem dX0_firstFrom_27 : decode cX0_firstFrom 27 = .ok (.iconst 0, 1) := by decide +kernel
theorem dX0_firstFrom_28 : decode cX0_firstFrom 28 = .ok (.istore 4, 2) := by decide +kernel
theorem dX0_firstFrom_30 : decode cX0_firstFrom 30 = .ok (.iload 4, 2) := by decide +kernel
theorem dX0_firstFrom_32 : decode cX0_firstFrom 32 = .ok (.ifCond .eq 26, 3) := by decide +kernel
theorem dX0_firstFrom_35 : decode cX0_firstFrom 35 = .ok (.iload_n 2, 1) := by decide +kernel
theorem dX0_firstFrom_36 : decode cX0_firstFrom 36 = .ok (.bipush (-9), 2) := by decide +kernel
theorem dX0_firstFrom_38 : decode cX0_firstFrom 38 = .ok (.if_icmp .eq 18, 3) := by decide +kernel
theorem dX0_firstFrom_41 : decode cX0_firstFrom 41 = .ok (.aload_n 0, 1) := by decide +kernel
theorem dX0_firstFrom_42 : decode cX0_firstFrom 42 = .ok (.getfield 18, 3) := by decide +kernel
theorem dX0_firstFrom_45 : decode cX0_firstFrom 45 = .ok (.iload_n 3, 1) := by decide +kernel
theorem dX0_firstFrom_46 : decode cX0_firstFrom 46 = .ok (.iaload, 1) := by decide +kernel
theorem dX0_firstFrom_47 : decode cX0_firstFrom 47 = .ok (.aload_n 0, 1) := by decide +kernel
theorem dX0_firstFrom_48 : decode cX0_firstFrom 48 = .ok (.getfield 18, 3) := by decide +kernel
theorem dX0_firstFrom_51 : decode cX0_firstFrom 51 = .ok (.iload_n 2, 1) := by decide +kernel
theorem dX0_firstFrom_52 : decode cX0_firstFrom 52 = .ok (.iaload, 1) := by decide +kernel
theorem dX0_firstFrom_53 : decode cX0_firstFrom 53 = .ok (.if_icmp .ge 5, 3) := by decide +kernel
theorem dX0_firstFrom_56 : decode cX0_firstFrom 56 = .ok (.iload_n 3, 1) := by decide +kernel
theorem dX0_firstFrom_57 : decode cX0_firstFrom 57 = .ok (.istore_n 2, 1) := by decide +kernel
theorem dX0_firstFrom_58 : decode cX0_firstFrom 58 = .ok (.iinc 3 1, 3) := by decide +kernel
theorem dX0_firstFrom_61 : decode cX0_firstFrom 61 = .ok (.goto (-56), 3) := by decide +kernel
theorem dX0_firstFrom_64 : decode cX0_firstFrom 64 = .ok (.iload_n 2, 1) := by decide +kernel
theorem dX0_firstFrom_65 : decode cX0_firstFrom 65 = .ok (.ireturn, 1) := by decide +kernel
theorem dX0_mayBe_0 : decode cX0_mayBe 0 = .ok (.iconst 0, 1) := by decide +kernel
theorem dX0_mayBe_1 : decode cX0_mayBe 1 = .ok (.istore 4, 2) := by decide +kernel
theorem dX0_mayBe_3 : decode cX0_mayBe 3 = .ok (.iload 4, 2) := by decide +kernel
theorem dX0_mayBe_5 : decode cX0_mayBe 5 = .ok (.iconst 4, 1) := by decide +kernel
theorem dX0_mayBe_6 : decode cX0_mayBe 6 = .ok (.if_icmp .ge 33, 3) := by decide +kernel
theorem dX0_mayBe_9 : decode cX0_mayBe 9 = .ok (.aload_n 0, 1) := by decide +kernel
theorem dX0_mayBe_10 : decode cX0_mayBe 10 = .ok (.aload_n 0, 1) := by decide +kernel
theorem dX0_mayBe_11 : decode cX0_mayBe 11 = .ok (.iload_n 1, 1) := by decide +kernel
theorem dX0_mayBe_12 : decode cX0_mayBe 12 = .ok (.iload 4, 2) := by decide +kernel
theorem dX0_mayBe_14 : decode cX0_mayBe 14 = .ok (.invokevirtual 45, 3) := by decide +kernel
theorem dX0_mayBe_17 : decode cX0_mayBe 17 = .ok (.aload_n 0, 1) := by decide +kernel
theorem dX0_mayBe_18 : decode cX0_mayBe 18 = .ok (.iload_n 2, 1) := by decide +kernel
theorem dX0_mayBe_19 : decode cX0_mayBe 19 = .ok (.iload 4, 2) := by decide +kernel
theorem dX0_mayBe_21 : decode cX0_mayBe 21 = .ok (.invokevirtual 45, 3) := by decide +kernel
theorem dX0_mayBe_24 : decode cX0_mayBe 24 = .ok (.iload_n 3, 1) := by decide +kernel
theorem dX0_mayBe_25 : decode cX0_mayBe 25 = .ok (.invokevirtual 49, 3) := by decide +kernel
theorem dX0_mayBe_28 : decode cX0_mayBe 28 = .ok (.ifCond .ne 5, 3) := by decide +kernel
theorem dX0_mayBe_31 : decode cX0_mayBe 31 = .ok (.iconst 0, 1) := by decide +kernel
theorem dX0_mayBe_32 : decode cX0_mayBe 32 = .ok (.ireturn, 1) := by decide +kernel
theorem dX0_mayBe_33 : decode cX0_mayBe 33 = .ok (.iinc 4 1, 3) := by decide +kernel
theorem dX0_mayBe_36 : decode cX0_mayBe 36 = .ok (.goto (-33), 3) := by decide +kernel
theorem dX0_mayBe_39 : decode cX0_mayBe 39 = .ok (.iconst 1, 1) := by decide +kernel
theorem dX0_mayBe_40 : decode cX0_mayBe 40 = .ok (.ireturn, 1) := by decide +kernel
theorem dX0_flagMayBe_0 : decode cX0_flagMayBe 0 = .ok (.iload_n 1, 1) := by decide +kernel
theorem dX0_flagMayBe_1 : decode cX0_flagMayBe 1 = .ok (.iload_n 2, 1) := by decide +kernel
theorem dX0_flagMayBe_2 : decode cX0_flagMayBe 2 = .ok (.if_icmp .ne 5, 3) := by decide +kernel
theorem dX0_flagMayBe_5 : decode cX0_flagMayBe 5 = .ok (.iconst 1, 1) := by decide +kernel
theorem dX0_flagMayBe_6 : decode cX0_flagMayBe 6 = .ok (.ireturn, 1) := by decide +kernel
theorem dX0_flagMayBe_7 : decode cX0_flagMayBe 7 = .ok (.aload_n 0, 1) := by decide +kernel
theorem dX0_flagMayBe_8 : decode cX0_flagMayBe 8 = .ok (.iload_n 1, 1) := by decide +kernel
theorem dX0_flagMayBe_9 : decode cX0_flagMayBe 9 = .ok (.iload_n 3, 1) := by decide +kernel
theorem dX0_flagMayBe_10 : decode cX0_flagMayBe 10 = .ok (.invokevirtual 53, 3) := by decide +kernel
theorem dX0_flagMayBe_13 : decode cX0_flagMayBe 13 = .ok (.ifCond .eq 31, 3) := by decide +kernel
theorem dX0_flagMayBe_16 : decode cX0_flagMayBe 16 = .ok (.aload_n 0, 1) := by decide +kernel
theorem dX0_flagMayBe_17 : decode cX0_flagMayBe 17 = .ok (.iload_n 2, 1) := by decide +kernel
theorem dX0_flagMayBe_18 : decode cX0_flagMayBe 18 = .ok (.iload_n 3, 1) := by decide +kernel
theorem dX0_flagMayBe_19 : decode cX0_flagMayBe 19 = .ok (.invokevirtual 53, 3) := by decide +kernel
theorem dX0_flagMayBe_22 : decode cX0_flagMayBe 22 = .ok (.ifCond .eq 22, 3) := by decide +kernel
theorem dX0_flagMayBe_25 : decode cX0_flagMayBe 25 = .ok (.aload_n 0, 1) := by decide +kernel
theorem dX0_flagMayBe_26 : decode cX0_flagMayBe 26 = .ok (.getfield 9, 3) := by decide +kernel
theorem dX0_flagMayBe_29 : decode cX0_flagMayBe 29 = .ok (.iload_n 1, 1) := by decide +kernel
theorem dX0_flagMayBe_30 : decode cX0_flagMayBe 30 = .ok (.iaload, 1) := by decide +kernel
theorem dX0_flagMayBe_31 : decode cX0_flagMayBe 31 = .ok (.aload_n 0, 1) := by decide +kernel
theorem dX0_flagMayBe_32 : decode cX0_flagMayBe 32 = .ok (.getfield 9, 3) := by decide +kernel
theorem dX0_flagMayBe_35 : decode cX0_flagMayBe 35 = .ok (.iload_n 2, 1) := by decide +kernel
theorem dX0_flagMayBe_36 : decode cX0_flagMayBe 36 = .ok (.iaload, 1) := by decide +kernel
theorem dX0_flagMayBe_37 : decode cX0_flagMayBe 37 = .ok (.if_icmp .ne 7, 3) := by decide +kernel
theorem dX0_flagMayBe_40 : decode cX0_flagMayBe 40 = .ok (.iconst 1, 1) := by decide +kernel
theorem dX0_flagMayBe_41 : decode cX0_flagMayBe 41 = .ok (.goto 4, 3) := by decide +kernel
theorem dX0_flagMayBe_44 : decode cX0_flagMayBe 44 = .ok (.iconst 0, 1) := by decide +kernel
theorem dX0_flagMayBe_45 : decode cX0_flagMayBe 45 = .ok (.ireturn, 1) := by decide +kernel
theorem dX0_isBlurred_0 : decode cX0_isBlurred 0 = .ok (.iload_n 1, 1) := by decide +kernel
theorem dX0_isBlurred_1 : decode cX0_isBlurred 1 = .ok (.ifCond .lt 23, 3) := by decide +kernel
theorem dX0_isBlurred_4 : decode cX0_isBlurred 4 = .ok (.iload_n 1, 1) := by decide +kernel
theorem dX0_isBlurred_5 : decode cX0_isBlurred 5 = .ok (.bipush 8, 2) := by decide +kernel
theorem dX0_isBlurred_7 : decode cX0_isBlurred 7 = .ok (.if_icmp .ge 17, 3) := by decide +kernel
theorem dX0_isBlurred_10 : decode cX0_isBlurred 10 = .ok (.aload_n 0, 1) := by decide +kernel
theorem dX0_isBlurred_11 : decode cX0_isBlurred 11 = .ok (.getfield 15, 3) := by decide +kernel
theorem dX0_isBlurred_14 : decode cX0_isBlurred 14 = .ok (.iload_n 1, 1) := by decide +kernel
theorem dX0_isBlurred_15 : decode cX0_isBlurred 15 = .ok (.iaload, 1) := by decide +kernel
theorem dX0_isBlurred_16 : decode cX0_isBlurred 16 = .ok (.iload_n 2, 1) := by decide +kernel
theorem dX0_isBlurred_17 : decode cX0_isBlurred 17 = .ok (.if_icmp .ge 7, 3) := by decide +kernel
theorem dX0_isBlurred_20 : decode cX0_isBlurred 20 = .ok (.iconst 1, 1) := by decide +kernel
theorem dX0_isBlurred_21 : decode cX0_isBlurred 21 = .ok (.goto 4, 3) := by decide +kernel
theorem dX0_isBlurred_24 : decode cX0_isBlurred 24 = .ok (.iconst 0, 1) := by decide +kernel
theorem dX0_isBlurred_25 : decode cX0_isBlurred 25 = .ok (.ireturn, 1) := by decide +kernel
theorem dX0_likenesses_0 : decode cX0_likenesses 0 = .ok (.iconst 0, 1) := by decide +kernel
theorem dX0_likenesses_1 : decode cX0_likenesses 1 = .ok (.istore_n 3, 1) := by decide +kernel
theorem dX0_likenesses_2 : decode cX0_likenesses 2 = .ok (.iconst 0, 1) := by decide +kernel
theorem dX0_likenesses_3 : decode cX0_likenesses 3 = .ok (.istore 4, 2) := by decide +kernel
theorem dX0_likenesses_5 : decode cX0_likenesses 5 = .ok (.iload 4, 2) := by decide +kernel
theorem dX0_likenesses_7 : decode cX0_likenesses 7 = .ok (.aload_n 0, 1) := by decide +kernel
theorem dX0_likenesses_8 : decode cX0_likenesses 8 = .ok (.getfield 24, 3) := by decide +kernel
theorem dX0_likenesses_11 : decode cX0_likenesses 11 = .ok (.if_icmp .ge 23, 3) := by decide +kernel
theorem dX0_likenesses_14 : decode cX0_likenesses 14 = .ok (.aload_n 0, 1) := by decide +kernel
theorem dX0_likenesses_15 : decode cX0_likenesses 15 = .ok (.iload_n 1, 1) := by decide +kernel
theorem dX0_likenesses_16 : decode cX0_likenesses 16 = .ok (.iload 4, 2) := by decide +kernel
theorem dX0_likenesses_18 : decode cX0_likenesses 18 = .ok (.iload_n 2, 1) := by decide +kernel
theorem dX0_likenesses_19 : decode cX0_likenesses 19 = .ok (.invokevirtual 57, 3) := by decide +kernel
theorem dX0_likenesses_22 : decode cX0_likenesses 22 = .ok (.ifCond .eq 6, 3) := by decide +kernel
theorem dX0_likenesses_25 : decode cX0_likenesses 25 = .ok (.iinc 3 1, 3) := by decide +kernel
theorem dX0_likenesses_28 : decode cX0_likenesses 28 = .ok (.iinc 4 1, 3) := by decide +kernel
theorem dX0_likenesses_31 : decode cX0_likenesses 31 = .ok (.goto (-26), 3) := by decide +kernel
theorem dX0_likenesses_34 : decode cX0_likenesses 34 = .ok (.iload_n 3, 1) := by decide +kernel
theorem dX0_likenesses_35 : decode cX0_likenesses 35 = .ok (.ireturn, 1) := by decide +kernel
theorem dX1_init_0 : decode cX1_init 0 = .ok (.aload_n 0, 1) := by decide +kernel
theorem dX1_init_1 : decode cX1_init 1 = .ok (.invokespecial 3, 3) := by decide +kernel
theorem dX1_init_4 : decode cX1_init 4 = .ok (.aload_n 0, 1) := by decide +kernel
theorem dX1_init_5 : decode cX1_init 5 = .ok (.bipush 9, 2) := by decide +kernel
theorem dX1_init_7 : decode cX1_init 7 = .ok (.newarray .int, 2) := by decide +kernel
theorem dX1_init_9 : decode cX1_init 9 = .ok (.putfield 9, 3) := by decide +kernel
theorem dX1_init_12 : decode cX1_init 12 = .ok (.aload_n 0, 1) := by decide +kernel
theorem dX1_init_13 : decode cX1_init 13 = .ok (.new 15, 3) := by decide +kernel
theorem dX1_init_16 : decode cX1_init 16 = .ok (.dup, 1) := by decide +kernel
theorem dX1_init_17 : decode cX1_init 17 = .ok (.invokespecial 17, 3) := by decide +kernel
theorem dX1_init_20 : decode cX1_init 20 = .ok (.putfield 18, 3) := by decide +kernel
theorem dX1_init_23 : decode cX1_init 23 = .ok (.aload_n 0, 1) := by decide +kernel
theorem dX1_init_24 : decode cX1_init 24 = .ok (.bipush 8, 2) := by decide +kernel
theorem dX1_init_26 : decode cX1_init 26 = .ok (.newarray .int, 2) := by decide +kernel
theorem dX1_init_28 : decode cX1_init 28 = .ok (.putfield 22, 3) := by decide +kernel
theorem dX1_init_31 : decode cX1_init 31 = .ok (.aload_n 0, 1) := by decide +kernel
theorem dX1_init_32 : decode cX1_init 32 = .ok (.bipush 9, 2) := by decide +kernel
theorem dX1_init_34 : decode cX1_init 34 = .ok (.newarray .int, 2) := by decide +kernel
theorem dX1_init_36 : decode cX1_init 36 = .ok (.putfield 25, 3) := by decide +kernel
theorem dX1_init_39 : decode cX1_init 39 = .ok (.aload_n 0, 1) := by decide +kernel
theorem dX1_init_40 : decode cX1_init 40 = .ok (.bipush 9, 2) := by decide +kernel
theorem dX1_init_42 : decode cX1_init 42 = .ok (.newarray .int, 2) := by decide +kernel
theorem dX1_init_44 : decode cX1_init 44 = .ok (.putfield 28, 3) := by decide +kernel
theorem dX1_init_47 : decode cX1_init 47 = .ok (.aload_n 0, 1) := by decide +kernel
theorem dX1_init_48 : decode cX1_init 48 = .ok (.aload_n 1, 1) := by decide +kernel
theorem dX1_init_49 : decode cX1_init 49 = .ok (.putfield 31, 3) := by decide +kernel
theorem dX1_init_52 : decode cX1_init 52 = .ok (.return_, 1) := by decide +kernel
theorem dX1_make_0 : decode cX1_make 0 = .ok (.aload_n 0, 1) := by decide +kernel
theorem dX1_make_1 : decode cX1_make 1 = .ok (.aload_n 1, 1) := by decide +kernel
theorem dX1_make_2 : decode cX1_make 2 = .ok (.getfield 35, 3) := by decide +kernel
theorem dX1_make_5 : decode cX1_make 5 = .ok (.putfield 41, 3) := by decide +kernel
theorem dX1_make_8 : decode cX1_make 8 = .ok (.aload_n 0, 1) := by decide +kernel
theorem dX1_make_9 : decode cX1_make 9 = .ok (.iconst 0, 1) := by decide +kernel
theorem dX1_make_10 : decode cX1_make 10 = .ok (.putfield 42, 3) := by decide +kernel
theorem dX1_make_13 : decode cX1_make 13 = .ok (.iconst 0, 1) := by decide +kernel
theorem dX1_make_14 : decode cX1_make 14 = .ok (.istore_n 3, 1) := by decide +kernel
theorem dX1_make_15 : decode cX1_make 15 = .ok (.iload_n 3, 1) := by decide +kernel
theorem dX1_make_16 : decode cX1_make 16 = .ok (.aload_n 1, 1) := by decide +kernel
theorem dX1_make_17 : decode cX1_make 17 = .ok (.getfield 45, 3) := by decide +kernel
theorem dX1_make_20 : decode cX1_make 20 = .ok (.if_icmp .ge 39, 3) := by decide +kernel
theorem dX1_make_23 : decode cX1_make 23 = .ok (.iload_n 3, 1) := by decide +kernel
theorem dX1_make_24 : decode cX1_make 24 = .ok (.iload_n 2, 1) := by decide +kernel
theorem dX1_make_25 : decode cX1_make 25 = .ok (.if_icmp .eq 28, 3) := by decide +kernel
theorem dX1_make_28 : decode cX1_make 28 = .ok (.aload_n 0, 1) := by decide +kernel
theorem dX1_make_29 : decode cX1_make 29 = .ok (.getfield 22, 3) := by decide +kernel
theorem dX1_make_32 : decode cX1_make 32 = .ok (.aload_n 0, 1) := by decide +kernel
theorem dX1_make_33 : decode cX1_make 33 = .ok (.getfield 42, 3) := by decide +kernel
theorem dX1_make_36 : decode cX1_make 36 = .ok (.aload_n 1, 1) := by decide +kernel
theorem dX1_make_37 : decode cX1_make 37 = .ok (.getfield 46, 3) := by decide +kernel
theorem dX1_make_40 : decode cX1_make 40 = .ok (.iload_n 3, 1) := by decide +kernel
theorem dX1_make_41 : decode cX1_make 41 = .ok (.iaload, 1) := by decide +kernel
theorem dX1_make_42 : decode cX1_make 42 = .ok (.iastore, 1) := by decide +kernel
theorem dX1_make_43 : decode cX1_make 43 = .ok (.aload_n 0, 1) := by decide +kernel
theorem dX1_make_44 : decode cX1_make 44 = .ok (.dup, 1) := by decide +kernel
theorem dX1_make_45 : decode cX1_make 45 = .ok (.getfield 42, 3) := by decide +kernel
theorem dX1_make_48 : decode cX1_make 48 = .ok (.iconst 1, 1) := by decide +kernel
theorem dX1_make_49 : decode cX1_make 49 = .ok (.iadd, 1) := by decide +kernel
theorem dX1_make_50 : decode cX1_make 50 = .ok (.putfield 42, 3) := by decide +kernel
theorem dX1_make_53 : decode cX1_make 53 = .ok (.iinc 3 1, 3) := by decide +kernel
theorem dX1_make_56 : decode cX1_make 56 = .ok (.goto (-41), 3) := by decide +kernel
theorem dX1_make_59 : decode cX1_make 59 = .ok (.aload_n 0, 1) := by decide +kernel
theorem dX1_make_60 : decode cX1_make 60 = .ok (.getfield 25, 3) := by decide +kernel
theorem dX1_make_63 : decode cX1_make 63 = .ok (.aload_n 0, 1) := by decide +kernel
theorem dX1_make_64 : decode cX1_make 64 = .ok (.getfield 42, 3) := by decide +kernel
theorem dX1_make_67 : decode cX1_make 67 = .ok (.iconst 0, 1) := by decide +kernel
theorem dX1_make_68 : decode cX1_make 68 = .ok (.iastore, 1) := by decide +kernel
theorem dX1_make_69 : decode cX1_make 69 = .ok (.aload_n 0, 1) := by decide +kernel
theorem dX1_make_70 : decode cX1_make 70 = .ok (.iconst 1, 1) := by decide +kernel
theorem dX1_make_71 : decode cX1_make 71 = .ok (.putfield 49, 3) := by decide +kernel
theorem dX1_make_74 : decode cX1_make 74 = .ok (.aload_n 0, 1) := by decide +kernel
theorem dX1_make_75 : decode cX1_make 75 = .ok (.getfield 42, 3) := by decide +kernel
theorem dX1_make_78 : decode cX1_make 78 = .ok (.iconst 1, 1) := by decide +kernel
theorem dX1_make_79 : decode cX1_make 79 = .ok (.isub, 1) := by decide +kernel
theorem dX1_make_80 : decode cX1_make 80 = .ok (.istore_n 3, 1) := by decide +kernel
theorem dX1_make_81 : decode cX1_make 81 = .ok (.iload_n 3, 1) := by decide +kernel
theorem dX1_make_82 : decode cX1_make 82 = .ok (.ifCond .lt 25, 3) := by decide +kernel
theorem dX1_make_85 : decode cX1_make 85 = .ok (.aload_n 0, 1) := by decide +kernel
theorem dX1_make_86 : decode cX1_make 86 = .ok (.getfield 49, 3) := by decide +kernel
theorem dX1_make_89 : decode cX1_make 89 = .ok (.ifCond .eq 18, 3) := by decide +kernel
theorem dX1_make_92 : decode cX1_make 92 = .ok (.aload_n 0, 1) := by decide +kernel
theorem dX1_make_93 : decode cX1_make 93 = .ok (.aload_n 0, 1) := by decide +kernel
theorem dX1_make_94 : decode cX1_make 94 = .ok (.iload_n 3, 1) := by decide +kernel
theorem dX1_make_95 : decode cX1_make 95 = .ok (.invokevirtual 53, 3) := by decide +kernel
theorem dX1_make_98 : decode cX1_make 98 = .ok (.putfield 49, 3) := by decide +kernel
theorem dX1_make_101 : decode cX1_make 101 = .ok (.iinc 3 (-1), 3) := by decide +kernel
theorem dX1_make_104 : decode cX1_make 104 = .ok (.goto (-23), 3) := by decide +kernel
theorem dX1_make_107 : decode cX1_make 107 = .ok (.aload_n 0, 1) := by decide +kernel
theorem dX1_make_108 : decode cX1_make 108 = .ok (.iconst 0, 1) := by decide +kernel
theorem dX1_make_109 : decode cX1_make 109 = .ok (.putfield 57, 3) := by decide +kernel
theorem dX1_make_112 : decode cX1_make 112 = .ok (.aload_n 0, 1) := by decide +kernel
theorem dX1_make_113 : decode cX1_make 113 = .ok (.getfield 9, 3) := by decide +kernel
theorem dX1_make_116 : decode cX1_make 116 = .ok (.iconst 0, 1) := by decide +kernel
theorem dX1_make_117 : decode cX1_make 117 = .ok (.iconst 0, 1) := by decide +kernel
theorem dX1_make_118 : decode cX1_make 118 = .ok (.iastore, 1) := by decide +kernel
theorem dX1_make_119 : decode cX1_make 119 = .ok (.aload_n 0, 1) := by decide +kernel
theorem dX1_make_120 : decode cX1_make 120 = .ok (.getfield 49, 3) := by decide +kernel
theorem dX1_make_123 : decode cX1_make 123 = .ok (.ifCond .eq 66, 3) := by decide +kernel
theorem dX1_make_126 : decode cX1_make 126 = .ok (.aload_n 0, 1) := by decide +kernel
theorem dX1_make_127 : decode cX1_make 127 = .ok (.getfield 57, 3) := by decide +kernel
theorem dX1_make_130 : decode cX1_make 130 = .ok (.bipush 8, 2) := by decide +kernel
theorem dX1_make_132 : decode cX1_make 132 = .ok (.if_icmp .ge 57, 3) := by decide +kernel
theorem dX1_make_135 : decode cX1_make 135 = .ok (.aload_n 0, 1) := by decide +kernel
theorem dX1_make_136 : decode cX1_make 136 = .ok (.getfield 9, 3) := by decide +kernel
theorem dX1_make_139 : decode cX1_make 139 = .ok (.aload_n 0, 1) := by decide +kernel
theorem dX1_make_140 : decode cX1_make 140 = .ok (.getfield 57, 3) := by decide +kernel
theorem dX1_make_143 : decode cX1_make 143 = .ok (.iaload, 1) := by decide +kernel
theorem dX1_make_144 : decode cX1_make 144 = .ok (.aload_n 0, 1) := by decide +kernel
theorem dX1_make_145 : decode cX1_make 145 = .ok (.getfield 42, 3) := by decide +kernel
theorem dX1_make_148 : decode cX1_make 148 = .ok (.if_icmp .ge 41, 3) := by decide +kernel
theorem dX1_make_151 : decode cX1_make 151 = .ok (.aload_n 0, 1) := by decide +kernel
theorem dX1_make_152 : decode cX1_make 152 = .ok (.getfield 9, 3) := by decide +kernel
theorem dX1_make_155 : decode cX1_make 155 = .ok (.aload_n 0, 1) := by decide +kernel
theorem dX1_make_156 : decode cX1_make 156 = .ok (.getfield 57, 3) := by decide +kernel
theorem dX1_make_159 : decode cX1_make 159 = .ok (.iconst 1, 1) := by decide +kernel
theorem dX1_make_160 : decode cX1_make 160 = .ok (.iadd, 1) := by decide +kernel
theorem dX1_make_161 : decode cX1_make 161 = .ok (.aload_n 0, 1) := by decide +kernel
theorem dX1_make_162 : decode cX1_make 162 = .ok (.getfield 28, 3) := by decide +kernel
theorem dX1_make_165 : decode cX1_make 165 = .ok (.aload_n 0, 1) := by decide +kernel
theorem dX1_make_166 : decode cX1_make 166 = .ok (.getfield 9, 3) := by decide +kernel
theorem dX1_make_169 : decode cX1_make 169 = .ok (.aload_n 0, 1) := by decide +kernel
theorem dX1_make_170 : decode cX1_make 170 = .ok (.getfield 57, 3) := by decide +kernel
theorem dX1_make_173 : decode cX1_make 173 = .ok (.iaload, 1) := by decide +kernel
theorem dX1_make_174 : decode cX1_make 174 = .ok (.iaload, 1) := by decide +kernel
theorem dX1_make_175 : decode cX1_make 175 = .ok (.iastore, 1) := by decide +kernel
theorem dX1_make_176 : decode cX1_make 176 = .ok (.aload_n 0, 1) := by decide +kernel
theorem dX1_make_177 : decode cX1_make 177 = .ok (.dup, 1) := by decide +kernel
theorem dX1_make_178 : decode cX1_make 178 = .ok (.getfield 57, 3) := by decide +kernel
theorem dX1_make_181 : decode cX1_make 181 = .ok (.iconst 1, 1) := by decide +kernel
theorem dX1_make_182 : decode cX1_make 182 = .ok (.iadd, 1) := by decide +kernel
theorem dX1_make_183 : decode cX1_make 183 = .ok (.putfield 57, 3) := by decide +kernel
theorem dX1_make_186 : decode cX1_make 186 = .ok (.goto (-67), 3) := by decide +kernel
theorem dX1_make_189 : decode cX1_make 189 = .ok (.return_, 1) := by decide +kernel
theorem dX1_findFewest_0 : decode cX1_findFewest 0 = .ok (.iconst 0, 1) := by decide +kernel
theorem dX1_findFewest_1 : decode cX1_findFewest 1 = .ok (.istore_n 2, 1) := by decide +kernel
theorem dX1_findFewest_2 : decode cX1_findFewest 2 = .ok (.aload_n 0, 1) := by decide +kernel
theorem dX1_findFewest_3 : decode cX1_findFewest 3 = .ok (.getfield 18, 3) := by decide +kernel
theorem dX1_findFewest_6 : decode cX1_findFewest 6 = .ok (.aload_n 0, 1) := by decide +kernel
theorem dX1_findFewest_7 : decode cX1_findFewest 7 = .ok (.getfield 41, 3) := by decide +kernel
theorem dX1_findFewest_10 : decode cX1_findFewest 10 = .ok (.invokevirtual 60, 3) := by decide +kernel
theorem dX1_findFewest_13 : decode cX1_findFewest 13 = .ok (.iload_n 1, 1) := by decide +kernel
theorem dX1_findFewest_14 : decode cX1_findFewest 14 = .ok (.iconst 1, 1) := by decide +kernel
theorem dX1_findFewest_15 : decode cX1_findFewest 15 = .ok (.iadd, 1) := by decide +kernel
theorem dX1_findFewest_16 : decode cX1_findFewest 16 = .ok (.istore_n 3, 1) := by decide +kernel
theorem dX1_findFewest_17 : decode cX1_findFewest 17 = .ok (.iload_n 3, 1) := by decide +kernel
theorem dX1_findFewest_18 : decode cX1_findFewest 18 = .ok (.aload_n 0, 1) := by decide +kernel
theorem dX1_findFewest_19 : decode cX1_findFewest 19 = .ok (.getfield 42, 3) := by decide +kernel
theorem dX1_findFewest_22 : decode cX1_findFewest 22 = .ok (.if_icmp .gt 73, 3) := by decide +kernel
theorem dX1_findFewest_25 : decode cX1_findFewest 25 = .ok (.aload_n 0, 1) := by decide +kernel
theorem dX1_findFewest_26 : decode cX1_findFewest 26 = .ok (.getfield 18, 3) := by decide +kernel
theorem dX1_findFewest_29 : decode cX1_findFewest 29 = .ok (.aload_n 0, 1) := by decide +kernel
theorem dX1_findFewest_30 : decode cX1_findFewest 30 = .ok (.getfield 31, 3) := by decide +kernel
theorem dX1_findFewest_33 : decode cX1_findFewest 33 = .ok (.aload_n 0, 1) := by decide +kernel
theorem dX1_findFewest_34 : decode cX1_findFewest 34 = .ok (.getfield 22, 3) := by decide +kernel
theorem dX1_findFewest_37 : decode cX1_findFewest 37 = .ok (.iload_n 3, 1) := by decide +kernel
theorem dX1_findFewest_38 : decode cX1_findFewest 38 = .ok (.iconst 1, 1) := by decide +kernel
theorem dX1_findFewest_39 : decode cX1_findFewest 39 = .ok (.isub, 1) := by decide +kernel
theorem dX1_findFewest_40 : decode cX1_findFewest 40 = .ok (.iaload, 1) := by decide +kernel
theorem dX1_findFewest_41 : decode cX1_findFewest 41 = .ok (.invokevirtual 64, 3) := by decide +kernel
theorem dX1_findFewest_44 : decode cX1_findFewest 44 = .ok (.ifCond .eq 51, 3) := by decide +kernel
theorem dX1_findFewest_47 : decode cX1_findFewest 47 = .ok (.aload_n 0, 1) := by decide +kernel
theorem dX1_findFewest_48 : decode cX1_findFewest 48 = .ok (.getfield 25, 3) := by decide +kernel
theorem dX1_findFewest_51 : decode cX1_findFewest 51 = .ok (.iload_n 3, 1) := by decide +kernel
theorem dX1_findFewest_52 : decode cX1_findFewest 52 = .ok (.iaload, 1) := by decide +kernel
theorem dX1_findFewest_53 : decode cX1_findFewest 53 = .ok (.iconst 1, 1) := by decide +kernel
theorem dX1_findFewest_54 : decode cX1_findFewest 54 = .ok (.iadd, 1) := by decide +kernel
theorem dX1_findFewest_55 : decode cX1_findFewest 55 = .ok (.istore 4, 2) := by decide +kernel
theorem dX1_findFewest_57 : decode cX1_findFewest 57 = .ok (.iload_n 2, 1) := by decide +kernel
theorem dX1_findFewest_58 : decode cX1_findFewest 58 = .ok (.ifCond .eq 14, 3) := by decide +kernel
theorem dX1_findFewest_61 : decode cX1_findFewest 61 = .ok (.iload 4, 2) := by decide +kernel
theorem dX1_findFewest_63 : decode cX1_findFewest 63 = .ok (.aload_n 0, 1) := by decide +kernel
theorem dX1_findFewest_64 : decode cX1_findFewest 64 = .ok (.getfield 25, 3) := by decide +kernel
theorem dX1_findFewest_67 : decode cX1_findFewest 67 = .ok (.iload_n 1, 1) := by decide +kernel
theorem dX1_findFewest_68 : decode cX1_findFewest 68 = .ok (.iaload, 1) := by decide +kernel
theorem dX1_findFewest_69 : decode cX1_findFewest 69 = .ok (.if_icmp .gt 20, 3) := by decide +kernel
theorem dX1_findFewest_72 : decode cX1_findFewest 72 = .ok (.aload_n 0, 1) := by decide +kernel
theorem dX1_findFewest_73 : decode cX1_findFewest 73 = .ok (.getfield 25, 3) := by decide +kernel
theorem dX1_findFewest_76 : decode cX1_findFewest 76 = .ok (.iload_n 1, 1) := by decide +kernel
theorem dX1_findFewest_77 : decode cX1_findFewest 77 = .ok (.iload 4, 2) := by decide +kernel
theorem dX1_findFewest_79 : decode cX1_findFewest 79 = .ok (.iastore, 1) := by decide +kernel
theorem dX1_findFewest_80 : decode cX1_findFewest 80 = .ok (.aload_n 0, 1) := by decide +kernel
theorem dX1_findFewest_81 : decode cX1_findFewest 81 = .ok (.getfield 28, 3) := by decide +kernel
theorem dX1_findFewest_84 : decode cX1_findFewest 84 = .ok (.iload_n 1, 1) := by decide +kernel
theorem dX1_findFewest_85 : decode cX1_findFewest 85 = .ok (.iload_n 3, 1) := by decide +kernel
theorem dX1_findFewest_86 : decode cX1_findFewest 86 = .ok (.iastore, 1) := by decide +kernel
theorem dX1_findFewest_87 : decode cX1_findFewest 87 = .ok (.iconst 1, 1) := by decide +kernel
theorem dX1_findFewest_88 : decode cX1_findFewest 88 = .ok (.istore_n 2, 1) := by decide +kernel
theorem dX1_findFewest_89 : decode cX1_findFewest 89 = .ok (.iinc 3 1, 3) := by decide +kernel
theorem dX1_findFewest_92 : decode cX1_findFewest 92 = .ok (.goto (-75), 3) := by decide +kernel
theorem dX1_findFewest_95 : decode cX1_findFewest 95 = .ok (.iload_n 2, 1) := by decide +kernel
theorem dX1_findFewest_96 : decode cX1_findFewest 96 = .ok (.ireturn, 1) := by decide +kernel
theorem dX1_has_0 : decode cX1_has 0 = .ok (.aload_n 0, 1) := by decide +kernel
theorem dX1_has_1 : decode cX1_has 1 = .ok (.getfield 49, 3) := by decide +kernel
theorem dX1_has_4 : decode cX1_has 4 = .ok (.ifCond .eq 19, 3) := by decide +kernel
theorem dX1_has_7 : decode cX1_has 7 = .ok (.iload_n 1, 1) := by decide +kernel
theorem dX1_has_8 : decode cX1_has 8 = .ok (.ifCond .lt 15, 3) := by decide +kernel
theorem dX1_has_11 : decode cX1_has 11 = .ok (.iload_n 1, 1) := by decide +kernel
theorem dX1_has_12 : decode cX1_has 12 = .ok (.aload_n 0, 1) := by decide +kernel
theorem dX1_has_13 : decode cX1_has 13 = .ok (.getfield 57, 3) := by decide +kernel
theorem dX1_has_16 : decode cX1_has 16 = .ok (.if_icmp .ge 7, 3) := by decide +kernel
theorem dX1_has_19 : decode cX1_has 19 = .ok (.iconst 1, 1) := by decide +kernel
theorem dX1_has_20 : decode cX1_has 20 = .ok (.goto 4, 3) := by decide +kernel
theorem dX1_has_23 : decode cX1_has 23 = .ok (.iconst 0, 1) := by decide +kernel
theorem dX1_has_24 : decode cX1_has 24 = .ok (.ireturn, 1) := by decide +kernel
theorem dX1_show_0 : decode cX1_show 0 = .ok (.aload_n 0, 1) := by decide +kernel
theorem dX1_show_1 : decode cX1_show 1 = .ok (.getfield 18, 3) := by decide +kernel
theorem dX1_show_4 : decode cX1_show 4 = .ok (.aload_n 0, 1) := by decide +kernel
theorem dX1_show_5 : decode cX1_show 5 = .ok (.getfield 41, 3) := by decide +kernel
theorem dX1_show_8 : decode cX1_show 8 = .ok (.invokevirtual 60, 3) := by decide +kernel
theorem dX1_show_11 : decode cX1_show 11 = .ok (.aload_n 0, 1) := by decide +kernel
theorem dX1_show_12 : decode cX1_show 12 = .ok (.iload_n 1, 1) := by decide +kernel
theorem dX1_show_13 : decode cX1_show 13 = .ok (.invokevirtual 68, 3) := by decide +kernel
theorem dX1_show_16 : decode cX1_show 16 = .ok (.ifCond .eq 46, 3) := by decide +kernel
theorem dX1_show_19 : decode cX1_show 19 = .ok (.aload_n 0, 1) := by decide +kernel
theorem dX1_show_20 : decode cX1_show 20 = .ok (.getfield 9, 3) := by decide +kernel
theorem dX1_show_23 : decode cX1_show 23 = .ok (.iload_n 1, 1) := by decide +kernel
theorem dX1_show_24 : decode cX1_show 24 = .ok (.iaload, 1) := by decide +kernel
theorem dX1_show_25 : decode cX1_show 25 = .ok (.istore_n 2, 1) := by decide +kernel
theorem dX1_show_26 : decode cX1_show 26 = .ok (.iload_n 2, 1) := by decide +kernel
theorem dX1_show_27 : decode cX1_show 27 = .ok (.aload_n 0, 1) := by decide +kernel
theorem dX1_show_28 : decode cX1_show 28 = .ok (.getfield 9, 3) := by decide +kernel
theorem dX1_show_31 : decode cX1_show 31 = .ok (.iload_n 1, 1) := by decide +kernel
theorem dX1_show_32 : decode cX1_show 32 = .ok (.iconst 1, 1) := by decide +kernel
theorem dX1_show_33 : decode cX1_show 33 = .ok (.iadd, 1) := by decide +kernel
theorem dX1_show_34 : decode cX1_show 34 = .ok (.iaload, 1) := by decide +kernel
theorem dX1_show_35 : decode cX1_show 35 = .ok (.if_icmp .ge 27, 3) := by decide +kernel
theorem dX1_show_38 : decode cX1_show 38 = .ok (.aload_n 0, 1) := by decide +kernel
theorem dX1_show_39 : decode cX1_show 39 = .ok (.getfield 18, 3) := by decide +kernel
theorem dX1_show_42 : decode cX1_show 42 = .ok (.aload_n 0, 1) := by decide +kernel
theorem dX1_show_43 : decode cX1_show 43 = .ok (.getfield 31, 3) := by decide +kernel
theorem dX1_show_46 : decode cX1_show 46 = .ok (.aload_n 0, 1) := by decide +kernel
theorem dX1_show_47 : decode cX1_show 47 = .ok (.getfield 22, 3) := by decide +kernel
theorem dX1_show_50 : decode cX1_show 50 = .ok (.iload_n 2, 1) := by decide +kernel
theorem dX1_show_51 : decode cX1_show 51 = .ok (.iaload, 1) := by decide +kernel
theorem dX1_show_52 : decode cX1_show 52 = .ok (.invokevirtual 64, 3) := by decide +kernel
theorem dX1_show_55 : decode cX1_show 55 = .ok (.pop, 1) := by decide +kernel
theorem dX1_show_56 : decode cX1_show 56 = .ok (.iinc 2 1, 3) := by decide +kernel
theorem dX1_show_59 : decode cX1_show 59 = .ok (.goto (-33), 3) := by decide +kernel
theorem dX1_show_62 : decode cX1_show 62 = .ok (.return_, 1) := by decide +kernel
theorem dX1_thingsOf_0 : decode cX1_thingsOf 0 = .ok (.aload_n 0, 1) := by decide +kernel
theorem dX1_thingsOf_1 : decode cX1_thingsOf 1 = .ok (.iload_n 1, 1) := by decide +kernel
theorem dX1_thingsOf_2 : decode cX1_thingsOf 2 = .ok (.invokevirtual 71, 3) := by decide +kernel
theorem dX1_thingsOf_5 : decode cX1_thingsOf 5 = .ok (.aload_n 0, 1) := by decide +kernel
theorem dX1_thingsOf_6 : decode cX1_thingsOf 6 = .ok (.getfield 18, 3) := by decide +kernel
theorem dX1_thingsOf_9 : decode cX1_thingsOf 9 = .ok (.getfield 74, 3) := by decide +kernel
theorem dX1_thingsOf_12 : decode cX1_thingsOf 12 = .ok (.ireturn, 1) := by decide +kernel
theorem dX1_waysToRead_0 : decode cX1_waysToRead 0 = .ok (.iconst 1, 1) := by decide +kernel
theorem dX1_waysToRead_1 : decode cX1_waysToRead 1 = .ok (.istore_n 3, 1) := by decide +kernel
theorem dX1_waysToRead_2 : decode cX1_waysToRead 2 = .ok (.aload_n 0, 1) := by decide +kernel
theorem dX1_waysToRead_3 : decode cX1_waysToRead 3 = .ok (.iload_n 1, 1) := by decide +kernel
theorem dX1_waysToRead_4 : decode cX1_waysToRead 4 = .ok (.invokevirtual 68, 3) := by decide +kernel
theorem dX1_waysToRead_7 : decode cX1_waysToRead 7 = .ok (.ifCond .eq 48, 3) := by decide +kernel
theorem dX1_waysToRead_10 : decode cX1_waysToRead 10 = .ok (.aload_n 0, 1) := by decide +kernel
theorem dX1_waysToRead_11 : decode cX1_waysToRead 11 = .ok (.getfield 9, 3) := by decide +kernel
theorem dX1_waysToRead_14 : decode cX1_waysToRead 14 = .ok (.iload_n 1, 1) := by decide +kernel
theorem dX1_waysToRead_15 : decode cX1_waysToRead 15 = .ok (.iaload, 1) := by decide +kernel
theorem dX1_waysToRead_16 : decode cX1_waysToRead 16 = .ok (.istore 4, 2) := by decide +kernel
theorem dX1_waysToRead_18 : decode cX1_waysToRead 18 = .ok (.iload 4, 2) := by decide +kernel
theorem dX1_waysToRead_20 : decode cX1_waysToRead 20 = .ok (.aload_n 0, 1) := by decide +kernel
theorem dX1_waysToRead_21 : decode cX1_waysToRead 21 = .ok (.getfield 9, 3) := by decide +kernel
theorem dX1_waysToRead_24 : decode cX1_waysToRead 24 = .ok (.iload_n 1, 1) := by decide +kernel
theorem dX1_waysToRead_25 : decode cX1_waysToRead 25 = .ok (.iconst 1, 1) := by decide +kernel
theorem dX1_waysToRead_26 : decode cX1_waysToRead 26 = .ok (.iadd, 1) := by decide +kernel
theorem dX1_waysToRead_27 : decode cX1_waysToRead 27 = .ok (.iaload, 1) := by decide +kernel
theorem dX1_waysToRead_28 : decode cX1_waysToRead 28 = .ok (.if_icmp .ge 27, 3) := by decide +kernel
theorem dX1_waysToRead_31 : decode cX1_waysToRead 31 = .ok (.iload_n 3, 1) := by decide +kernel
theorem dX1_waysToRead_32 : decode cX1_waysToRead 32 = .ok (.aload_n 0, 1) := by decide +kernel
theorem dX1_waysToRead_33 : decode cX1_waysToRead 33 = .ok (.getfield 31, 3) := by decide +kernel
theorem dX1_waysToRead_36 : decode cX1_waysToRead 36 = .ok (.aload_n 0, 1) := by decide +kernel
theorem dX1_waysToRead_37 : decode cX1_waysToRead 37 = .ok (.getfield 22, 3) := by decide +kernel
theorem dX1_waysToRead_40 : decode cX1_waysToRead 40 = .ok (.iload 4, 2) := by decide +kernel
theorem dX1_waysToRead_42 : decode cX1_waysToRead 42 = .ok (.iaload, 1) := by decide +kernel
theorem dX1_waysToRead_43 : decode cX1_waysToRead 43 = .ok (.iload_n 2, 1) := by decide +kernel
theorem dX1_waysToRead_44 : decode cX1_waysToRead 44 = .ok (.invokevirtual 75, 3) := by decide +kernel
theorem dX1_waysToRead_47 : decode cX1_waysToRead 47 = .ok (.imul, 1) := by decide +kernel
theorem dX1_waysToRead_48 : decode cX1_waysToRead 48 = .ok (.istore_n 3, 1) := by decide +kernel
theorem dX1_waysToRead_49 : decode cX1_waysToRead 49 = .ok (.iinc 4 1, 3) := by decide +kernel
theorem dX1_waysToRead_52 : decode cX1_waysToRead 52 = .ok (.goto (-34), 3) := by decide +kernel
theorem dX1_waysToRead_55 : decode cX1_waysToRead 55 = .ok (.iload_n 3, 1) := by decide +kernel
theorem dX1_waysToRead_56 : decode cX1_waysToRead 56 = .ok (.ireturn, 1) := by decide +kernel
theorem dX1_farthest_0 : decode cX1_farthest 0 = .ok (.bipush 9, 2) := by decide +kernel
theorem dX1_farthest_2 : decode cX1_farthest 2 = .ok (.istore_n 1, 1) := by decide +kernel
theorem dX1_farthest_3 : decode cX1_farthest 3 = .ok (.iload_n 1, 1) := by decide +kernel
theorem dX1_farthest_4 : decode cX1_farthest 4 = .ok (.iconst 1, 1) := by decide +kernel
theorem dX1_farthest_5 : decode cX1_farthest 5 = .ok (.if_icmp .lt 19, 3) := by decide +kernel
theorem dX1_farthest_8 : decode cX1_farthest 8 = .ok (.aload_n 0, 1) := by decide +kernel
theorem dX1_farthest_9 : decode cX1_farthest 9 = .ok (.iload_n 1, 1) := by decide +kernel
theorem dX1_farthest_10 : decode cX1_farthest 10 = .ok (.invokevirtual 81, 3) := by decide +kernel
theorem dX1_farthest_13 : decode cX1_farthest 13 = .ok (.ifCond .eq 5, 3) := by decide +kernel
theorem dX1_farthest_16 : decode cX1_farthest 16 = .ok (.iload_n 1, 1) := by decide +kernel
theorem dX1_farthest_17 : decode cX1_farthest 17 = .ok (.ireturn, 1) := by decide +kernel
theorem dX1_farthest_18 : decode cX1_farthest 18 = .ok (.iinc 1 (-1), 3) := by decide +kernel
theorem dX1_farthest_21 : decode cX1_farthest 21 = .ok (.goto (-18), 3) := by decide +kernel
theorem dX1_farthest_24 : decode cX1_farthest 24 = .ok (.iconst 0, 1) := by decide +kernel
theorem dX1_farthest_25 : decode cX1_farthest 25 = .ok (.ireturn, 1) := by decide +kernel
theorem dX1_isReadOneWay_0 : decode cX1_isReadOneWay 0 = .ok (.iconst 0, 1) := by decide +kernel
theorem dX1_isReadOneWay_1 : decode cX1_isReadOneWay 1 = .ok (.istore_n 2, 1) := by decide +kernel
theorem dX1_isReadOneWay_2 : decode cX1_isReadOneWay 2 = .ok (.iload_n 2, 1) := by decide +kernel
theorem dX1_isReadOneWay_3 : decode cX1_isReadOneWay 3 = .ok (.aload_n 0, 1) := by decide +kernel
theorem dX1_isReadOneWay_4 : decode cX1_isReadOneWay 4 = .ok (.getfield 42, 3) := by decide +kernel
theorem dX1_isReadOneWay_7 : decode cX1_isReadOneWay 7 = .ok (.if_icmp .ge 29, 3) := by decide +kernel
theorem dX1_isReadOneWay_10 : decode cX1_isReadOneWay 10 = .ok (.aload_n 0, 1) := by decide +kernel
theorem dX1_isReadOneWay_11 : decode cX1_isReadOneWay 11 = .ok (.getfield 31, 3) := by decide +kernel
theorem dX1_isReadOneWay_14 : decode cX1_isReadOneWay 14 = .ok (.aload_n 0, 1) := by decide +kernel
theorem dX1_isReadOneWay_15 : decode cX1_isReadOneWay 15 = .ok (.getfield 22, 3) := by decide +kernel
theorem dX1_isReadOneWay_18 : decode cX1_isReadOneWay 18 = .ok (.iload_n 2, 1) := by decide +kernel
theorem dX1_isReadOneWay_19 : decode cX1_isReadOneWay 19 = .ok (.iaload, 1) := by decide +kernel
theorem dX1_isReadOneWay_20 : decode cX1_isReadOneWay 20 = .ok (.iload_n 1, 1) := by decide +kernel
theorem dX1_isReadOneWay_21 : decode cX1_isReadOneWay 21 = .ok (.invokevirtual 75, 3) := by decide +kernel
theorem dX1_isReadOneWay_24 : decode cX1_isReadOneWay 24 = .ok (.iconst 1, 1) := by decide +kernel
theorem dX1_isReadOneWay_25 : decode cX1_isReadOneWay 25 = .ok (.if_icmp .eq 5, 3) := by decide +kernel
theorem dX1_isReadOneWay_28 : decode cX1_isReadOneWay 28 = .ok (.iconst 0, 1) := by decide +kernel
theorem dX1_isReadOneWay_29 : decode cX1_isReadOneWay 29 = .ok (.ireturn, 1) := by decide +kernel
theorem dX1_isReadOneWay_30 : decode cX1_isReadOneWay 30 = .ok (.iinc 2 1, 3) := by decide +kernel
theorem dX1_isReadOneWay_33 : decode cX1_isReadOneWay 33 = .ok (.goto (-31), 3) := by decide +kernel
theorem dX1_isReadOneWay_36 : decode cX1_isReadOneWay 36 = .ok (.iconst 1, 1) := by decide +kernel
theorem dX1_isReadOneWay_37 : decode cX1_isReadOneWay 37 = .ok (.ireturn, 1) := by decide +kernel
theorem dX2_init_0 : decode cX2_init 0 = .ok (.aload_n 0, 1) := by decide +kernel
theorem dX2_init_1 : decode cX2_init 1 = .ok (.invokespecial 3, 3) := by decide +kernel
theorem dX2_init_4 : decode cX2_init 4 = .ok (.aload_n 0, 1) := by decide +kernel
theorem dX2_init_5 : decode cX2_init 5 = .ok (.bipush 10, 2) := by decide +kernel
theorem dX2_init_7 : decode cX2_init 7 = .ok (.anewarray 9, 3) := by decide +kernel
theorem dX2_init_10 : decode cX2_init 10 = .ok (.putfield 11, 3) := by decide +kernel
theorem dX2_init_13 : decode cX2_init 13 = .ok (.iconst 0, 1) := by decide +kernel
theorem dX2_init_14 : decode cX2_init 14 = .ok (.istore_n 1, 1) := by decide +kernel
theorem dX2_init_15 : decode cX2_init 15 = .ok (.iload_n 1, 1) := by decide +kernel
theorem dX2_init_16 : decode cX2_init 16 = .ok (.bipush 10, 2) := by decide +kernel
theorem dX2_init_18 : decode cX2_init 18 = .ok (.if_icmp .ge 22, 3) := by decide +kernel
theorem dX2_init_21 : decode cX2_init 21 = .ok (.aload_n 0, 1) := by decide +kernel
theorem dX2_init_22 : decode cX2_init 22 = .ok (.getfield 11, 3) := by decide +kernel
theorem dX2_init_25 : decode cX2_init 25 = .ok (.iload_n 1, 1) := by decide +kernel
theorem dX2_init_26 : decode cX2_init 26 = .ok (.new 9, 3) := by decide +kernel
theorem dX2_init_29 : decode cX2_init 29 = .ok (.dup, 1) := by decide +kernel
theorem dX2_init_30 : decode cX2_init 30 = .ok (.invokespecial 17, 3) := by decide +kernel
theorem dX2_init_33 : decode cX2_init 33 = .ok (.aastore, 1) := by decide +kernel
theorem dX2_init_34 : decode cX2_init 34 = .ok (.iinc 1 1, 3) := by decide +kernel
theorem dX2_init_37 : decode cX2_init 37 = .ok (.goto (-22), 3) := by decide +kernel
theorem dX2_init_40 : decode cX2_init 40 = .ok (.return_, 1) := by decide +kernel
theorem dX2_remember_0 : decode cX2_remember 0 = .ok (.aload_n 0, 1) := by decide +kernel
theorem dX2_remember_1 : decode cX2_remember 1 = .ok (.getfield 11, 3) := by decide +kernel
theorem dX2_remember_4 : decode cX2_remember 4 = .ok (.aload_n 0, 1) := by decide +kernel
theorem dX2_remember_5 : decode cX2_remember 5 = .ok (.getfield 18, 3) := by decide +kernel
theorem dX2_remember_8 : decode cX2_remember 8 = .ok (.aload_n 0, 1) := by decide +kernel
theorem dX2_remember_9 : decode cX2_remember 9 = .ok (.getfield 22, 3) := by decide +kernel
theorem dX2_remember_12 : decode cX2_remember 12 = .ok (.iadd, 1) := by decide +kernel
theorem dX2_remember_13 : decode cX2_remember 13 = .ok (.bipush 10, 2) := by decide +kernel
theorem dX2_remember_15 : decode cX2_remember 15 = .ok (.irem, 1) := by decide +kernel
theorem dX2_remember_16 : decode cX2_remember 16 = .ok (.aaload, 1) := by decide +kernel
theorem dX2_remember_17 : decode cX2_remember 17 = .ok (.aload_n 1, 1) := by decide +kernel
theorem dX2_remember_18 : decode cX2_remember 18 = .ok (.invokevirtual 25, 3) := by decide +kernel
theorem dX2_remember_21 : decode cX2_remember 21 = .ok (.aload_n 0, 1) := by decide +kernel
theorem dX2_remember_22 : decode cX2_remember 22 = .ok (.getfield 22, 3) := by decide +kernel
theorem dX2_remember_25 : decode cX2_remember 25 = .ok (.bipush 10, 2) := by decide +kernel
theorem dX2_remember_27 : decode cX2_remember 27 = .ok (.if_icmp .ge 16, 3) := by decide +kernel
theorem dX2_remember_30 : decode cX2_remember 30 = .ok (.aload_n 0, 1) := by decide +kernel
theorem dX2_remember_31 : decode cX2_remember 31 = .ok (.dup, 1) := by decide +kernel
theorem dX2_remember_32 : decode cX2_remember 32 = .ok (.getfield 22, 3) := by decide +kernel
theorem dX2_remember_35 : decode cX2_remember 35 = .ok (.iconst 1, 1) := by decide +kernel
theorem dX2_remember_36 : decode cX2_remember 36 = .ok (.iadd, 1) := by decide +kernel
theorem dX2_remember_37 : decode cX2_remember 37 = .ok (.putfield 22, 3) := by decide +kernel
theorem dX2_remember_40 : decode cX2_remember 40 = .ok (.goto 16, 3) := by decide +kernel
theorem dX2_remember_43 : decode cX2_remember 43 = .ok (.aload_n 0, 1) := by decide +kernel
theorem dX2_remember_44 : decode cX2_remember 44 = .ok (.aload_n 0, 1) := by decide +kernel
theorem dX2_remember_45 : decode cX2_remember 45 = .ok (.getfield 18, 3) := by decide +kernel
theorem dX2_remember_48 : decode cX2_remember 48 = .ok (.iconst 1, 1) := by decide +kernel
theorem dX2_remember_49 : decode cX2_remember 49 = .ok (.iadd, 1) := by decide +kernel
theorem dX2_remember_50 : decode cX2_remember 50 = .ok (.bipush 10, 2) := by decide +kernel
theorem dX2_remember_52 : decode cX2_remember 52 = .ok (.irem, 1) := by decide +kernel
theorem dX2_remember_53 : decode cX2_remember 53 = .ok (.putfield 18, 3) := by decide +kernel
theorem dX2_remember_56 : decode cX2_remember 56 = .ok (.return_, 1) := by decide +kernel
theorem dX2_restore_0 : decode cX2_restore 0 = .ok (.aload_n 0, 1) := by decide +kernel
theorem dX2_restore_1 : decode cX2_restore 1 = .ok (.getfield 22, 3) := by decide +kernel
theorem dX2_restore_4 : decode cX2_restore 4 = .ok (.ifCond .le 34, 3) := by decide +kernel
theorem dX2_restore_7 : decode cX2_restore 7 = .ok (.aload_n 0, 1) := by decide +kernel
theorem dX2_restore_8 : decode cX2_restore 8 = .ok (.dup, 1) := by decide +kernel
theorem dX2_restore_9 : decode cX2_restore 9 = .ok (.getfield 22, 3) := by decide +kernel
theorem dX2_restore_12 : decode cX2_restore 12 = .ok (.iconst 1, 1) := by decide +kernel
theorem dX2_restore_13 : decode cX2_restore 13 = .ok (.isub, 1) := by decide +kernel
theorem dX2_restore_14 : decode cX2_restore 14 = .ok (.putfield 22, 3) := by decide +kernel
theorem dX2_restore_17 : decode cX2_restore 17 = .ok (.aload_n 1, 1) := by decide +kernel
theorem dX2_restore_18 : decode cX2_restore 18 = .ok (.aload_n 0, 1) := by decide +kernel
theorem dX2_restore_19 : decode cX2_restore 19 = .ok (.getfield 11, 3) := by decide +kernel
theorem dX2_restore_22 : decode cX2_restore 22 = .ok (.aload_n 0, 1) := by decide +kernel
theorem dX2_restore_23 : decode cX2_restore 23 = .ok (.getfield 18, 3) := by decide +kernel
theorem dX2_restore_26 : decode cX2_restore 26 = .ok (.aload_n 0, 1) := by decide +kernel
theorem dX2_restore_27 : decode cX2_restore 27 = .ok (.getfield 22, 3) := by decide +kernel
theorem dX2_restore_30 : decode cX2_restore 30 = .ok (.iadd, 1) := by decide +kernel
theorem dX2_restore_31 : decode cX2_restore 31 = .ok (.bipush 10, 2) := by decide +kernel
theorem dX2_restore_33 : decode cX2_restore 33 = .ok (.irem, 1) := by decide +kernel
theorem dX2_restore_34 : decode cX2_restore 34 = .ok (.aaload, 1) := by decide +kernel
theorem dX2_restore_35 : decode cX2_restore 35 = .ok (.invokevirtual 25, 3) := by decide +kernel
theorem dX2_restore_38 : decode cX2_restore 38 = .ok (.return_, 1) := by decide +kernel
theorem dX3_init_0 : decode cX3_init 0 = .ok (.aload_n 0, 1) := by decide +kernel
theorem dX3_init_1 : decode cX3_init 1 = .ok (.invokespecial 3, 3) := by decide +kernel
theorem dX3_init_4 : decode cX3_init 4 = .ok (.aload_n 0, 1) := by decide +kernel
theorem dX3_init_5 : decode cX3_init 5 = .ok (.aload_n 1, 1) := by decide +kernel
theorem dX3_init_6 : decode cX3_init 6 = .ok (.putfield 9, 3) := by decide +kernel
theorem dX3_init_9 : decode cX3_init 9 = .ok (.aload_n 0, 1) := by decide +kernel
theorem dX3_init_10 : decode cX3_init 10 = .ok (.new 15, 3) := by decide +kernel
theorem dX3_init_13 : decode cX3_init 13 = .ok (.dup, 1) := by decide +kernel
theorem dX3_init_14 : decode cX3_init 14 = .ok (.invokespecial 17, 3) := by decide +kernel
theorem dX3_init_17 : decode cX3_init 17 = .ok (.putfield 18, 3) := by decide +kernel
theorem dX3_init_20 : decode cX3_init 20 = .ok (.return_, 1) := by decide +kernel
theorem dX3_readAll_0 : decode cX3_readAll 0 = .ok (.aload_n 0, 1) := by decide +kernel
theorem dX3_readAll_1 : decode cX3_readAll 1 = .ok (.getfield 18, 3) := by decide +kernel
theorem dX3_readAll_4 : decode cX3_readAll 4 = .ok (.invokevirtual 22, 3) := by decide +kernel
theorem dX3_readAll_7 : decode cX3_readAll 7 = .ok (.aload_n 0, 1) := by decide +kernel
theorem dX3_readAll_8 : decode cX3_readAll 8 = .ok (.iconst 0, 1) := by decide +kernel
theorem dX3_readAll_9 : decode cX3_readAll 9 = .ok (.putfield 25, 3) := by decide +kernel
theorem dX3_readAll_12 : decode cX3_readAll 12 = .ok (.aload_n 0, 1) := by decide +kernel
theorem dX3_readAll_13 : decode cX3_readAll 13 = .ok (.getfield 9, 3) := by decide +kernel
theorem dX3_readAll_16 : decode cX3_readAll 16 = .ok (.invokevirtual 29, 3) := by decide +kernel
theorem dX3_readAll_19 : decode cX3_readAll 19 = .ok (.iconst 0, 1) := by decide +kernel
theorem dX3_readAll_20 : decode cX3_readAll 20 = .ok (.istore_n 1, 1) := by decide +kernel
theorem dX3_readAll_21 : decode cX3_readAll 21 = .ok (.iload_n 1, 1) := by decide +kernel
theorem dX3_readAll_22 : decode cX3_readAll 22 = .ok (.bipush 120, 2) := by decide +kernel
theorem dX3_readAll_24 : decode cX3_readAll 24 = .ok (.if_icmp .ge 38, 3) := by decide +kernel
theorem dX3_readAll_27 : decode cX3_readAll 27 = .ok (.aload_n 0, 1) := by decide +kernel
theorem dX3_readAll_28 : decode cX3_readAll 28 = .ok (.getfield 9, 3) := by decide +kernel
theorem dX3_readAll_31 : decode cX3_readAll 31 = .ok (.getfield 34, 3) := by decide +kernel
theorem dX3_readAll_34 : decode cX3_readAll 34 = .ok (.iconst (-1), 1) := by decide +kernel
theorem dX3_readAll_35 : decode cX3_readAll 35 = .ok (.if_icmp .eq 27, 3) := by decide +kernel
theorem dX3_readAll_38 : decode cX3_readAll 38 = .ok (.aload_n 0, 1) := by decide +kernel
theorem dX3_readAll_39 : decode cX3_readAll 39 = .ok (.invokevirtual 38, 3) := by decide +kernel
theorem dX3_readAll_42 : decode cX3_readAll 42 = .ok (.ifCond .ne 14, 3) := by decide +kernel
theorem dX3_readAll_45 : decode cX3_readAll 45 = .ok (.bipush (-10), 2) := by decide +kernel
theorem dX3_readAll_47 : decode cX3_readAll 47 = .ok (.aload_n 0, 1) := by decide +kernel
theorem dX3_readAll_48 : decode cX3_readAll 48 = .ok (.getfield 9, 3) := by decide +kernel
theorem dX3_readAll_51 : decode cX3_readAll 51 = .ok (.getfield 42, 3) := by decide +kernel
theorem dX3_readAll_54 : decode cX3_readAll 54 = .ok (.isub, 1) := by decide +kernel
theorem dX3_readAll_55 : decode cX3_readAll 55 = .ok (.ireturn, 1) := by decide +kernel
theorem dX3_readAll_56 : decode cX3_readAll 56 = .ok (.iinc 1 1, 3) := by decide +kernel
theorem dX3_readAll_59 : decode cX3_readAll 59 = .ok (.goto (-38), 3) := by decide +kernel
theorem dX3_readAll_62 : decode cX3_readAll 62 = .ok (.iload_n 1, 1) := by decide +kernel
theorem dX3_readAll_63 : decode cX3_readAll 63 = .ok (.ireturn, 1) := by decide +kernel
theorem dX3_readItem_0 : decode cX3_readItem 0 = .ok (.aload_n 0, 1) := by decide +kernel
theorem dX3_readItem_1 : decode cX3_readItem 1 = .ok (.getfield 9, 3) := by decide +kernel
theorem dX3_readItem_4 : decode cX3_readItem 4 = .ok (.getfield 34, 3) := by decide +kernel
theorem dX3_readItem_7 : decode cX3_readItem 7 = .ok (.lookupswitch 57 #[(102, 41), (107, 49), (112, 33)], 33) := by decide +kernel
theorem dX3_readItem_40 : decode cX3_readItem 40 = .ok (.aload_n 0, 1) := by decide +kernel
theorem dX3_readItem_41 : decode cX3_readItem 41 = .ok (.invokevirtual 45, 3) := by decide +kernel
theorem dX3_readItem_44 : decode cX3_readItem 44 = .ok (.istore_n 1, 1) := by decide +kernel
theorem dX3_readItem_45 : decode cX3_readItem 45 = .ok (.goto 21, 3) := by decide +kernel
theorem dX3_readItem_48 : decode cX3_readItem 48 = .ok (.aload_n 0, 1) := by decide +kernel
theorem dX3_readItem_49 : decode cX3_readItem 49 = .ok (.invokevirtual 48, 3) := by decide +kernel
theorem dX3_readItem_52 : decode cX3_readItem 52 = .ok (.istore_n 1, 1) := by decide +kernel
theorem dX3_readItem_53 : decode cX3_readItem 53 = .ok (.goto 13, 3) := by decide +kernel
theorem dX3_readItem_56 : decode cX3_readItem 56 = .ok (.aload_n 0, 1) := by decide +kernel
theorem dX3_readItem_57 : decode cX3_readItem 57 = .ok (.invokevirtual 51, 3) := by decide +kernel
theorem dX3_readItem_60 : decode cX3_readItem 60 = .ok (.istore_n 1, 1) := by decide +kernel
theorem dX3_readItem_61 : decode cX3_readItem 61 = .ok (.goto 5, 3) := by decide +kernel
theorem dX3_readItem_64 : decode cX3_readItem 64 = .ok (.iconst 0, 1) := by decide +kernel
theorem dX3_readItem_65 : decode cX3_readItem 65 = .ok (.istore_n 1, 1) := by decide +kernel
theorem dX3_readItem_66 : decode cX3_readItem 66 = .ok (.iload_n 1, 1) := by decide +kernel
theorem dX3_readItem_67 : decode cX3_readItem 67 = .ok (.ifCond .eq 20, 3) := by decide +kernel
theorem dX3_readItem_70 : decode cX3_readItem 70 = .ok (.aload_n 0, 1) := by decide +kernel
theorem dX3_readItem_71 : decode cX3_readItem 71 = .ok (.bipush 59, 2) := by decide +kernel
theorem dX3_readItem_73 : decode cX3_readItem 73 = .ok (.iconst 0, 1) := by decide +kernel
theorem dX3_readItem_74 : decode cX3_readItem 74 = .ok (.iconst 0, 1) := by decide +kernel
theorem dX3_readItem_75 : decode cX3_readItem 75 = .ok (.invokevirtual 54, 3) := by decide +kernel
theorem dX3_readItem_78 : decode cX3_readItem 78 = .ok (.bipush (-9), 2) := by decide +kernel
theorem dX3_readItem_80 : decode cX3_readItem 80 = .ok (.if_icmp .eq 7, 3) := by decide +kernel
theorem dX3_readItem_83 : decode cX3_readItem 83 = .ok (.iconst 1, 1) := by decide +kernel
theorem dX3_readItem_84 : decode cX3_readItem 84 = .ok (.goto 4, 3) := by decide +kernel
theorem dX3_readItem_87 : decode cX3_readItem 87 = .ok (.iconst 0, 1) := by decide +kernel
theorem dX3_readItem_88 : decode cX3_readItem 88 = .ok (.ireturn, 1) := by decide +kernel
theorem dX3_readPlaces_0 : decode cX3_readPlaces 0 = .ok (.aload_n 0, 1) := by decide +kernel
theorem dX3_readPlaces_1 : decode cX3_readPlaces 1 = .ok (.getfield 25, 3) := by decide +kernel
theorem dX3_readPlaces_4 : decode cX3_readPlaces 4 = .ok (.ifCond .eq 5, 3) := by decide +kernel
theorem dX3_readPlaces_7 : decode cX3_readPlaces 7 = .ok (.iconst 0, 1) := by decide +kernel
theorem dX3_readPlaces_8 : decode cX3_readPlaces 8 = .ok (.ireturn, 1) := by decide +kernel
theorem dX3_readPlaces_9 : decode cX3_readPlaces 9 = .ok (.aload_n 0, 1) := by decide +kernel
theorem dX3_readPlaces_10 : decode cX3_readPlaces 10 = .ok (.getfield 9, 3) := by decide +kernel
theorem dX3_readPlaces_13 : decode cX3_readPlaces 13 = .ok (.invokevirtual 58, 3) := by decide +kernel
theorem dX3_readPlaces_16 : decode cX3_readPlaces 16 = .ok (.aload_n 0, 1) := by decide +kernel
theorem dX3_readPlaces_17 : decode cX3_readPlaces 17 = .ok (.bipush 48, 2) := by decide +kernel
theorem dX3_readPlaces_19 : decode cX3_readPlaces 19 = .ok (.iconst 3, 1) := by decide +kernel
theorem dX3_readPlaces_20 : decode cX3_readPlaces 20 = .ok (.bipush 7, 2) := by decide +kernel
theorem dX3_readPlaces_22 : decode cX3_readPlaces 22 = .ok (.invokevirtual 54, 3) := by decide +kernel
theorem dX3_readPlaces_25 : decode cX3_readPlaces 25 = .ok (.istore_n 1, 1) := by decide +kernel
theorem dX3_readPlaces_26 : decode cX3_readPlaces 26 = .ok (.iload_n 1, 1) := by decide +kernel
theorem dX3_readPlaces_27 : decode cX3_readPlaces 27 = .ok (.bipush (-9), 2) := by decide +kernel
theorem dX3_readPlaces_29 : decode cX3_readPlaces 29 = .ok (.if_icmp .ne 5, 3) := by decide +kernel
theorem dX3_readPlaces_32 : decode cX3_readPlaces 32 = .ok (.iconst 0, 1) := by decide +kernel
theorem dX3_readPlaces_33 : decode cX3_readPlaces 33 = .ok (.ireturn, 1) := by decide +kernel
theorem dX3_readPlaces_34 : decode cX3_readPlaces 34 = .ok (.aload_n 0, 1) := by decide +kernel
theorem dX3_readPlaces_35 : decode cX3_readPlaces 35 = .ok (.getfield 18, 3) := by decide +kernel
theorem dX3_readPlaces_38 : decode cX3_readPlaces 38 = .ok (.iload_n 1, 1) := by decide +kernel
theorem dX3_readPlaces_39 : decode cX3_readPlaces 39 = .ok (.putfield 61, 3) := by decide +kernel
theorem dX3_readPlaces_42 : decode cX3_readPlaces 42 = .ok (.aload_n 0, 1) := by decide +kernel
theorem dX3_readPlaces_43 : decode cX3_readPlaces 43 = .ok (.iconst 1, 1) := by decide +kernel
theorem dX3_readPlaces_44 : decode cX3_readPlaces 44 = .ok (.putfield 25, 3) := by decide +kernel
theorem dX3_readPlaces_47 : decode cX3_readPlaces 47 = .ok (.iconst 1, 1) := by decide +kernel
theorem dX3_readPlaces_48 : decode cX3_readPlaces 48 = .ok (.ireturn, 1) := by decide +kernel
theorem dX3_readFlag_0 : decode cX3_readFlag 0 = .ok (.aload_n 0, 1) := by decide +kernel
theorem dX3_readFlag_1 : decode cX3_readFlag 1 = .ok (.getfield 9, 3) := by decide +kernel
theorem dX3_readFlag_4 : decode cX3_readFlag 4 = .ok (.invokevirtual 58, 3) := by decide +kernel
theorem dX3_readFlag_7 : decode cX3_readFlag 7 = .ok (.aload_n 0, 1) := by decide +kernel
theorem dX3_readFlag_8 : decode cX3_readFlag 8 = .ok (.bipush 97, 2) := by decide +kernel
theorem dX3_readFlag_10 : decode cX3_readFlag 10 = .ok (.iconst 0, 1) := by decide +kernel
theorem dX3_readFlag_11 : decode cX3_readFlag 11 = .ok (.bipush 7, 2) := by decide +kernel
theorem dX3_readFlag_13 : decode cX3_readFlag 13 = .ok (.invokevirtual 54, 3) := by decide +kernel
theorem dX3_readFlag_16 : decode cX3_readFlag 16 = .ok (.istore_n 1, 1) := by decide +kernel
theorem dX3_readFlag_17 : decode cX3_readFlag 17 = .ok (.iload_n 1, 1) := by decide +kernel
theorem dX3_readFlag_18 : decode cX3_readFlag 18 = .ok (.bipush (-9), 2) := by decide +kernel
theorem dX3_readFlag_20 : decode cX3_readFlag 20 = .ok (.if_icmp .ne 5, 3) := by decide +kernel
theorem dX3_readFlag_23 : decode cX3_readFlag 23 = .ok (.iconst 0, 1) := by decide +kernel
theorem dX3_readFlag_24 : decode cX3_readFlag 24 = .ok (.ireturn, 1) := by decide +kernel
theorem dX3_readFlag_25 : decode cX3_readFlag 25 = .ok (.aload_n 0, 1) := by decide +kernel
theorem dX3_readFlag_26 : decode cX3_readFlag 26 = .ok (.bipush 48, 2) := by decide +kernel
theorem dX3_readFlag_28 : decode cX3_readFlag 28 = .ok (.iconst 0, 1) := by decide +kernel
theorem dX3_readFlag_29 : decode cX3_readFlag 29 = .ok (.bipush 7, 2) := by decide +kernel
theorem dX3_readFlag_31 : decode cX3_readFlag 31 = .ok (.invokevirtual 54, 3) := by decide +kernel
theorem dX3_readFlag_34 : decode cX3_readFlag 34 = .ok (.istore_n 2, 1) := by decide +kernel
theorem dX3_readFlag_35 : decode cX3_readFlag 35 = .ok (.iload_n 2, 1) := by decide +kernel
theorem dX3_readFlag_36 : decode cX3_readFlag 36 = .ok (.bipush (-9), 2) := by decide +kernel
theorem dX3_readFlag_38 : decode cX3_readFlag 38 = .ok (.if_icmp .ne 5, 3) := by decide +kernel
theorem dX3_readFlag_41 : decode cX3_readFlag 41 = .ok (.iconst 0, 1) := by decide +kernel
theorem dX3_readFlag_42 : decode cX3_readFlag 42 = .ok (.ireturn, 1) := by decide +kernel
theorem dX3_readFlag_43 : decode cX3_readFlag 43 = .ok (.aload_n 0, 1) := by decide +kernel
theorem dX3_readFlag_44 : decode cX3_readFlag 44 = .ok (.bipush 48, 2) := by decide +kernel
theorem dX3_readFlag_46 : decode cX3_readFlag 46 = .ok (.iconst 1, 1) := by decide +kernel
theorem dX3_readFlag_47 : decode cX3_readFlag 47 = .ok (.bipush 9, 2) := by decide +kernel
theorem dX3_readFlag_49 : decode cX3_readFlag 49 = .ok (.invokevirtual 54, 3) := by decide +kernel
theorem dX3_readFlag_52 : decode cX3_readFlag 52 = .ok (.istore_n 3, 1) := by decide +kernel
theorem dX3_readFlag_53 : decode cX3_readFlag 53 = .ok (.iload_n 3, 1) := by decide +kernel
theorem dX3_readFlag_54 : decode cX3_readFlag 54 = .ok (.bipush (-9), 2) := by decide +kernel
theorem dX3_readFlag_56 : decode cX3_readFlag 56 = .ok (.if_icmp .ne 5, 3) := by decide +kernel
theorem dX3_readFlag_59 : decode cX3_readFlag 59 = .ok (.iconst 0, 1) := by decide +kernel
theorem dX3_readFlag_60 : decode cX3_readFlag 60 = .ok (.ireturn, 1) := by decide +kernel
theorem dX3_readFlag_61 : decode cX3_readFlag 61 = .ok (.aload_n 0, 1) := by decide +kernel
theorem dX3_readFlag_62 : decode cX3_readFlag 62 = .ok (.getfield 18, 3) := by decide +kernel
theorem dX3_readFlag_65 : decode cX3_readFlag 65 = .ok (.getfield 64, 3) := by decide +kernel
theorem dX3_readFlag_68 : decode cX3_readFlag 68 = .ok (.iload_n 1, 1) := by decide +kernel
theorem dX3_readFlag_69 : decode cX3_readFlag 69 = .ok (.iload_n 2, 1) := by decide +kernel
theorem dX3_readFlag_70 : decode cX3_readFlag 70 = .ok (.iastore, 1) := by decide +kernel
theorem dX3_readFlag_71 : decode cX3_readFlag 71 = .ok (.aload_n 0, 1) := by decide +kernel
theorem dX3_readFlag_72 : decode cX3_readFlag 72 = .ok (.getfield 18, 3) := by decide +kernel
theorem dX3_readFlag_75 : decode cX3_readFlag 75 = .ok (.getfield 68, 3) := by decide +kernel
theorem dX3_readFlag_78 : decode cX3_readFlag 78 = .ok (.iload_n 1, 1) := by decide +kernel
theorem dX3_readFlag_79 : decode cX3_readFlag 79 = .ok (.iload_n 3, 1) := by decide +kernel
theorem dX3_readFlag_80 : decode cX3_readFlag 80 = .ok (.iastore, 1) := by decide +kernel
theorem dX3_readFlag_81 : decode cX3_readFlag 81 = .ok (.iconst 1, 1) := by decide +kernel
theorem dX3_readFlag_82 : decode cX3_readFlag 82 = .ok (.ireturn, 1) := by decide +kernel
theorem dX3_readCode_0 : decode cX3_readCode 0 = .ok (.aload_n 0, 1) := by decide +kernel
theorem dX3_readCode_1 : decode cX3_readCode 1 = .ok (.getfield 18, 3) := by decide +kernel
theorem dX3_readCode_4 : decode cX3_readCode 4 = .ok (.getfield 71, 3) := by decide +kernel
theorem dX3_readCode_7 : decode cX3_readCode 7 = .ok (.bipush 10, 2) := by decide +kernel
theorem dX3_readCode_9 : decode cX3_readCode 9 = .ok (.if_icmp .lt 5, 3) := by decide +kernel
theorem dX3_readCode_12 : decode cX3_readCode 12 = .ok (.iconst 0, 1) := by decide +kernel
theorem dX3_readCode_13 : decode cX3_readCode 13 = .ok (.ireturn, 1) := by decide +kernel
theorem dX3_readCode_14 : decode cX3_readCode 14 = .ok (.aload_n 0, 1) := by decide +kernel
theorem dX3_readCode_15 : decode cX3_readCode 15 = .ok (.getfield 9, 3) := by decide +kernel
theorem dX3_readCode_18 : decode cX3_readCode 18 = .ok (.invokevirtual 58, 3) := by decide +kernel
theorem dX3_readCode_21 : decode cX3_readCode 21 = .ok (.iconst 0, 1) := by decide +kernel
theorem dX3_readCode_22 : decode cX3_readCode 22 = .ok (.istore_n 1, 1) := by decide +kernel
theorem dX3_readCode_23 : decode cX3_readCode 23 = .ok (.iconst 0, 1) := by decide +kernel
theorem dX3_readCode_24 : decode cX3_readCode 24 = .ok (.istore_n 2, 1) := by decide +kernel
theorem dX3_readCode_25 : decode cX3_readCode 25 = .ok (.iconst 0, 1) := by decide +kernel
theorem dX3_readCode_26 : decode cX3_readCode 26 = .ok (.istore_n 3, 1) := by decide +kernel
theorem dX3_readCode_27 : decode cX3_readCode 27 = .ok (.iload_n 3, 1) := by decide +kernel
theorem dX3_readCode_28 : decode cX3_readCode 28 = .ok (.iconst 4, 1) := by decide +kernel
theorem dX3_readCode_29 : decode cX3_readCode 29 = .ok (.if_icmp .ge 44, 3) := by decide +kernel
theorem dX3_readCode_32 : decode cX3_readCode 32 = .ok (.iload_n 1, 1) := by decide +kernel
theorem dX3_readCode_33 : decode cX3_readCode 33 = .ok (.iload_n 3, 1) := by decide +kernel
theorem dX3_readCode_34 : decode cX3_readCode 34 = .ok (.if_icmp .ne 39, 3) := by decide +kernel
theorem dX3_readCode_37 : decode cX3_readCode 37 = .ok (.aload_n 0, 1) := by decide +kernel
theorem dX3_readCode_38 : decode cX3_readCode 38 = .ok (.bipush 97, 2) := by decide +kernel
theorem dX3_readCode_40 : decode cX3_readCode 40 = .ok (.iconst 0, 1) := by decide +kernel
theorem dX3_readCode_41 : decode cX3_readCode 41 = .ok (.bipush 7, 2) := by decide +kernel
theorem dX3_readCode_43 : decode cX3_readCode 43 = .ok (.invokevirtual 54, 3) := by decide +kernel
theorem dX3_readCode_46 : decode cX3_readCode 46 = .ok (.istore 4, 2) := by decide +kernel
theorem dX3_readCode_48 : decode cX3_readCode 48 = .ok (.iload 4, 2) := by decide +kernel
theorem dX3_readCode_50 : decode cX3_readCode 50 = .ok (.bipush (-9), 2) := by decide +kernel
theorem dX3_readCode_52 : decode cX3_readCode 52 = .ok (.if_icmp .eq 15, 3) := by decide +kernel
theorem dX3_readCode_55 : decode cX3_readCode 55 = .ok (.iload_n 2, 1) := by decide +kernel
theorem dX3_readCode_56 : decode cX3_readCode 56 = .ok (.iload 4, 2) := by decide +kernel
theorem dX3_readCode_58 : decode cX3_readCode 58 = .ok (.iload_n 3, 1) := by decide +kernel
theorem dX3_readCode_59 : decode cX3_readCode 59 = .ok (.invokestatic 74, 3) := by decide +kernel
theorem dX3_readCode_62 : decode cX3_readCode 62 = .ok (.ior, 1) := by decide +kernel
theorem dX3_readCode_63 : decode cX3_readCode 63 = .ok (.istore_n 2, 1) := by decide +kernel
theorem dX3_readCode_64 : decode cX3_readCode 64 = .ok (.iinc 1 1, 3) := by decide +kernel
theorem dX3_readCode_67 : decode cX3_readCode 67 = .ok (.iinc 3 1, 3) := by decide +kernel
theorem dX3_readCode_70 : decode cX3_readCode 70 = .ok (.goto (-43), 3) := by decide +kernel
theorem dX3_readCode_73 : decode cX3_readCode 73 = .ok (.iload_n 1, 1) := by decide +kernel
theorem dX3_readCode_74 : decode cX3_readCode 74 = .ok (.ifCond .eq 14, 3) := by decide +kernel
theorem dX3_readCode_77 : decode cX3_readCode 77 = .ok (.aload_n 0, 1) := by decide +kernel
theorem dX3_readCode_78 : decode cX3_readCode 78 = .ok (.getfield 18, 3) := by decide +kernel
theorem dX3_readCode_81 : decode cX3_readCode 81 = .ok (.iload_n 2, 1) := by decide +kernel
theorem dX3_readCode_82 : decode cX3_readCode 82 = .ok (.invokevirtual 78, 3) := by decide +kernel
theorem dX3_readCode_85 : decode cX3_readCode 85 = .ok (.ifCond .eq 5, 3) := by decide +kernel
theorem dX3_readCode_88 : decode cX3_readCode 88 = .ok (.iconst 0, 1) := by decide +kernel
theorem dX3_readCode_89 : decode cX3_readCode 89 = .ok (.ireturn, 1) := by decide +kernel
theorem dX3_readCode_90 : decode cX3_readCode 90 = .ok (.aload_n 0, 1) := by decide +kernel
theorem dX3_readCode_91 : decode cX3_readCode 91 = .ok (.getfield 18, 3) := by decide +kernel
theorem dX3_readCode_94 : decode cX3_readCode 94 = .ok (.iload_n 2, 1) := by decide +kernel
theorem dX3_readCode_95 : decode cX3_readCode 95 = .ok (.invokevirtual 82, 3) := by decide +kernel
theorem dX3_readCode_98 : decode cX3_readCode 98 = .ok (.iconst 1, 1) := by decide +kernel
theorem dX3_readCode_99 : decode cX3_readCode 99 = .ok (.ireturn, 1) := by decide +kernel
theorem dX3_take_0 : decode cX3_take 0 = .ok (.aload_n 0, 1) := by decide +kernel
theorem dX3_take_1 : decode cX3_take 1 = .ok (.getfield 9, 3) := by decide +kernel
theorem dX3_take_4 : decode cX3_take 4 = .ok (.getfield 34, 3) := by decide +kernel
theorem dX3_take_7 : decode cX3_take 7 = .ok (.iload_n 1, 1) := by decide +kernel
theorem dX3_take_8 : decode cX3_take 8 = .ok (.isub, 1) := by decide +kernel
theorem dX3_take_9 : decode cX3_take 9 = .ok (.istore 4, 2) := by decide +kernel
theorem dX3_take_11 : decode cX3_take 11 = .ok (.iload 4, 2) := by decide +kernel
theorem dX3_take_13 : decode cX3_take 13 = .ok (.iload_n 2, 1) := by decide +kernel
theorem dX3_take_14 : decode cX3_take 14 = .ok (.if_icmp .lt 9, 3) := by decide +kernel
theorem dX3_take_17 : decode cX3_take 17 = .ok (.iload 4, 2) := by decide +kernel
theorem dX3_take_19 : decode cX3_take 19 = .ok (.iload_n 3, 1) := by decide +kernel
theorem dX3_take_20 : decode cX3_take 20 = .ok (.if_icmp .le 6, 3) := by decide +kernel
theorem dX3_take_23 : decode cX3_take 23 = .ok (.bipush (-9), 2) := by decide +kernel
theorem dX3_take_25 : decode cX3_take 25 = .ok (.ireturn, 1) := by decide +kernel
theorem dX3_take_26 : decode cX3_take 26 = .ok (.aload_n 0, 1) := by decide +kernel
theorem dX3_take_27 : decode cX3_take 27 = .ok (.getfield 9, 3) := by decide +kernel
theorem dX3_take_30 : decode cX3_take 30 = .ok (.invokevirtual 58, 3) := by decide +kernel
theorem dX3_take_33 : decode cX3_take 33 = .ok (.iload 4, 2) := by decide +kernel
theorem dX3_take_35 : decode cX3_take 35 = .ok (.ireturn, 1) := by decide +kernel
theorem dX4_init_0 : decode cX4_init 0 = .ok (.aload_n 0, 1) := by decide +kernel
theorem dX4_init_1 : decode cX4_init 1 = .ok (.invokespecial 3, 3) := by decide +kernel
theorem dX4_init_4 : decode cX4_init 4 = .ok (.aload_n 0, 1) := by decide +kernel
theorem dX4_init_5 : decode cX4_init 5 = .ok (.bipush 7, 2) := by decide +kernel
theorem dX4_init_7 : decode cX4_init 7 = .ok (.newarray .int, 2) := by decide +kernel
theorem dX4_init_9 : decode cX4_init 9 = .ok (.putfield 9, 3) := by decide +kernel
theorem dX4_init_12 : decode cX4_init 12 = .ok (.aload_n 0, 1) := by decide +kernel
theorem dX4_init_13 : decode cX4_init 13 = .ok (.bipush 7, 2) := by decide +kernel
theorem dX4_init_15 : decode cX4_init 15 = .ok (.newarray .int, 2) := by decide +kernel
theorem dX4_init_17 : decode cX4_init 17 = .ok (.putfield 15, 3) := by decide +kernel
theorem dX4_init_20 : decode cX4_init 20 = .ok (.return_, 1) := by decide +kernel
theorem dX4_begin_0 : decode cX4_begin 0 = .ok (.aload_n 0, 1) := by decide +kernel
theorem dX4_begin_1 : decode cX4_begin 1 = .ok (.iconst 0, 1) := by decide +kernel
theorem dX4_begin_2 : decode cX4_begin 2 = .ok (.putfield 18, 3) := by decide +kernel
theorem dX4_begin_5 : decode cX4_begin 5 = .ok (.aload_n 0, 1) := by decide +kernel
theorem dX4_begin_6 : decode cX4_begin 6 = .ok (.iconst 0, 1) := by decide +kernel
theorem dX4_begin_7 : decode cX4_begin 7 = .ok (.putfield 22, 3) := by decide +kernel
theorem dX4_begin_10 : decode cX4_begin 10 = .ok (.aload_n 0, 1) := by decide +kernel
theorem dX4_begin_11 : decode cX4_begin 11 = .ok (.iconst 0, 1) := by decide +kernel
theorem dX4_begin_12 : decode cX4_begin 12 = .ok (.putfield 25, 3) := by decide +kernel
theorem dX4_begin_15 : decode cX4_begin 15 = .ok (.aload_n 0, 1) := by decide +kernel
theorem dX4_begin_16 : decode cX4_begin 16 = .ok (.iconst 0, 1) := by decide +kernel
theorem dX4_begin_17 : decode cX4_begin 17 = .ok (.putfield 28, 3) := by decide +kernel
theorem dX4_begin_20 : decode cX4_begin 20 = .ok (.aload_n 0, 1) := by decide +kernel
theorem dX4_begin_21 : decode cX4_begin 21 = .ok (.iload_n 1, 1) := by decide +kernel
theorem dX4_begin_22 : decode cX4_begin 22 = .ok (.bipush 7, 2) := by decide +kernel
theorem dX4_begin_24 : decode cX4_begin 24 = .ok (.invokestatic 31, 3) := by decide +kernel
theorem dX4_begin_27 : decode cX4_begin 27 = .ok (.putfield 37, 3) := by decide +kernel
theorem dX4_begin_30 : decode cX4_begin 30 = .ok (.return_, 1) := by decide +kernel
theorem dX4_addCode_0 : decode cX4_addCode 0 = .ok (.aload_n 0, 1) := by decide +kernel
theorem dX4_addCode_1 : decode cX4_addCode 1 = .ok (.getfield 18, 3) := by decide +kernel
theorem dX4_addCode_4 : decode cX4_addCode 4 = .ok (.ifCond .le 14, 3) := by decide +kernel
theorem dX4_addCode_7 : decode cX4_addCode 7 = .ok (.aload_n 0, 1) := by decide +kernel
theorem dX4_addCode_8 : decode cX4_addCode 8 = .ok (.bipush 20, 2) := by decide +kernel
theorem dX4_addCode_10 : decode cX4_addCode 10 = .ok (.invokevirtual 40, 3) := by decide +kernel
theorem dX4_addCode_13 : decode cX4_addCode 13 = .ok (.ifCond .ne 5, 3) := by decide +kernel
theorem dX4_addCode_16 : decode cX4_addCode 16 = .ok (.iconst 0, 1) := by decide +kernel
theorem dX4_addCode_17 : decode cX4_addCode 17 = .ok (.ireturn, 1) := by decide +kernel
theorem dX4_addCode_18 : decode cX4_addCode 18 = .ok (.iconst 0, 1) := by decide +kernel
theorem dX4_addCode_19 : decode cX4_addCode 19 = .ok (.istore_n 3, 1) := by decide +kernel
theorem dX4_addCode_20 : decode cX4_addCode 20 = .ok (.iload_n 3, 1) := by decide +kernel
theorem dX4_addCode_21 : decode cX4_addCode 21 = .ok (.iconst 4, 1) := by decide +kernel
theorem dX4_addCode_22 : decode cX4_addCode 22 = .ok (.if_icmp .ge 35, 3) := by decide +kernel
theorem dX4_addCode_25 : decode cX4_addCode 25 = .ok (.aload_n 1, 1) := by decide +kernel
theorem dX4_addCode_26 : decode cX4_addCode 26 = .ok (.iload_n 2, 1) := by decide +kernel
theorem dX4_addCode_27 : decode cX4_addCode 27 = .ok (.iload_n 3, 1) := by decide +kernel
theorem dX4_addCode_28 : decode cX4_addCode 28 = .ok (.invokevirtual 44, 3) := by decide +kernel
theorem dX4_addCode_31 : decode cX4_addCode 31 = .ok (.istore 4, 2) := by decide +kernel
theorem dX4_addCode_33 : decode cX4_addCode 33 = .ok (.iload 4, 2) := by decide +kernel
theorem dX4_addCode_35 : decode cX4_addCode 35 = .ok (.bipush (-9), 2) := by decide +kernel
theorem dX4_addCode_37 : decode cX4_addCode 37 = .ok (.if_icmp .eq 14, 3) := by decide +kernel
theorem dX4_addCode_40 : decode cX4_addCode 40 = .ok (.aload_n 0, 1) := by decide +kernel
theorem dX4_addCode_41 : decode cX4_addCode 41 = .ok (.iload 4, 2) := by decide +kernel
theorem dX4_addCode_43 : decode cX4_addCode 43 = .ok (.invokevirtual 49, 3) := by decide +kernel
theorem dX4_addCode_46 : decode cX4_addCode 46 = .ok (.ifCond .ne 5, 3) := by decide +kernel
theorem dX4_addCode_49 : decode cX4_addCode 49 = .ok (.iconst 0, 1) := by decide +kernel
theorem dX4_addCode_50 : decode cX4_addCode 50 = .ok (.ireturn, 1) := by decide +kernel
theorem dX4_addCode_51 : decode cX4_addCode 51 = .ok (.iinc 3 1, 3) := by decide +kernel
theorem dX4_addCode_54 : decode cX4_addCode 54 = .ok (.goto (-34), 3) := by decide +kernel
theorem dX4_addCode_57 : decode cX4_addCode 57 = .ok (.iconst 1, 1) := by decide +kernel
theorem dX4_addCode_58 : decode cX4_addCode 58 = .ok (.ireturn, 1) := by decide +kernel
theorem dX4_addLetter_0 : decode cX4_addLetter 0 = .ok (.iload_n 1, 1) := by decide +kernel
theorem dX4_addLetter_1 : decode cX4_addLetter 1 = .ok (.istore_n 2, 1) := by decide +kernel
theorem dX4_addLetter_2 : decode cX4_addLetter 2 = .ok (.aload_n 0, 1) := by decide +kernel
theorem dX4_addLetter_3 : decode cX4_addLetter 3 = .ok (.iload_n 1, 1) := by decide +kernel
theorem dX4_addLetter_4 : decode cX4_addLetter 4 = .ok (.invokevirtual 52, 3) := by decide +kernel
theorem dX4_addLetter_7 : decode cX4_addLetter 7 = .ok (.ifCond .eq 44, 3) := by decide +kernel
theorem dX4_addLetter_10 : decode cX4_addLetter 10 = .ok (.aload_n 0, 1) := by decide +kernel
theorem dX4_addLetter_11 : decode cX4_addLetter 11 = .ok (.iload_n 1, 1) := by decide +kernel
theorem dX4_addLetter_12 : decode cX4_addLetter 12 = .ok (.invokevirtual 55, 3) := by decide +kernel
theorem dX4_addLetter_15 : decode cX4_addLetter 15 = .ok (.istore_n 3, 1) := by decide +kernel
theorem dX4_addLetter_16 : decode cX4_addLetter 16 = .ok (.iload_n 3, 1) := by decide +kernel
theorem dX4_addLetter_17 : decode cX4_addLetter 17 = .ok (.bipush (-9), 2) := by decide +kernel
theorem dX4_addLetter_19 : decode cX4_addLetter 19 = .ok (.if_icmp .ne 5, 3) := by decide +kernel
theorem dX4_addLetter_22 : decode cX4_addLetter 22 = .ok (.iconst 0, 1) := by decide +kernel
theorem dX4_addLetter_23 : decode cX4_addLetter 23 = .ok (.ireturn, 1) := by decide +kernel
theorem dX4_addLetter_24 : decode cX4_addLetter 24 = .ok (.aload_n 0, 1) := by decide +kernel
theorem dX4_addLetter_25 : decode cX4_addLetter 25 = .ok (.dup, 1) := by decide +kernel
theorem dX4_addLetter_26 : decode cX4_addLetter 26 = .ok (.getfield 28, 3) := by decide +kernel
theorem dX4_addLetter_29 : decode cX4_addLetter 29 = .ok (.iconst 1, 1) := by decide +kernel
theorem dX4_addLetter_30 : decode cX4_addLetter 30 = .ok (.iload_n 3, 1) := by decide +kernel
theorem dX4_addLetter_31 : decode cX4_addLetter 31 = .ok (.ishl, 1) := by decide +kernel
theorem dX4_addLetter_32 : decode cX4_addLetter 32 = .ok (.ior, 1) := by decide +kernel
theorem dX4_addLetter_33 : decode cX4_addLetter 33 = .ok (.putfield 28, 3) := by decide +kernel
theorem dX4_addLetter_36 : decode cX4_addLetter 36 = .ok (.aload_n 0, 1) := by decide +kernel
theorem dX4_addLetter_37 : decode cX4_addLetter 37 = .ok (.dup, 1) := by decide +kernel
theorem dX4_addLetter_38 : decode cX4_addLetter 38 = .ok (.getfield 22, 3) := by decide +kernel
theorem dX4_addLetter_41 : decode cX4_addLetter 41 = .ok (.iconst 1, 1) := by decide +kernel
theorem dX4_addLetter_42 : decode cX4_addLetter 42 = .ok (.iadd, 1) := by decide +kernel
theorem dX4_addLetter_43 : decode cX4_addLetter 43 = .ok (.putfield 22, 3) := by decide +kernel
theorem dX4_addLetter_46 : decode cX4_addLetter 46 = .ok (.bipush 10, 2) := by decide +kernel
theorem dX4_addLetter_48 : decode cX4_addLetter 48 = .ok (.iload_n 3, 1) := by decide +kernel
theorem dX4_addLetter_49 : decode cX4_addLetter 49 = .ok (.iadd, 1) := by decide +kernel
theorem dX4_addLetter_50 : decode cX4_addLetter 50 = .ok (.istore_n 2, 1) := by decide +kernel
theorem dX4_addLetter_51 : decode cX4_addLetter 51 = .ok (.aload_n 0, 1) := by decide +kernel
theorem dX4_addLetter_52 : decode cX4_addLetter 52 = .ok (.iload_n 2, 1) := by decide +kernel
theorem dX4_addLetter_53 : decode cX4_addLetter 53 = .ok (.invokevirtual 40, 3) := by decide +kernel
theorem dX4_addLetter_56 : decode cX4_addLetter 56 = .ok (.ifCond .ne 5, 3) := by decide +kernel
theorem dX4_addLetter_59 : decode cX4_addLetter 59 = .ok (.iconst 0, 1) := by decide +kernel
theorem dX4_addLetter_60 : decode cX4_addLetter 60 = .ok (.ireturn, 1) := by decide +kernel
theorem dX4_addLetter_61 : decode cX4_addLetter 61 = .ok (.aload_n 0, 1) := by decide +kernel
theorem dX4_addLetter_62 : decode cX4_addLetter 62 = .ok (.getfield 15, 3) := by decide +kernel
theorem dX4_addLetter_65 : decode cX4_addLetter 65 = .ok (.aload_n 0, 1) := by decide +kernel
theorem dX4_addLetter_66 : decode cX4_addLetter 66 = .ok (.getfield 25, 3) := by decide +kernel
theorem dX4_addLetter_69 : decode cX4_addLetter 69 = .ok (.iload_n 1, 1) := by decide +kernel
theorem dX4_addLetter_70 : decode cX4_addLetter 70 = .ok (.iastore, 1) := by decide +kernel
theorem dX4_addLetter_71 : decode cX4_addLetter 71 = .ok (.aload_n 0, 1) := by decide +kernel
theorem dX4_addLetter_72 : decode cX4_addLetter 72 = .ok (.dup, 1) := by decide +kernel
theorem dX4_addLetter_73 : decode cX4_addLetter 73 = .ok (.getfield 25, 3) := by decide +kernel
theorem dX4_addLetter_76 : decode cX4_addLetter 76 = .ok (.iconst 1, 1) := by decide +kernel
theorem dX4_addLetter_77 : decode cX4_addLetter 77 = .ok (.iadd, 1) := by decide +kernel
theorem dX4_addLetter_78 : decode cX4_addLetter 78 = .ok (.putfield 25, 3) := by decide +kernel
theorem dX4_addLetter_81 : decode cX4_addLetter 81 = .ok (.iconst 1, 1) := by decide +kernel
theorem dX4_addLetter_82 : decode cX4_addLetter 82 = .ok (.ireturn, 1) := by decide +kernel
theorem dX4_isThere_0 : decode cX4_isThere 0 = .ok (.iconst 0, 1) := by decide +kernel
theorem dX4_isThere_1 : decode cX4_isThere 1 = .ok (.istore_n 2, 1) := by decide +kernel
theorem dX4_isThere_2 : decode cX4_isThere 2 = .ok (.iload_n 2, 1) := by decide +kernel
theorem dX4_isThere_3 : decode cX4_isThere 3 = .ok (.aload_n 0, 1) := by decide +kernel
theorem dX4_isThere_4 : decode cX4_isThere 4 = .ok (.getfield 25, 3) := by decide +kernel
theorem dX4_isThere_7 : decode cX4_isThere 7 = .ok (.if_icmp .ge 21, 3) := by decide +kernel
theorem dX4_isThere_10 : decode cX4_isThere 10 = .ok (.aload_n 0, 1) := by decide +kernel
theorem dX4_isThere_11 : decode cX4_isThere 11 = .ok (.getfield 15, 3) := by decide +kernel
theorem dX4_isThere_14 : decode cX4_isThere 14 = .ok (.iload_n 2, 1) := by decide +kernel
theorem dX4_isThere_15 : decode cX4_isThere 15 = .ok (.iaload, 1) := by decide +kernel
theorem dX4_isThere_16 : decode cX4_isThere 16 = .ok (.iload_n 1, 1) := by decide +kernel
theorem dX4_isThere_17 : decode cX4_isThere 17 = .ok (.if_icmp .ne 5, 3) := by decide +kernel
theorem dX4_isThere_20 : decode cX4_isThere 20 = .ok (.iconst 1, 1) := by decide +kernel
theorem dX4_isThere_21 : decode cX4_isThere 21 = .ok (.ireturn, 1) := by decide +kernel
theorem dX4_isThere_22 : decode cX4_isThere 22 = .ok (.iinc 2 1, 3) := by decide +kernel
theorem dX4_isThere_25 : decode cX4_isThere 25 = .ok (.goto (-23), 3) := by decide +kernel
theorem dX4_isThere_28 : decode cX4_isThere 28 = .ok (.iconst 0, 1) := by decide +kernel
theorem dX4_isThere_29 : decode cX4_isThere 29 = .ok (.ireturn, 1) := by decide +kernel
theorem dX4_freeSubstitute_0 : decode cX4_freeSubstitute 0 = .ok (.iconst 1, 1) := by decide +kernel
theorem dX4_freeSubstitute_1 : decode cX4_freeSubstitute 1 = .ok (.istore_n 2, 1) := by decide +kernel
theorem dX4_freeSubstitute_2 : decode cX4_freeSubstitute 2 = .ok (.iload_n 2, 1) := by decide +kernel
theorem dX4_freeSubstitute_3 : decode cX4_freeSubstitute 3 = .ok (.iconst 3, 1) := by decide +kernel
theorem dX4_freeSubstitute_4 : decode cX4_freeSubstitute 4 = .ok (.if_icmp .gt 52, 3) := by decide +kernel
theorem dX4_freeSubstitute_7 : decode cX4_freeSubstitute 7 = .ok (.iload_n 2, 1) := by decide +kernel
theorem dX4_freeSubstitute_8 : decode cX4_freeSubstitute 8 = .ok (.aload_n 0, 1) := by decide +kernel
theorem dX4_freeSubstitute_9 : decode cX4_freeSubstitute 9 = .ok (.getfield 25, 3) := by decide +kernel
theorem dX4_freeSubstitute_12 : decode cX4_freeSubstitute 12 = .ok (.if_icmp .gt 44, 3) := by decide +kernel
theorem dX4_freeSubstitute_15 : decode cX4_freeSubstitute 15 = .ok (.aload_n 0, 1) := by decide +kernel
theorem dX4_freeSubstitute_16 : decode cX4_freeSubstitute 16 = .ok (.getfield 28, 3) := by decide +kernel
theorem dX4_freeSubstitute_19 : decode cX4_freeSubstitute 19 = .ok (.iconst 1, 1) := by decide +kernel
theorem dX4_freeSubstitute_20 : decode cX4_freeSubstitute 20 = .ok (.iload_n 2, 1) := by decide +kernel
theorem dX4_freeSubstitute_21 : decode cX4_freeSubstitute 21 = .ok (.ishl, 1) := by decide +kernel
theorem dX4_freeSubstitute_22 : decode cX4_freeSubstitute 22 = .ok (.iand, 1) := by decide +kernel
theorem dX4_freeSubstitute_23 : decode cX4_freeSubstitute 23 = .ok (.ifCond .ne 7, 3) := by decide +kernel
theorem dX4_freeSubstitute_26 : decode cX4_freeSubstitute 26 = .ok (.iconst 1, 1) := by decide +kernel
theorem dX4_freeSubstitute_27 : decode cX4_freeSubstitute 27 = .ok (.goto 4, 3) := by decide +kernel
theorem dX4_freeSubstitute_30 : decode cX4_freeSubstitute 30 = .ok (.iconst 0, 1) := by decide +kernel
theorem dX4_freeSubstitute_31 : decode cX4_freeSubstitute 31 = .ok (.istore_n 3, 1) := by decide +kernel
theorem dX4_freeSubstitute_32 : decode cX4_freeSubstitute 32 = .ok (.iload_n 3, 1) := by decide +kernel
theorem dX4_freeSubstitute_33 : decode cX4_freeSubstitute 33 = .ok (.ifCond .eq 17, 3) := by decide +kernel
theorem dX4_freeSubstitute_36 : decode cX4_freeSubstitute 36 = .ok (.aload_n 0, 1) := by decide +kernel
theorem dX4_freeSubstitute_37 : decode cX4_freeSubstitute 37 = .ok (.getfield 15, 3) := by decide +kernel
theorem dX4_freeSubstitute_40 : decode cX4_freeSubstitute 40 = .ok (.iload_n 2, 1) := by decide +kernel
theorem dX4_freeSubstitute_41 : decode cX4_freeSubstitute 41 = .ok (.iconst 1, 1) := by decide +kernel
theorem dX4_freeSubstitute_42 : decode cX4_freeSubstitute 42 = .ok (.isub, 1) := by decide +kernel
theorem dX4_freeSubstitute_43 : decode cX4_freeSubstitute 43 = .ok (.iaload, 1) := by decide +kernel
theorem dX4_freeSubstitute_44 : decode cX4_freeSubstitute 44 = .ok (.iload_n 1, 1) := by decide +kernel
theorem dX4_freeSubstitute_45 : decode cX4_freeSubstitute 45 = .ok (.if_icmp .ne 5, 3) := by decide +kernel
theorem dX4_freeSubstitute_48 : decode cX4_freeSubstitute 48 = .ok (.iload_n 2, 1) := by decide +kernel
theorem dX4_freeSubstitute_49 : decode cX4_freeSubstitute 49 = .ok (.ireturn, 1) := by decide +kernel
theorem dX4_freeSubstitute_50 : decode cX4_freeSubstitute 50 = .ok (.iinc 2 1, 3) := by decide +kernel
theorem dX4_freeSubstitute_53 : decode cX4_freeSubstitute 53 = .ok (.goto (-51), 3) := by decide +kernel
theorem dX4_freeSubstitute_56 : decode cX4_freeSubstitute 56 = .ok (.bipush (-9), 2) := by decide +kernel
theorem dX4_freeSubstitute_58 : decode cX4_freeSubstitute 58 = .ok (.ireturn, 1) := by decide +kernel
theorem dX4_addThing_0 : decode cX4_addThing 0 = .ok (.aload_n 0, 1) := by decide +kernel
theorem dX4_addThing_1 : decode cX4_addThing 1 = .ok (.getfield 18, 3) := by decide +kernel
theorem dX4_addThing_4 : decode cX4_addThing 4 = .ok (.aload_n 0, 1) := by decide +kernel
theorem dX4_addThing_5 : decode cX4_addThing 5 = .ok (.getfield 37, 3) := by decide +kernel
theorem dX4_addThing_8 : decode cX4_addThing 8 = .ok (.if_icmp .lt 5, 3) := by decide +kernel
theorem dX4_addThing_11 : decode cX4_addThing 11 = .ok (.iconst 0, 1) := by decide +kernel
theorem dX4_addThing_12 : decode cX4_addThing 12 = .ok (.ireturn, 1) := by decide +kernel
theorem dX4_addThing_13 : decode cX4_addThing 13 = .ok (.aload_n 0, 1) := by decide +kernel
theorem dX4_addThing_14 : decode cX4_addThing 14 = .ok (.getfield 9, 3) := by decide +kernel
theorem dX4_addThing_17 : decode cX4_addThing 17 = .ok (.aload_n 0, 1) := by decide +kernel
theorem dX4_addThing_18 : decode cX4_addThing 18 = .ok (.getfield 18, 3) := by decide +kernel
theorem dX4_addThing_21 : decode cX4_addThing 21 = .ok (.iload_n 1, 1) := by decide +kernel
theorem dX4_addThing_22 : decode cX4_addThing 22 = .ok (.iastore, 1) := by decide +kernel
theorem dX4_addThing_23 : decode cX4_addThing 23 = .ok (.aload_n 0, 1) := by decide +kernel
theorem dX4_addThing_24 : decode cX4_addThing 24 = .ok (.dup, 1) := by decide +kernel
theorem dX4_addThing_25 : decode cX4_addThing 25 = .ok (.getfield 18, 3) := by decide +kernel
theorem dX4_addThing_28 : decode cX4_addThing 28 = .ok (.iconst 1, 1) := by decide +kernel
theorem dX4_addThing_29 : decode cX4_addThing 29 = .ok (.iadd, 1) := by decide +kernel
theorem dX4_addThing_30 : decode cX4_addThing 30 = .ok (.putfield 18, 3) := by decide +kernel
theorem dX4_addThing_33 : decode cX4_addThing 33 = .ok (.iconst 1, 1) := by decide +kernel
theorem dX4_addThing_34 : decode cX4_addThing 34 = .ok (.ireturn, 1) := by decide +kernel
theorem dX5_init_0 : decode cX5_init 0 = .ok (.aload_n 0, 1) := by decide +kernel
theorem dX5_init_1 : decode cX5_init 1 = .ok (.invokespecial 3, 3) := by decide +kernel
theorem dX5_init_4 : decode cX5_init 4 = .ok (.aload_n 0, 1) := by decide +kernel
theorem dX5_init_5 : decode cX5_init 5 = .ok (.bipush 6, 2) := by decide +kernel
theorem dX5_init_7 : decode cX5_init 7 = .ok (.newarray .int, 2) := by decide +kernel
theorem dX5_init_9 : decode cX5_init 9 = .ok (.putfield 9, 3) := by decide +kernel
theorem dX5_init_12 : decode cX5_init 12 = .ok (.aload_n 0, 1) := by decide +kernel
theorem dX5_init_13 : decode cX5_init 13 = .ok (.bipush 6, 2) := by decide +kernel
theorem dX5_init_15 : decode cX5_init 15 = .ok (.newarray .int, 2) := by decide +kernel
theorem dX5_init_17 : decode cX5_init 17 = .ok (.putfield 15, 3) := by decide +kernel
theorem dX5_init_20 : decode cX5_init 20 = .ok (.return_, 1) := by decide +kernel
theorem dX5_note_0 : decode cX5_note 0 = .ok (.aload_n 0, 1) := by decide +kernel
theorem dX5_note_1 : decode cX5_note 1 = .ok (.getfield 18, 3) := by decide +kernel
theorem dX5_note_4 : decode cX5_note 4 = .ok (.bipush 6, 2) := by decide +kernel
theorem dX5_note_6 : decode cX5_note 6 = .ok (.if_icmp .ge 33, 3) := by decide +kernel
theorem dX5_note_9 : decode cX5_note 9 = .ok (.aload_n 0, 1) := by decide +kernel
theorem dX5_note_10 : decode cX5_note 10 = .ok (.getfield 9, 3) := by decide +kernel
theorem dX5_note_13 : decode cX5_note 13 = .ok (.aload_n 0, 1) := by decide +kernel
theorem dX5_note_14 : decode cX5_note 14 = .ok (.getfield 18, 3) := by decide +kernel
theorem dX5_note_17 : decode cX5_note 17 = .ok (.iload_n 1, 1) := by decide +kernel
theorem dX5_note_18 : decode cX5_note 18 = .ok (.iastore, 1) := by decide +kernel
theorem dX5_note_19 : decode cX5_note 19 = .ok (.aload_n 0, 1) := by decide +kernel
theorem dX5_note_20 : decode cX5_note 20 = .ok (.getfield 15, 3) := by decide +kernel
theorem dX5_note_23 : decode cX5_note 23 = .ok (.aload_n 0, 1) := by decide +kernel
theorem dX5_note_24 : decode cX5_note 24 = .ok (.getfield 18, 3) := by decide +kernel
theorem dX5_note_27 : decode cX5_note 27 = .ok (.iload_n 2, 1) := by decide +kernel
theorem dX5_note_28 : decode cX5_note 28 = .ok (.iastore, 1) := by decide +kernel
theorem dX5_note_29 : decode cX5_note 29 = .ok (.aload_n 0, 1) := by decide +kernel
theorem dX5_note_30 : decode cX5_note 30 = .ok (.dup, 1) := by decide +kernel
theorem dX5_note_31 : decode cX5_note 31 = .ok (.getfield 18, 3) := by decide +kernel
theorem dX5_note_34 : decode cX5_note 34 = .ok (.iconst 1, 1) := by decide +kernel
theorem dX5_note_35 : decode cX5_note 35 = .ok (.iadd, 1) := by decide +kernel
theorem dX5_note_36 : decode cX5_note 36 = .ok (.putfield 18, 3) := by decide +kernel
theorem dX5_note_39 : decode cX5_note 39 = .ok (.return_, 1) := by decide +kernel
theorem dX5_allFit_0 : decode cX5_allFit 0 = .ok (.iconst 0, 1) := by decide +kernel
theorem dX5_allFit_1 : decode cX5_allFit 1 = .ok (.istore_n 2, 1) := by decide +kernel
theorem dX5_allFit_2 : decode cX5_allFit 2 = .ok (.iload_n 2, 1) := by decide +kernel
theorem dX5_allFit_3 : decode cX5_allFit 3 = .ok (.aload_n 0, 1) := by decide +kernel
theorem dX5_allFit_4 : decode cX5_allFit 4 = .ok (.getfield 18, 3) := by decide +kernel
theorem dX5_allFit_7 : decode cX5_allFit 7 = .ok (.if_icmp .ge 30, 3) := by decide +kernel
theorem dX5_allFit_10 : decode cX5_allFit 10 = .ok (.aload_n 1, 1) := by decide +kernel
theorem dX5_allFit_11 : decode cX5_allFit 11 = .ok (.aload_n 0, 1) := by decide +kernel
theorem dX5_allFit_12 : decode cX5_allFit 12 = .ok (.getfield 9, 3) := by decide +kernel
theorem dX5_allFit_15 : decode cX5_allFit 15 = .ok (.iload_n 2, 1) := by decide +kernel
theorem dX5_allFit_16 : decode cX5_allFit 16 = .ok (.iaload, 1) := by decide +kernel
theorem dX5_allFit_17 : decode cX5_allFit 17 = .ok (.invokevirtual 22, 3) := by decide +kernel
theorem dX5_allFit_20 : decode cX5_allFit 20 = .ok (.aload_n 0, 1) := by decide +kernel
theorem dX5_allFit_21 : decode cX5_allFit 21 = .ok (.getfield 15, 3) := by decide +kernel
theorem dX5_allFit_24 : decode cX5_allFit 24 = .ok (.iload_n 2, 1) := by decide +kernel
theorem dX5_allFit_25 : decode cX5_allFit 25 = .ok (.iaload, 1) := by decide +kernel
theorem dX5_allFit_26 : decode cX5_allFit 26 = .ok (.if_icmp .eq 5, 3) := by decide +kernel
theorem dX5_allFit_29 : decode cX5_allFit 29 = .ok (.iconst 0, 1) := by decide +kernel
theorem dX5_allFit_30 : decode cX5_allFit 30 = .ok (.ireturn, 1) := by decide +kernel
theorem dX5_allFit_31 : decode cX5_allFit 31 = .ok (.iinc 2 1, 3) := by decide +kernel
theorem dX5_allFit_34 : decode cX5_allFit 34 = .ok (.goto (-32), 3) := by decide +kernel
theorem dX5_allFit_37 : decode cX5_allFit 37 = .ok (.iconst 1, 1) := by decide +kernel
theorem dX5_allFit_38 : decode cX5_allFit 38 = .ok (.ireturn, 1) := by decide +kernel
theorem dX6_init_0 : decode cX6_init 0 = .ok (.aload_n 0, 1) := by decide +kernel
theorem dX6_init_1 : decode cX6_init 1 = .ok (.invokespecial 3, 3) := by decide +kernel
theorem dX6_init_4 : decode cX6_init 4 = .ok (.aload_n 0, 1) := by decide +kernel
theorem dX6_init_5 : decode cX6_init 5 = .ok (.bipush 8, 2) := by decide +kernel
theorem dX6_init_7 : decode cX6_init 7 = .ok (.newarray .int, 2) := by decide +kernel
theorem dX6_init_9 : decode cX6_init 9 = .ok (.putfield 9, 3) := by decide +kernel
theorem dX6_init_12 : decode cX6_init 12 = .ok (.return_, 1) := by decide +kernel
theorem dX6_begin_0 : decode cX6_begin 0 = .ok (.aload_n 0, 1) := by decide +kernel
theorem dX6_begin_1 : decode cX6_begin 1 = .ok (.iconst 0, 1) := by decide +kernel
theorem dX6_begin_2 : decode cX6_begin 2 = .ok (.putfield 15, 3) := by decide +kernel
theorem dX6_begin_5 : decode cX6_begin 5 = .ok (.aload_n 0, 1) := by decide +kernel
theorem dX6_begin_6 : decode cX6_begin 6 = .ok (.iload_n 1, 1) := by decide +kernel
theorem dX6_begin_7 : decode cX6_begin 7 = .ok (.putfield 19, 3) := by decide +kernel
theorem dX6_begin_10 : decode cX6_begin 10 = .ok (.aload_n 0, 1) := by decide +kernel
theorem dX6_begin_11 : decode cX6_begin 11 = .ok (.invokevirtual 22, 3) := by decide +kernel
theorem dX6_begin_14 : decode cX6_begin 14 = .ok (.return_, 1) := by decide +kernel
theorem dX6_nothingSent_0 : decode cX6_nothingSent 0 = .ok (.aload_n 0, 1) := by decide +kernel
theorem dX6_nothingSent_1 : decode cX6_nothingSent 1 = .ok (.iconst 0, 1) := by decide +kernel
theorem dX6_nothingSent_2 : decode cX6_nothingSent 2 = .ok (.putfield 25, 3) := by decide +kernel
theorem dX6_nothingSent_5 : decode cX6_nothingSent 5 = .ok (.aload_n 0, 1) := by decide +kernel
theorem dX6_nothingSent_6 : decode cX6_nothingSent 6 = .ok (.iconst 0, 1) := by decide +kernel
theorem dX6_nothingSent_7 : decode cX6_nothingSent 7 = .ok (.putfield 28, 3) := by decide +kernel
theorem dX6_nothingSent_10 : decode cX6_nothingSent 10 = .ok (.return_, 1) := by decide +kernel
theorem dX6_isUp_0 : decode cX6_isUp 0 = .ok (.aload_n 0, 1) := by decide +kernel
theorem dX6_isUp_1 : decode cX6_isUp 1 = .ok (.getfield 28, 3) := by decide +kernel
theorem dX6_isUp_4 : decode cX6_isUp 4 = .ok (.ifCond .le 7, 3) := by decide +kernel
theorem dX6_isUp_7 : decode cX6_isUp 7 = .ok (.iconst 1, 1) := by decide +kernel
theorem dX6_isUp_8 : decode cX6_isUp 8 = .ok (.goto 4, 3) := by decide +kernel
theorem dX6_isUp_11 : decode cX6_isUp 11 = .ok (.iconst 0, 1) := by decide +kernel
theorem dX6_isUp_12 : decode cX6_isUp 12 = .ok (.ireturn, 1) := by decide +kernel
theorem dX6_hasPlace_0 : decode cX6_hasPlace 0 = .ok (.iload_n 1, 1) := by decide +kernel
theorem dX6_hasPlace_1 : decode cX6_hasPlace 1 = .ok (.ifCond .lt 15, 3) := by decide +kernel
theorem dX6_hasPlace_4 : decode cX6_hasPlace 4 = .ok (.iload_n 1, 1) := by decide +kernel
theorem dX6_hasPlace_5 : decode cX6_hasPlace 5 = .ok (.aload_n 0, 1) := by decide +kernel
theorem dX6_hasPlace_6 : decode cX6_hasPlace 6 = .ok (.getfield 15, 3) := by decide +kernel
theorem dX6_hasPlace_9 : decode cX6_hasPlace 9 = .ok (.if_icmp .ge 7, 3) := by decide +kernel
theorem dX6_hasPlace_12 : decode cX6_hasPlace 12 = .ok (.iconst 1, 1) := by decide +kernel
theorem dX6_hasPlace_13 : decode cX6_hasPlace 13 = .ok (.goto 4, 3) := by decide +kernel
theorem dX6_hasPlace_16 : decode cX6_hasPlace 16 = .ok (.iconst 0, 1) := by decide +kernel
theorem dX6_hasPlace_17 : decode cX6_hasPlace 17 = .ok (.ireturn, 1) := by decide +kernel
theorem dX6_insert_0 : decode cX6_insert 0 = .ok (.iload_n 1, 1) := by decide +kernel
theorem dX6_insert_1 : decode cX6_insert 1 = .ok (.ifCond .lt 20, 3) := by decide +kernel
theorem dX6_insert_4 : decode cX6_insert 4 = .ok (.iload_n 1, 1) := by decide +kernel
theorem dX6_insert_5 : decode cX6_insert 5 = .ok (.aload_n 0, 1) := by decide +kernel
theorem dX6_insert_6 : decode cX6_insert 6 = .ok (.getfield 15, 3) := by decide +kernel
theorem dX6_insert_9 : decode cX6_insert 9 = .ok (.if_icmp .gt 12, 3) := by decide +kernel
theorem dX6_insert_12 : decode cX6_insert 12 = .ok (.aload_n 0, 1) := by decide +kernel
theorem dX6_insert_13 : decode cX6_insert 13 = .ok (.getfield 15, 3) := by decide +kernel
theorem dX6_insert_16 : decode cX6_insert 16 = .ok (.bipush 8, 2) := by decide +kernel
theorem dX6_insert_18 : decode cX6_insert 18 = .ok (.if_icmp .lt 4, 3) := by decide +kernel
theorem dX6_insert_21 : decode cX6_insert 21 = .ok (.return_, 1) := by decide +kernel
theorem dX6_insert_22 : decode cX6_insert 22 = .ok (.aload_n 0, 1) := by decide +kernel
theorem dX6_insert_23 : decode cX6_insert 23 = .ok (.getfield 15, 3) := by decide +kernel
theorem dX6_insert_26 : decode cX6_insert 26 = .ok (.istore_n 3, 1) := by decide +kernel
theorem dX6_insert_27 : decode cX6_insert 27 = .ok (.iload_n 3, 1) := by decide +kernel
theorem dX6_insert_28 : decode cX6_insert 28 = .ok (.iload_n 1, 1) := by decide +kernel
theorem dX6_insert_29 : decode cX6_insert 29 = .ok (.if_icmp .le 23, 3) := by decide +kernel
theorem dX6_insert_32 : decode cX6_insert 32 = .ok (.aload_n 0, 1) := by decide +kernel
theorem dX6_insert_33 : decode cX6_insert 33 = .ok (.getfield 9, 3) := by decide +kernel
theorem dX6_insert_36 : decode cX6_insert 36 = .ok (.iload_n 3, 1) := by decide +kernel
theorem dX6_insert_37 : decode cX6_insert 37 = .ok (.aload_n 0, 1) := by decide +kernel
theorem dX6_insert_38 : decode cX6_insert 38 = .ok (.getfield 9, 3) := by decide +kernel
theorem dX6_insert_41 : decode cX6_insert 41 = .ok (.iload_n 3, 1) := by decide +kernel
theorem dX6_insert_42 : decode cX6_insert 42 = .ok (.iconst 1, 1) := by decide +kernel
theorem dX6_insert_43 : decode cX6_insert 43 = .ok (.isub, 1) := by decide +kernel
theorem dX6_insert_44 : decode cX6_insert 44 = .ok (.iaload, 1) := by decide +kernel
theorem dX6_insert_45 : decode cX6_insert 45 = .ok (.iastore, 1) := by decide +kernel
theorem dX6_insert_46 : decode cX6_insert 46 = .ok (.iinc 3 (-1), 3) := by decide +kernel
theorem dX6_insert_49 : decode cX6_insert 49 = .ok (.goto (-22), 3) := by decide +kernel
theorem dX6_insert_52 : decode cX6_insert 52 = .ok (.aload_n 0, 1) := by decide +kernel
theorem dX6_insert_53 : decode cX6_insert 53 = .ok (.getfield 9, 3) := by decide +kernel
theorem dX6_insert_56 : decode cX6_insert 56 = .ok (.iload_n 1, 1) := by decide +kernel
theorem dX6_insert_57 : decode cX6_insert 57 = .ok (.iload_n 2, 1) := by decide +kernel
theorem dX6_insert_58 : decode cX6_insert 58 = .ok (.iastore, 1) := by decide +kernel
theorem dX6_insert_59 : decode cX6_insert 59 = .ok (.aload_n 0, 1) := by decide +kernel
theorem dX6_insert_60 : decode cX6_insert 60 = .ok (.dup, 1) := by decide +kernel
theorem dX6_insert_61 : decode cX6_insert 61 = .ok (.getfield 15, 3) := by decide +kernel
theorem dX6_insert_64 : decode cX6_insert 64 = .ok (.iconst 1, 1) := by decide +kernel
theorem dX6_insert_65 : decode cX6_insert 65 = .ok (.iadd, 1) := by decide +kernel
theorem dX6_insert_66 : decode cX6_insert 66 = .ok (.putfield 15, 3) := by decide +kernel
theorem dX6_insert_69 : decode cX6_insert 69 = .ok (.aload_n 0, 1) := by decide +kernel
theorem dX6_insert_70 : decode cX6_insert 70 = .ok (.invokevirtual 22, 3) := by decide +kernel
theorem dX6_insert_73 : decode cX6_insert 73 = .ok (.return_, 1) := by decide +kernel
theorem dX6_remove_0 : decode cX6_remove 0 = .ok (.aload_n 0, 1) := by decide +kernel
theorem dX6_remove_1 : decode cX6_remove 1 = .ok (.iload_n 1, 1) := by decide +kernel
theorem dX6_remove_2 : decode cX6_remove 2 = .ok (.invokevirtual 31, 3) := by decide +kernel
theorem dX6_remove_5 : decode cX6_remove 5 = .ok (.ifCond .ne 6, 3) := by decide +kernel
theorem dX6_remove_8 : decode cX6_remove 8 = .ok (.bipush (-9), 2) := by decide +kernel
theorem dX6_remove_10 : decode cX6_remove 10 = .ok (.ireturn, 1) := by decide +kernel
theorem dX6_remove_11 : decode cX6_remove 11 = .ok (.aload_n 0, 1) := by decide +kernel
theorem dX6_remove_12 : decode cX6_remove 12 = .ok (.getfield 9, 3) := by decide +kernel
theorem dX6_remove_15 : decode cX6_remove 15 = .ok (.iload_n 1, 1) := by decide +kernel
theorem dX6_remove_16 : decode cX6_remove 16 = .ok (.iaload, 1) := by decide +kernel
theorem dX6_remove_17 : decode cX6_remove 17 = .ok (.istore_n 2, 1) := by decide +kernel
theorem dX6_remove_18 : decode cX6_remove 18 = .ok (.aload_n 0, 1) := by decide +kernel
theorem dX6_remove_19 : decode cX6_remove 19 = .ok (.dup, 1) := by decide +kernel
theorem dX6_remove_20 : decode cX6_remove 20 = .ok (.getfield 15, 3) := by decide +kernel
theorem dX6_remove_23 : decode cX6_remove 23 = .ok (.iconst 1, 1) := by decide +kernel
theorem dX6_remove_24 : decode cX6_remove 24 = .ok (.isub, 1) := by decide +kernel
theorem dX6_remove_25 : decode cX6_remove 25 = .ok (.putfield 15, 3) := by decide +kernel
theorem dX6_remove_28 : decode cX6_remove 28 = .ok (.iload_n 1, 1) := by decide +kernel
theorem dX6_remove_29 : decode cX6_remove 29 = .ok (.istore_n 3, 1) := by decide +kernel
theorem dX6_remove_30 : decode cX6_remove 30 = .ok (.iload_n 3, 1) := by decide +kernel
theorem dX6_remove_31 : decode cX6_remove 31 = .ok (.aload_n 0, 1) := by decide +kernel
theorem dX6_remove_32 : decode cX6_remove 32 = .ok (.getfield 15, 3) := by decide +kernel
theorem dX6_remove_35 : decode cX6_remove 35 = .ok (.if_icmp .ge 23, 3) := by decide +kernel
theorem dX6_remove_38 : decode cX6_remove 38 = .ok (.aload_n 0, 1) := by decide +kernel
theorem dX6_remove_39 : decode cX6_remove 39 = .ok (.getfield 9, 3) := by decide +kernel
theorem dX6_remove_42 : decode cX6_remove 42 = .ok (.iload_n 3, 1) := by decide +kernel
theorem dX6_remove_43 : decode cX6_remove 43 = .ok (.aload_n 0, 1) := by decide +kernel
theorem dX6_remove_44 : decode cX6_remove 44 = .ok (.getfield 9, 3) := by decide +kernel
theorem dX6_remove_47 : decode cX6_remove 47 = .ok (.iload_n 3, 1) := by decide +kernel
theorem dX6_remove_48 : decode cX6_remove 48 = .ok (.iconst 1, 1) := by decide +kernel
theorem dX6_remove_49 : decode cX6_remove 49 = .ok (.iadd, 1) := by decide +kernel
theorem dX6_remove_50 : decode cX6_remove 50 = .ok (.iaload, 1) := by decide +kernel
theorem dX6_remove_51 : decode cX6_remove 51 = .ok (.iastore, 1) := by decide +kernel
theorem dX6_remove_52 : decode cX6_remove 52 = .ok (.iinc 3 1, 3) := by decide +kernel
theorem dX6_remove_55 : decode cX6_remove 55 = .ok (.goto (-25), 3) := by decide +kernel
theorem dX6_remove_58 : decode cX6_remove 58 = .ok (.aload_n 0, 1) := by decide +kernel
theorem dX6_remove_59 : decode cX6_remove 59 = .ok (.invokevirtual 22, 3) := by decide +kernel
theorem dX6_remove_62 : decode cX6_remove 62 = .ok (.iload_n 2, 1) := by decide +kernel
theorem dX6_remove_63 : decode cX6_remove 63 = .ok (.ireturn, 1) := by decide +kernel
theorem dX6_sendAgain_0 : decode cX6_sendAgain 0 = .ok (.aload_n 0, 1) := by decide +kernel
theorem dX6_sendAgain_1 : decode cX6_sendAgain 1 = .ok (.dup, 1) := by decide +kernel
theorem dX6_sendAgain_2 : decode cX6_sendAgain 2 = .ok (.getfield 28, 3) := by decide +kernel
theorem dX6_sendAgain_5 : decode cX6_sendAgain 5 = .ok (.iconst 1, 1) := by decide +kernel
theorem dX6_sendAgain_6 : decode cX6_sendAgain 6 = .ok (.iadd, 1) := by decide +kernel
theorem dX6_sendAgain_7 : decode cX6_sendAgain 7 = .ok (.putfield 28, 3) := by decide +kernel
theorem dX6_sendAgain_10 : decode cX6_sendAgain 10 = .ok (.aload_n 0, 1) := by decide +kernel
theorem dX6_sendAgain_11 : decode cX6_sendAgain 11 = .ok (.getfield 28, 3) := by decide +kernel
theorem dX6_sendAgain_14 : decode cX6_sendAgain 14 = .ok (.ireturn, 1) := by decide +kernel
theorem dX6_takeDown_0 : decode cX6_takeDown 0 = .ok (.aload_n 0, 1) := by decide +kernel
theorem dX6_takeDown_1 : decode cX6_takeDown 1 = .ok (.getfield 28, 3) := by decide +kernel
theorem dX6_takeDown_4 : decode cX6_takeDown 4 = .ok (.istore_n 1, 1) := by decide +kernel
theorem dX6_takeDown_5 : decode cX6_takeDown 5 = .ok (.aload_n 0, 1) := by decide +kernel
theorem dX6_takeDown_6 : decode cX6_takeDown 6 = .ok (.iconst 0, 1) := by decide +kernel
theorem dX6_takeDown_7 : decode cX6_takeDown 7 = .ok (.putfield 28, 3) := by decide +kernel
theorem dX6_takeDown_10 : decode cX6_takeDown 10 = .ok (.aload_n 0, 1) := by decide +kernel
theorem dX6_takeDown_11 : decode cX6_takeDown 11 = .ok (.dup, 1) := by decide +kernel
theorem dX6_takeDown_12 : decode cX6_takeDown 12 = .ok (.getfield 25, 3) := by decide +kernel
theorem dX6_takeDown_15 : decode cX6_takeDown 15 = .ok (.iconst 1, 1) := by decide +kernel
theorem dX6_takeDown_16 : decode cX6_takeDown 16 = .ok (.iadd, 1) := by decide +kernel
theorem dX6_takeDown_17 : decode cX6_takeDown 17 = .ok (.putfield 25, 3) := by decide +kernel
theorem dX6_takeDown_20 : decode cX6_takeDown 20 = .ok (.iload_n 1, 1) := by decide +kernel
theorem dX6_takeDown_21 : decode cX6_takeDown 21 = .ok (.ireturn, 1) := by decide +kernel
theorem dX6_copyFrom_0 : decode cX6_copyFrom 0 = .ok (.aload_n 1, 1) := by decide +kernel
theorem dX6_copyFrom_1 : decode cX6_copyFrom 1 = .ok (.getfield 9, 3) := by decide +kernel
theorem dX6_copyFrom_4 : decode cX6_copyFrom 4 = .ok (.iconst 0, 1) := by decide +kernel
theorem dX6_copyFrom_5 : decode cX6_copyFrom 5 = .ok (.aload_n 0, 1) := by decide +kernel
theorem dX6_copyFrom_6 : decode cX6_copyFrom 6 = .ok (.getfield 9, 3) := by decide +kernel
theorem dX6_copyFrom_9 : decode cX6_copyFrom 9 = .ok (.iconst 0, 1) := by decide +kernel
theorem dX6_copyFrom_10 : decode cX6_copyFrom 10 = .ok (.bipush 8, 2) := by decide +kernel
theorem dX6_copyFrom_12 : decode cX6_copyFrom 12 = .ok (.invokestatic 35, 3) := by decide +kernel
theorem dX6_copyFrom_15 : decode cX6_copyFrom 15 = .ok (.aload_n 0, 1) := by decide +kernel
theorem dX6_copyFrom_16 : decode cX6_copyFrom 16 = .ok (.aload_n 1, 1) := by decide +kernel
theorem dX6_copyFrom_17 : decode cX6_copyFrom 17 = .ok (.getfield 15, 3) := by decide +kernel
theorem dX6_copyFrom_20 : decode cX6_copyFrom 20 = .ok (.putfield 15, 3) := by decide +kernel
theorem dX6_copyFrom_23 : decode cX6_copyFrom 23 = .ok (.aload_n 0, 1) := by decide +kernel
theorem dX6_copyFrom_24 : decode cX6_copyFrom 24 = .ok (.aload_n 1, 1) := by decide +kernel
theorem dX6_copyFrom_25 : decode cX6_copyFrom 25 = .ok (.getfield 19, 3) := by decide +kernel
theorem dX6_copyFrom_28 : decode cX6_copyFrom 28 = .ok (.putfield 19, 3) := by decide +kernel
theorem dX6_copyFrom_31 : decode cX6_copyFrom 31 = .ok (.aload_n 0, 1) := by decide +kernel
theorem dX6_copyFrom_32 : decode cX6_copyFrom 32 = .ok (.aload_n 1, 1) := by decide +kernel
theorem dX6_copyFrom_33 : decode cX6_copyFrom 33 = .ok (.getfield 25, 3) := by decide +kernel
theorem dX6_copyFrom_36 : decode cX6_copyFrom 36 = .ok (.putfield 25, 3) := by decide +kernel
theorem dX6_copyFrom_39 : decode cX6_copyFrom 39 = .ok (.aload_n 0, 1) := by decide +kernel
theorem dX6_copyFrom_40 : decode cX6_copyFrom 40 = .ok (.aload_n 1, 1) := by decide +kernel
theorem dX6_copyFrom_41 : decode cX6_copyFrom 41 = .ok (.getfield 28, 3) := by decide +kernel
theorem dX6_copyFrom_44 : decode cX6_copyFrom 44 = .ok (.putfield 28, 3) := by decide +kernel
theorem dX6_copyFrom_47 : decode cX6_copyFrom 47 = .ok (.return_, 1) := by decide +kernel
theorem dX7_init_0 : decode cX7_init 0 = .ok (.aload_n 0, 1) := by decide +kernel
theorem dX7_init_1 : decode cX7_init 1 = .ok (.invokespecial 3, 3) := by decide +kernel
theorem dX7_init_4 : decode cX7_init 4 = .ok (.aload_n 0, 1) := by decide +kernel
theorem dX7_init_5 : decode cX7_init 5 = .ok (.bipush 120, 2) := by decide +kernel
theorem dX7_init_7 : decode cX7_init 7 = .ok (.newarray .int, 2) := by decide +kernel
theorem dX7_init_9 : decode cX7_init 9 = .ok (.putfield 9, 3) := by decide +kernel
theorem dX7_init_12 : decode cX7_init 12 = .ok (.return_, 1) := by decide +kernel
theorem dX7_rewind_0 : decode cX7_rewind 0 = .ok (.aload_n 0, 1) := by decide +kernel
theorem dX7_rewind_1 : decode cX7_rewind 1 = .ok (.iconst 0, 1) := by decide +kernel
theorem dX7_rewind_2 : decode cX7_rewind 2 = .ok (.putfield 15, 3) := by decide +kernel
theorem dX7_rewind_5 : decode cX7_rewind 5 = .ok (.aload_n 0, 1) := by decide +kernel
theorem dX7_rewind_6 : decode cX7_rewind 6 = .ok (.invokevirtual 19, 3) := by decide +kernel
theorem dX7_rewind_9 : decode cX7_rewind 9 = .ok (.return_, 1) := by decide +kernel
theorem dX7_step_0 : decode cX7_step 0 = .ok (.aload_n 0, 1) := by decide +kernel
theorem dX7_step_1 : decode cX7_step 1 = .ok (.aload_n 0, 1) := by decide +kernel
theorem dX7_step_2 : decode cX7_step 2 = .ok (.getfield 15, 3) := by decide +kernel
theorem dX7_step_5 : decode cX7_step 5 = .ok (.putfield 22, 3) := by decide +kernel
theorem dX7_step_8 : decode cX7_step 8 = .ok (.aload_n 0, 1) := by decide +kernel
theorem dX7_step_9 : decode cX7_step 9 = .ok (.getfield 22, 3) := by decide +kernel
theorem dX7_step_12 : decode cX7_step 12 = .ok (.aload_n 0, 1) := by decide +kernel
theorem dX7_step_13 : decode cX7_step 13 = .ok (.getfield 25, 3) := by decide +kernel
theorem dX7_step_16 : decode cX7_step 16 = .ok (.if_icmp .ge 30, 3) := by decide +kernel
theorem dX7_step_19 : decode cX7_step 19 = .ok (.aload_n 0, 1) := by decide +kernel
theorem dX7_step_20 : decode cX7_step 20 = .ok (.getfield 9, 3) := by decide +kernel
theorem dX7_step_23 : decode cX7_step 23 = .ok (.aload_n 0, 1) := by decide +kernel
theorem dX7_step_24 : decode cX7_step 24 = .ok (.getfield 22, 3) := by decide +kernel
theorem dX7_step_27 : decode cX7_step 27 = .ok (.iaload, 1) := by decide +kernel
theorem dX7_step_28 : decode cX7_step 28 = .ok (.bipush 32, 2) := by decide +kernel
theorem dX7_step_30 : decode cX7_step 30 = .ok (.if_icmp .ne 16, 3) := by decide +kernel
theorem dX7_step_33 : decode cX7_step 33 = .ok (.aload_n 0, 1) := by decide +kernel
theorem dX7_step_34 : decode cX7_step 34 = .ok (.dup, 1) := by decide +kernel
theorem dX7_step_35 : decode cX7_step 35 = .ok (.getfield 22, 3) := by decide +kernel
theorem dX7_step_38 : decode cX7_step 38 = .ok (.iconst 1, 1) := by decide +kernel
theorem dX7_step_39 : decode cX7_step 39 = .ok (.iadd, 1) := by decide +kernel
theorem dX7_step_40 : decode cX7_step 40 = .ok (.putfield 22, 3) := by decide +kernel
theorem dX7_step_43 : decode cX7_step 43 = .ok (.goto (-35), 3) := by decide +kernel
theorem dX7_step_46 : decode cX7_step 46 = .ok (.aload_n 0, 1) := by decide +kernel
theorem dX7_step_47 : decode cX7_step 47 = .ok (.getfield 22, 3) := by decide +kernel
theorem dX7_step_50 : decode cX7_step 50 = .ok (.aload_n 0, 1) := by decide +kernel
theorem dX7_step_51 : decode cX7_step 51 = .ok (.getfield 25, 3) := by decide +kernel
theorem dX7_step_54 : decode cX7_step 54 = .ok (.if_icmp .lt 9, 3) := by decide +kernel
theorem dX7_step_57 : decode cX7_step 57 = .ok (.aload_n 0, 1) := by decide +kernel
theorem dX7_step_58 : decode cX7_step 58 = .ok (.iconst (-1), 1) := by decide +kernel
theorem dX7_step_59 : decode cX7_step 59 = .ok (.putfield 28, 3) := by decide +kernel
theorem dX7_step_62 : decode cX7_step 62 = .ok (.return_, 1) := by decide +kernel
theorem dX7_step_63 : decode cX7_step 63 = .ok (.aload_n 0, 1) := by decide +kernel
theorem dX7_step_64 : decode cX7_step 64 = .ok (.aload_n 0, 1) := by decide +kernel
theorem dX7_step_65 : decode cX7_step 65 = .ok (.getfield 9, 3) := by decide +kernel
theorem dX7_step_68 : decode cX7_step 68 = .ok (.aload_n 0, 1) := by decide +kernel
theorem dX7_step_69 : decode cX7_step 69 = .ok (.getfield 22, 3) := by decide +kernel
theorem dX7_step_72 : decode cX7_step 72 = .ok (.iaload, 1) := by decide +kernel
theorem dX7_step_73 : decode cX7_step 73 = .ok (.putfield 28, 3) := by decide +kernel
theorem dX7_step_76 : decode cX7_step 76 = .ok (.aload_n 0, 1) := by decide +kernel
theorem dX7_step_77 : decode cX7_step 77 = .ok (.aload_n 0, 1) := by decide +kernel
theorem dX7_step_78 : decode cX7_step 78 = .ok (.getfield 22, 3) := by decide +kernel
theorem dX7_step_81 : decode cX7_step 81 = .ok (.iconst 1, 1) := by decide +kernel
theorem dX7_step_82 : decode cX7_step 82 = .ok (.iadd, 1) := by decide +kernel
theorem dX7_step_83 : decode cX7_step 83 = .ok (.putfield 15, 3) := by decide +kernel
theorem dX7_step_86 : decode cX7_step 86 = .ok (.aload_n 0, 1) := by decide +kernel
theorem dX7_step_87 : decode cX7_step 87 = .ok (.getfield 28, 3) := by decide +kernel
theorem dX7_step_90 : decode cX7_step 90 = .ok (.invokestatic 31, 3) := by decide +kernel
theorem dX7_step_93 : decode cX7_step 93 = .ok (.ifCond .eq 48, 3) := by decide +kernel
theorem dX7_step_96 : decode cX7_step 96 = .ok (.aload_n 0, 1) := by decide +kernel
theorem dX7_step_97 : decode cX7_step 97 = .ok (.getfield 15, 3) := by decide +kernel
theorem dX7_step_100 : decode cX7_step 100 = .ok (.aload_n 0, 1) := by decide +kernel
theorem dX7_step_101 : decode cX7_step 101 = .ok (.getfield 25, 3) := by decide +kernel
theorem dX7_step_104 : decode cX7_step 104 = .ok (.if_icmp .ge 37, 3) := by decide +kernel
theorem dX7_step_107 : decode cX7_step 107 = .ok (.aload_n 0, 1) := by decide +kernel
theorem dX7_step_108 : decode cX7_step 108 = .ok (.getfield 9, 3) := by decide +kernel
theorem dX7_step_111 : decode cX7_step 111 = .ok (.aload_n 0, 1) := by decide +kernel
theorem dX7_step_112 : decode cX7_step 112 = .ok (.getfield 15, 3) := by decide +kernel
theorem dX7_step_115 : decode cX7_step 115 = .ok (.iaload, 1) := by decide +kernel
theorem dX7_step_116 : decode cX7_step 116 = .ok (.invokestatic 31, 3) := by decide +kernel
theorem dX7_step_119 : decode cX7_step 119 = .ok (.ifCond .eq 22, 3) := by decide +kernel
theorem dX7_step_122 : decode cX7_step 122 = .ok (.aload_n 0, 1) := by decide +kernel
theorem dX7_step_123 : decode cX7_step 123 = .ok (.bipush (-2), 2) := by decide +kernel
theorem dX7_step_125 : decode cX7_step 125 = .ok (.putfield 28, 3) := by decide +kernel
theorem dX7_step_128 : decode cX7_step 128 = .ok (.aload_n 0, 1) := by decide +kernel
theorem dX7_step_129 : decode cX7_step 129 = .ok (.dup, 1) := by decide +kernel
theorem dX7_step_130 : decode cX7_step 130 = .ok (.getfield 15, 3) := by decide +kernel
theorem dX7_step_133 : decode cX7_step 133 = .ok (.iconst 1, 1) := by decide +kernel
theorem dX7_step_134 : decode cX7_step 134 = .ok (.iadd, 1) := by decide +kernel
theorem dX7_step_135 : decode cX7_step 135 = .ok (.putfield 15, 3) := by decide +kernel
theorem dX7_step_138 : decode cX7_step 138 = .ok (.goto (-42), 3) := by decide +kernel
theorem dX7_step_141 : decode cX7_step 141 = .ok (.return_, 1) := by decide +kernel
theorem dX7_isDigit_0 : decode cX7_isDigit 0 = .ok (.iload_n 0, 1) := by decide +kernel
theorem dX7_isDigit_1 : decode cX7_isDigit 1 = .ok (.bipush 48, 2) := by decide +kernel
theorem dX7_isDigit_3 : decode cX7_isDigit 3 = .ok (.if_icmp .lt 13, 3) := by decide +kernel
theorem dX7_isDigit_6 : decode cX7_isDigit 6 = .ok (.iload_n 0, 1) := by decide +kernel
theorem dX7_isDigit_7 : decode cX7_isDigit 7 = .ok (.bipush 57, 2) := by decide +kernel
theorem dX7_isDigit_9 : decode cX7_isDigit 9 = .ok (.if_icmp .gt 7, 3) := by decide +kernel
theorem dX7_isDigit_12 : decode cX7_isDigit 12 = .ok (.iconst 1, 1) := by decide +kernel
theorem dX7_isDigit_13 : decode cX7_isDigit 13 = .ok (.goto 4, 3) := by decide +kernel
theorem dX7_isDigit_16 : decode cX7_isDigit 16 = .ok (.iconst 0, 1) := by decide +kernel
theorem dX7_isDigit_17 : decode cX7_isDigit 17 = .ok (.ireturn, 1) := by decide +kernel

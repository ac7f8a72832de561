theorem dX0_init_0 : decode cX0_init 0 = .ok (.aload_n 0, 1) := by decide +kernel
theorem dX0_init_1 : decode cX0_init 1 = .ok (.invokespecial 3, 3) := by decide +kernel
theorem dX0_init_4 : decode cX0_init 4 = .ok (.aload_n 0, 1) := by decide +kernel
theorem dX0_init_5 : decode cX0_init 5 = .ok (.new 9, 3) := by decide +kernel
theorem dX0_init_8 : decode cX0_init 8 = .ok (.dup, 1) := by decide +kernel
theorem dX0_init_9 : decode cX0_init 9 = .ok (.invokespecial 11, 3) := by decide +kernel
theorem dX0_init_12 : decode cX0_init 12 = .ok (.putfield 12, 3) := by decide +kernel
theorem dX0_init_15 : decode cX0_init 15 = .ok (.aload_n 0, 1) := by decide +kernel
theorem dX0_init_16 : decode cX0_init 16 = .ok (.new 9, 3) := by decide +kernel
theorem dX0_init_19 : decode cX0_init 19 = .ok (.dup, 1) := by decide +kernel
theorem dX0_init_20 : decode cX0_init 20 = .ok (.invokespecial 11, 3) := by decide +kernel
theorem dX0_init_23 : decode cX0_init 23 = .ok (.putfield 18, 3) := by decide +kernel
theorem dX0_init_26 : decode cX0_init 26 = .ok (.aload_n 0, 1) := by decide +kernel
theorem dX0_init_27 : decode cX0_init 27 = .ok (.iconst (-1), 1) := by decide +kernel
theorem dX0_init_28 : decode cX0_init 28 = .ok (.putfield 21, 3) := by decide +kernel
theorem dX0_init_31 : decode cX0_init 31 = .ok (.aload_n 0, 1) := by decide +kernel
theorem dX0_init_32 : decode cX0_init 32 = .ok (.iconst (-1), 1) := by decide +kernel
theorem dX0_init_33 : decode cX0_init 33 = .ok (.putfield 25, 3) := by decide +kernel
theorem dX0_init_36 : decode cX0_init 36 = .ok (.return_, 1) := by decide +kernel
theorem dX0_sideOf_0 : decode cX0_sideOf 0 = .ok (.iload_n 1, 1) := by decide +kernel
theorem dX0_sideOf_1 : decode cX0_sideOf 1 = .ok (.iconst 1, 1) := by decide +kernel
theorem dX0_sideOf_2 : decode cX0_sideOf 2 = .ok (.if_icmp .ne 10, 3) := by decide +kernel
theorem dX0_sideOf_5 : decode cX0_sideOf 5 = .ok (.aload_n 0, 1) := by decide +kernel
theorem dX0_sideOf_6 : decode cX0_sideOf 6 = .ok (.getfield 18, 3) := by decide +kernel
theorem dX0_sideOf_9 : decode cX0_sideOf 9 = .ok (.goto 7, 3) := by decide +kernel
theorem dX0_sideOf_12 : decode cX0_sideOf 12 = .ok (.aload_n 0, 1) := by decide +kernel
theorem dX0_sideOf_13 : decode cX0_sideOf 13 = .ok (.getfield 12, 3) := by decide +kernel
theorem dX0_sideOf_16 : decode cX0_sideOf 16 = .ok (.areturn, 1) := by decide +kernel
theorem dX0_isSetOn_0 : decode cX0_isSetOn 0 = .ok (.aload_n 0, 1) := by decide +kernel
theorem dX0_isSetOn_1 : decode cX0_isSetOn 1 = .ok (.getfield 21, 3) := by decide +kernel
theorem dX0_isSetOn_4 : decode cX0_isSetOn 4 = .ok (.iconst (-1), 1) := by decide +kernel
theorem dX0_isSetOn_5 : decode cX0_isSetOn 5 = .ok (.if_icmp .eq 7, 3) := by decide +kernel
theorem dX0_isSetOn_8 : decode cX0_isSetOn 8 = .ok (.iconst 1, 1) := by decide +kernel
theorem dX0_isSetOn_9 : decode cX0_isSetOn 9 = .ok (.goto 4, 3) := by decide +kernel
theorem dX0_isSetOn_12 : decode cX0_isSetOn 12 = .ok (.iconst 0, 1) := by decide +kernel
theorem dX0_isSetOn_13 : decode cX0_isSetOn 13 = .ok (.ireturn, 1) := by decide +kernel
theorem dX0_isMatchOver_0 : decode cX0_isMatchOver 0 = .ok (.aload_n 0, 1) := by decide +kernel
theorem dX0_isMatchOver_1 : decode cX0_isMatchOver 1 = .ok (.getfield 12, 3) := by decide +kernel
theorem dX0_isMatchOver_4 : decode cX0_isMatchOver 4 = .ok (.getfield 28, 3) := by decide +kernel
theorem dX0_isMatchOver_7 : decode cX0_isMatchOver 7 = .ok (.iconst 3, 1) := by decide +kernel
theorem dX0_isMatchOver_8 : decode cX0_isMatchOver 8 = .ok (.if_icmp .eq 14, 3) := by decide +kernel
theorem dX0_isMatchOver_11 : decode cX0_isMatchOver 11 = .ok (.aload_n 0, 1) := by decide +kernel
theorem dX0_isMatchOver_12 : decode cX0_isMatchOver 12 = .ok (.getfield 18, 3) := by decide +kernel
theorem dX0_isMatchOver_15 : decode cX0_isMatchOver 15 = .ok (.getfield 28, 3) := by decide +kernel
theorem dX0_isMatchOver_18 : decode cX0_isMatchOver 18 = .ok (.iconst 3, 1) := by decide +kernel
theorem dX0_isMatchOver_19 : decode cX0_isMatchOver 19 = .ok (.if_icmp .ne 7, 3) := by decide +kernel
theorem dX0_isMatchOver_22 : decode cX0_isMatchOver 22 = .ok (.iconst 1, 1) := by decide +kernel
theorem dX0_isMatchOver_23 : decode cX0_isMatchOver 23 = .ok (.goto 4, 3) := by decide +kernel
theorem dX0_isMatchOver_26 : decode cX0_isMatchOver 26 = .ok (.iconst 0, 1) := by decide +kernel
theorem dX0_isMatchOver_27 : decode cX0_isMatchOver 27 = .ok (.ireturn, 1) := by decide +kernel
theorem dX0_setsPlayed_0 : decode cX0_setsPlayed 0 = .ok (.aload_n 0, 1) := by decide +kernel
theorem dX0_setsPlayed_1 : decode cX0_setsPlayed 1 = .ok (.getfield 12, 3) := by decide +kernel
theorem dX0_setsPlayed_4 : decode cX0_setsPlayed 4 = .ok (.getfield 28, 3) := by decide +kernel
theorem dX0_setsPlayed_7 : decode cX0_setsPlayed 7 = .ok (.aload_n 0, 1) := by decide +kernel
theorem dX0_setsPlayed_8 : decode cX0_setsPlayed 8 = .ok (.getfield 18, 3) := by decide +kernel
theorem dX0_setsPlayed_11 : decode cX0_setsPlayed 11 = .ok (.getfield 28, 3) := by decide +kernel
theorem dX0_setsPlayed_14 : decode cX0_setsPlayed 14 = .ok (.iadd, 1) := by decide +kernel
theorem dX0_setsPlayed_15 : decode cX0_setsPlayed 15 = .ok (.ireturn, 1) := by decide +kernel
theorem dX0_startSet_0 : decode cX0_startSet 0 = .ok (.aload_n 0, 1) := by decide +kernel
theorem dX0_startSet_1 : decode cX0_startSet 1 = .ok (.getfield 12, 3) := by decide +kernel
theorem dX0_startSet_4 : decode cX0_startSet 4 = .ok (.invokevirtual 31, 3) := by decide +kernel
theorem dX0_startSet_7 : decode cX0_startSet 7 = .ok (.aload_n 0, 1) := by decide +kernel
theorem dX0_startSet_8 : decode cX0_startSet 8 = .ok (.getfield 18, 3) := by decide +kernel
theorem dX0_startSet_11 : decode cX0_startSet 11 = .ok (.invokevirtual 31, 3) := by decide +kernel
theorem dX0_startSet_14 : decode cX0_startSet 14 = .ok (.aload_n 0, 1) := by decide +kernel
theorem dX0_startSet_15 : decode cX0_startSet 15 = .ok (.iload_n 1, 1) := by decide +kernel
theorem dX0_startSet_16 : decode cX0_startSet 16 = .ok (.putfield 21, 3) := by decide +kernel
theorem dX0_startSet_19 : decode cX0_startSet 19 = .ok (.aload_n 0, 1) := by decide +kernel
theorem dX0_startSet_20 : decode cX0_startSet 20 = .ok (.iconst (-1), 1) := by decide +kernel
theorem dX0_startSet_21 : decode cX0_startSet 21 = .ok (.putfield 25, 3) := by decide +kernel
theorem dX0_startSet_24 : decode cX0_startSet 24 = .ok (.return_, 1) := by decide +kernel
theorem dX0_takeService_0 : decode cX0_takeService 0 = .ok (.aload_n 0, 1) := by decide +kernel
theorem dX0_takeService_1 : decode cX0_takeService 1 = .ok (.aload_n 0, 1) := by decide +kernel
theorem dX0_takeService_2 : decode cX0_takeService 2 = .ok (.getfield 21, 3) := by decide +kernel
theorem dX0_takeService_5 : decode cX0_takeService 5 = .ok (.invokevirtual 34, 3) := by decide +kernel
theorem dX0_takeService_8 : decode cX0_takeService 8 = .ok (.astore_n 2, 1) := by decide +kernel
theorem dX0_takeService_9 : decode cX0_takeService 9 = .ok (.aload_n 2, 1) := by decide +kernel
theorem dX0_takeService_10 : decode cX0_takeService 10 = .ok (.iconst 1, 1) := by decide +kernel
theorem dX0_takeService_11 : decode cX0_takeService 11 = .ok (.invokevirtual 38, 3) := by decide +kernel
theorem dX0_takeService_14 : decode cX0_takeService 14 = .ok (.iload_n 1, 1) := by decide +kernel
theorem dX0_takeService_15 : decode cX0_takeService 15 = .ok (.if_icmp .ne 7, 3) := by decide +kernel
theorem dX0_takeService_18 : decode cX0_takeService 18 = .ok (.iconst 1, 1) := by decide +kernel
theorem dX0_takeService_19 : decode cX0_takeService 19 = .ok (.goto 4, 3) := by decide +kernel
theorem dX0_takeService_22 : decode cX0_takeService 22 = .ok (.iconst 0, 1) := by decide +kernel
theorem dX0_takeService_23 : decode cX0_takeService 23 = .ok (.istore_n 3, 1) := by decide +kernel
theorem dX0_takeService_24 : decode cX0_takeService 24 = .ok (.iload_n 3, 1) := by decide +kernel
theorem dX0_takeService_25 : decode cX0_takeService 25 = .ok (.ifCond .ne 19, 3) := by decide +kernel
theorem dX0_takeService_28 : decode cX0_takeService 28 = .ok (.aload_n 0, 1) := by decide +kernel
theorem dX0_takeService_29 : decode cX0_takeService 29 = .ok (.getfield 25, 3) := by decide +kernel
theorem dX0_takeService_32 : decode cX0_takeService 32 = .ok (.iconst (-1), 1) := by decide +kernel
theorem dX0_takeService_33 : decode cX0_takeService 33 = .ok (.if_icmp .ne 11, 3) := by decide +kernel
theorem dX0_takeService_36 : decode cX0_takeService 36 = .ok (.aload_n 0, 1) := by decide +kernel
theorem dX0_takeService_37 : decode cX0_takeService 37 = .ok (.aload_n 2, 1) := by decide +kernel
theorem dX0_takeService_38 : decode cX0_takeService 38 = .ok (.getfield 42, 3) := by decide +kernel
theorem dX0_takeService_41 : decode cX0_takeService 41 = .ok (.putfield 25, 3) := by decide +kernel
theorem dX0_takeService_44 : decode cX0_takeService 44 = .ok (.aload_n 0, 1) := by decide +kernel
theorem dX0_takeService_45 : decode cX0_takeService 45 = .ok (.getfield 12, 3) := by decide +kernel
theorem dX0_takeService_48 : decode cX0_takeService 48 = .ok (.iconst 0, 1) := by decide +kernel
theorem dX0_takeService_49 : decode cX0_takeService 49 = .ok (.putfield 45, 3) := by decide +kernel
theorem dX0_takeService_52 : decode cX0_takeService 52 = .ok (.aload_n 0, 1) := by decide +kernel
theorem dX0_takeService_53 : decode cX0_takeService 53 = .ok (.getfield 18, 3) := by decide +kernel
theorem dX0_takeService_56 : decode cX0_takeService 56 = .ok (.iconst 0, 1) := by decide +kernel
theorem dX0_takeService_57 : decode cX0_takeService 57 = .ok (.putfield 45, 3) := by decide +kernel
theorem dX0_takeService_60 : decode cX0_takeService 60 = .ok (.iload_n 3, 1) := by decide +kernel
theorem dX0_takeService_61 : decode cX0_takeService 61 = .ok (.ireturn, 1) := by decide +kernel
theorem dX0_givePoint_0 : decode cX0_givePoint 0 = .ok (.aload_n 0, 1) := by decide +kernel
theorem dX0_givePoint_1 : decode cX0_givePoint 1 = .ok (.iload_n 1, 1) := by decide +kernel
theorem dX0_givePoint_2 : decode cX0_givePoint 2 = .ok (.invokevirtual 34, 3) := by decide +kernel
theorem dX0_givePoint_5 : decode cX0_givePoint 5 = .ok (.astore_n 2, 1) := by decide +kernel
theorem dX0_givePoint_6 : decode cX0_givePoint 6 = .ok (.aload_n 2, 1) := by decide +kernel
theorem dX0_givePoint_7 : decode cX0_givePoint 7 = .ok (.dup, 1) := by decide +kernel
theorem dX0_givePoint_8 : decode cX0_givePoint 8 = .ok (.getfield 42, 3) := by decide +kernel
theorem dX0_givePoint_11 : decode cX0_givePoint 11 = .ok (.iconst 1, 1) := by decide +kernel
theorem dX0_givePoint_12 : decode cX0_givePoint 12 = .ok (.iadd, 1) := by decide +kernel
theorem dX0_givePoint_13 : decode cX0_givePoint 13 = .ok (.putfield 42, 3) := by decide +kernel
theorem dX0_givePoint_16 : decode cX0_givePoint 16 = .ok (.aload_n 0, 1) := by decide +kernel
theorem dX0_givePoint_17 : decode cX0_givePoint 17 = .ok (.getfield 21, 3) := by decide +kernel
theorem dX0_givePoint_20 : decode cX0_givePoint 20 = .ok (.iload_n 1, 1) := by decide +kernel
theorem dX0_givePoint_21 : decode cX0_givePoint 21 = .ok (.if_icmp .eq 17, 3) := by decide +kernel
theorem dX0_givePoint_24 : decode cX0_givePoint 24 = .ok (.aload_n 0, 1) := by decide +kernel
theorem dX0_givePoint_25 : decode cX0_givePoint 25 = .ok (.iload_n 1, 1) := by decide +kernel
theorem dX0_givePoint_26 : decode cX0_givePoint 26 = .ok (.putfield 21, 3) := by decide +kernel
theorem dX0_givePoint_29 : decode cX0_givePoint 29 = .ok (.aload_n 0, 1) := by decide +kernel
theorem dX0_givePoint_30 : decode cX0_givePoint 30 = .ok (.iconst (-1), 1) := by decide +kernel
theorem dX0_givePoint_31 : decode cX0_givePoint 31 = .ok (.putfield 25, 3) := by decide +kernel
theorem dX0_givePoint_34 : decode cX0_givePoint 34 = .ok (.aload_n 2, 1) := by decide +kernel
theorem dX0_givePoint_35 : decode cX0_givePoint 35 = .ok (.invokevirtual 49, 3) := by decide +kernel
theorem dX0_givePoint_38 : decode cX0_givePoint 38 = .ok (.return_, 1) := by decide +kernel
theorem dX0_takeBack_0 : decode cX0_takeBack 0 = .ok (.aload_n 0, 1) := by decide +kernel
theorem dX0_takeBack_1 : decode cX0_takeBack 1 = .ok (.aload_n 0, 1) := by decide +kernel
theorem dX0_takeBack_2 : decode cX0_takeBack 2 = .ok (.getfield 21, 3) := by decide +kernel
theorem dX0_takeBack_5 : decode cX0_takeBack 5 = .ok (.invokevirtual 34, 3) := by decide +kernel
theorem dX0_takeBack_8 : decode cX0_takeBack 8 = .ok (.astore_n 1, 1) := by decide +kernel
theorem dX0_takeBack_9 : decode cX0_takeBack 9 = .ok (.aload_n 1, 1) := by decide +kernel
theorem dX0_takeBack_10 : decode cX0_takeBack 10 = .ok (.getfield 42, 3) := by decide +kernel
theorem dX0_takeBack_13 : decode cX0_takeBack 13 = .ok (.aload_n 0, 1) := by decide +kernel
theorem dX0_takeBack_14 : decode cX0_takeBack 14 = .ok (.getfield 25, 3) := by decide +kernel
theorem dX0_takeBack_17 : decode cX0_takeBack 17 = .ok (.isub, 1) := by decide +kernel
theorem dX0_takeBack_18 : decode cX0_takeBack 18 = .ok (.istore_n 2, 1) := by decide +kernel
theorem dX0_takeBack_19 : decode cX0_takeBack 19 = .ok (.aload_n 1, 1) := by decide +kernel
theorem dX0_takeBack_20 : decode cX0_takeBack 20 = .ok (.aload_n 0, 1) := by decide +kernel
theorem dX0_takeBack_21 : decode cX0_takeBack 21 = .ok (.getfield 25, 3) := by decide +kernel
theorem dX0_takeBack_24 : decode cX0_takeBack 24 = .ok (.putfield 42, 3) := by decide +kernel
theorem dX0_takeBack_27 : decode cX0_takeBack 27 = .ok (.aload_n 0, 1) := by decide +kernel
theorem dX0_takeBack_28 : decode cX0_takeBack 28 = .ok (.iconst 1, 1) := by decide +kernel
theorem dX0_takeBack_29 : decode cX0_takeBack 29 = .ok (.aload_n 0, 1) := by decide +kernel
theorem dX0_takeBack_30 : decode cX0_takeBack 30 = .ok (.getfield 21, 3) := by decide +kernel
theorem dX0_takeBack_33 : decode cX0_takeBack 33 = .ok (.isub, 1) := by decide +kernel
theorem dX0_takeBack_34 : decode cX0_takeBack 34 = .ok (.invokevirtual 52, 3) := by decide +kernel
theorem dX0_takeBack_37 : decode cX0_takeBack 37 = .ok (.iload_n 2, 1) := by decide +kernel
theorem dX0_takeBack_38 : decode cX0_takeBack 38 = .ok (.ireturn, 1) := by decide +kernel
theorem dX0_hasWonSet_0 : decode cX0_hasWonSet 0 = .ok (.aload_n 0, 1) := by decide +kernel
theorem dX0_hasWonSet_1 : decode cX0_hasWonSet 1 = .ok (.invokevirtual 56, 3) := by decide +kernel
theorem dX0_hasWonSet_4 : decode cX0_hasWonSet 4 = .ok (.iconst 4, 1) := by decide +kernel
theorem dX0_hasWonSet_5 : decode cX0_hasWonSet 5 = .ok (.if_icmp .ne 8, 3) := by decide +kernel
theorem dX0_hasWonSet_8 : decode cX0_hasWonSet 8 = .ok (.bipush 15, 2) := by decide +kernel
theorem dX0_hasWonSet_10 : decode cX0_hasWonSet 10 = .ok (.goto 5, 3) := by decide +kernel
theorem dX0_hasWonSet_13 : decode cX0_hasWonSet 13 = .ok (.bipush 25, 2) := by decide +kernel
theorem dX0_hasWonSet_15 : decode cX0_hasWonSet 15 = .ok (.istore_n 2, 1) := by decide +kernel
theorem dX0_hasWonSet_16 : decode cX0_hasWonSet 16 = .ok (.aload_n 0, 1) := by decide +kernel
theorem dX0_hasWonSet_17 : decode cX0_hasWonSet 17 = .ok (.iload_n 1, 1) := by decide +kernel
theorem dX0_hasWonSet_18 : decode cX0_hasWonSet 18 = .ok (.invokevirtual 34, 3) := by decide +kernel
theorem dX0_hasWonSet_21 : decode cX0_hasWonSet 21 = .ok (.getfield 42, 3) := by decide +kernel
theorem dX0_hasWonSet_24 : decode cX0_hasWonSet 24 = .ok (.istore_n 3, 1) := by decide +kernel
theorem dX0_hasWonSet_25 : decode cX0_hasWonSet 25 = .ok (.iload_n 3, 1) := by decide +kernel
theorem dX0_hasWonSet_26 : decode cX0_hasWonSet 26 = .ok (.iload_n 2, 1) := by decide +kernel
theorem dX0_hasWonSet_27 : decode cX0_hasWonSet 27 = .ok (.if_icmp .lt 23, 3) := by decide +kernel
theorem dX0_hasWonSet_30 : decode cX0_hasWonSet 30 = .ok (.iload_n 3, 1) := by decide +kernel
theorem dX0_hasWonSet_31 : decode cX0_hasWonSet 31 = .ok (.aload_n 0, 1) := by decide +kernel
theorem dX0_hasWonSet_32 : decode cX0_hasWonSet 32 = .ok (.iconst 1, 1) := by decide +kernel
theorem dX0_hasWonSet_33 : decode cX0_hasWonSet 33 = .ok (.iload_n 1, 1) := by decide +kernel
theorem dX0_hasWonSet_34 : decode cX0_hasWonSet 34 = .ok (.isub, 1) := by decide +kernel
theorem dX0_hasWonSet_35 : decode cX0_hasWonSet 35 = .ok (.invokevirtual 34, 3) := by decide +kernel
theorem dX0_hasWonSet_38 : decode cX0_hasWonSet 38 = .ok (.getfield 42, 3) := by decide +kernel
theorem dX0_hasWonSet_41 : decode cX0_hasWonSet 41 = .ok (.iconst 2, 1) := by decide +kernel
theorem dX0_hasWonSet_42 : decode cX0_hasWonSet 42 = .ok (.iadd, 1) := by decide +kernel
theorem dX0_hasWonSet_43 : decode cX0_hasWonSet 43 = .ok (.if_icmp .lt 7, 3) := by decide +kernel
theorem dX0_hasWonSet_46 : decode cX0_hasWonSet 46 = .ok (.iconst 1, 1) := by decide +kernel
theorem dX0_hasWonSet_47 : decode cX0_hasWonSet 47 = .ok (.goto 4, 3) := by decide +kernel
theorem dX0_hasWonSet_50 : decode cX0_hasWonSet 50 = .ok (.iconst 0, 1) := by decide +kernel
theorem dX0_hasWonSet_51 : decode cX0_hasWonSet 51 = .ok (.ireturn, 1) := by decide +kernel
theorem dX0_endSet_0 : decode cX0_endSet 0 = .ok (.aload_n 0, 1) := by decide +kernel
theorem dX0_endSet_1 : decode cX0_endSet 1 = .ok (.iload_n 1, 1) := by decide +kernel
theorem dX0_endSet_2 : decode cX0_endSet 2 = .ok (.invokevirtual 34, 3) := by decide +kernel
theorem dX0_endSet_5 : decode cX0_endSet 5 = .ok (.dup, 1) := by decide +kernel
theorem dX0_endSet_6 : decode cX0_endSet 6 = .ok (.getfield 28, 3) := by decide +kernel
theorem dX0_endSet_9 : decode cX0_endSet 9 = .ok (.iconst 1, 1) := by decide +kernel
theorem dX0_endSet_10 : decode cX0_endSet 10 = .ok (.iadd, 1) := by decide +kernel
theorem dX0_endSet_11 : decode cX0_endSet 11 = .ok (.putfield 28, 3) := by decide +kernel
theorem dX0_endSet_14 : decode cX0_endSet 14 = .ok (.aload_n 0, 1) := by decide +kernel
theorem dX0_endSet_15 : decode cX0_endSet 15 = .ok (.getfield 12, 3) := by decide +kernel
theorem dX0_endSet_18 : decode cX0_endSet 18 = .ok (.invokevirtual 60, 3) := by decide +kernel
theorem dX0_endSet_21 : decode cX0_endSet 21 = .ok (.aload_n 0, 1) := by decide +kernel
theorem dX0_endSet_22 : decode cX0_endSet 22 = .ok (.getfield 18, 3) := by decide +kernel
theorem dX0_endSet_25 : decode cX0_endSet 25 = .ok (.invokevirtual 60, 3) := by decide +kernel
theorem dX0_endSet_28 : decode cX0_endSet 28 = .ok (.aload_n 0, 1) := by decide +kernel
theorem dX0_endSet_29 : decode cX0_endSet 29 = .ok (.iconst (-1), 1) := by decide +kernel
theorem dX0_endSet_30 : decode cX0_endSet 30 = .ok (.putfield 21, 3) := by decide +kernel
theorem dX0_endSet_33 : decode cX0_endSet 33 = .ok (.aload_n 0, 1) := by decide +kernel
theorem dX0_endSet_34 : decode cX0_endSet 34 = .ok (.iconst (-1), 1) := by decide +kernel
theorem dX0_endSet_35 : decode cX0_endSet 35 = .ok (.putfield 25, 3) := by decide +kernel
theorem dX0_endSet_38 : decode cX0_endSet 38 = .ok (.return_, 1) := by decide +kernel
theorem dX0_copyFrom_0 : decode cX0_copyFrom 0 = .ok (.aload_n 0, 1) := by decide +kernel
theorem dX0_copyFrom_1 : decode cX0_copyFrom 1 = .ok (.getfield 12, 3) := by decide +kernel
theorem dX0_copyFrom_4 : decode cX0_copyFrom 4 = .ok (.aload_n 1, 1) := by decide +kernel
theorem dX0_copyFrom_5 : decode cX0_copyFrom 5 = .ok (.getfield 12, 3) := by decide +kernel
theorem dX0_copyFrom_8 : decode cX0_copyFrom 8 = .ok (.invokevirtual 63, 3) := by decide +kernel
theorem dX0_copyFrom_11 : decode cX0_copyFrom 11 = .ok (.aload_n 0, 1) := by decide +kernel
theorem dX0_copyFrom_12 : decode cX0_copyFrom 12 = .ok (.getfield 18, 3) := by decide +kernel
theorem dX0_copyFrom_15 : decode cX0_copyFrom 15 = .ok (.aload_n 1, 1) := by decide +kernel
theorem dX0_copyFrom_16 : decode cX0_copyFrom 16 = .ok (.getfield 18, 3) := by decide +kernel
theorem dX0_copyFrom_19 : decode cX0_copyFrom 19 = .ok (.invokevirtual 63, 3) := by decide +kernel
theorem dX0_copyFrom_22 : decode cX0_copyFrom 22 = .ok (.aload_n 0, 1) := by decide +kernel
theorem dX0_copyFrom_23 : decode cX0_copyFrom 23 = .ok (.aload_n 1, 1) := by decide +kernel
theorem dX0_copyFrom_24 : decode cX0_copyFrom 24 = .ok (.getfield 21, 3) := by decide +kernel
theorem dX0_copyFrom_27 : decode cX0_copyFrom 27 = .ok (.putfield 21, 3) := by decide +kernel
theorem dX0_copyFrom_30 : decode cX0_copyFrom 30 = .ok (.aload_n 0, 1) := by decide +kernel
theorem dX0_copyFrom_31 : decode cX0_copyFrom 31 = .ok (.aload_n 1, 1) := by decide +kernel
theorem dX0_copyFrom_32 : decode cX0_copyFrom 32 = .ok (.getfield 25, 3) := by decide +kernel
theorem dX0_copyFrom_35 : decode cX0_copyFrom 35 = .ok (.putfield 25, 3) := by decide +kernel
theorem dX0_copyFrom_38 : decode cX0_copyFrom 38 = .ok (.return_, 1) := by decide +kernel
theorem dX1_init_0 : decode cX1_init 0 = .ok (.aload_n 0, 1) := by decide +kernel
theorem dX1_init_1 : decode cX1_init 1 = .ok (.invokespecial 3, 3) := by decide +kernel
theorem dX1_init_4 : decode cX1_init 4 = .ok (.return_, 1) := by decide +kernel
theorem dX1_start_0 : decode cX1_start 0 = .ok (.aload_n 0, 1) := by decide +kernel
theorem dX1_start_1 : decode cX1_start 1 = .ok (.iconst 1, 1) := by decide +kernel
theorem dX1_start_2 : decode cX1_start 2 = .ok (.putfield 9, 3) := by decide +kernel
theorem dX1_start_5 : decode cX1_start 5 = .ok (.aload_n 0, 1) := by decide +kernel
theorem dX1_start_6 : decode cX1_start 6 = .ok (.iload_n 1, 1) := by decide +kernel
theorem dX1_start_7 : decode cX1_start 7 = .ok (.putfield 15, 3) := by decide +kernel
theorem dX1_start_10 : decode cX1_start 10 = .ok (.aload_n 0, 1) := by decide +kernel
theorem dX1_start_11 : decode cX1_start 11 = .ok (.iload_n 2, 1) := by decide +kernel
theorem dX1_start_12 : decode cX1_start 12 = .ok (.putfield 19, 3) := by decide +kernel
theorem dX1_start_15 : decode cX1_start 15 = .ok (.aload_n 0, 1) := by decide +kernel
theorem dX1_start_16 : decode cX1_start 16 = .ok (.iconst (-1), 1) := by decide +kernel
theorem dX1_start_17 : decode cX1_start 17 = .ok (.putfield 22, 3) := by decide +kernel
theorem dX1_start_20 : decode cX1_start 20 = .ok (.aload_n 0, 1) := by decide +kernel
theorem dX1_start_21 : decode cX1_start 21 = .ok (.iconst 0, 1) := by decide +kernel
theorem dX1_start_22 : decode cX1_start 22 = .ok (.putfield 25, 3) := by decide +kernel
theorem dX1_start_25 : decode cX1_start 25 = .ok (.aload_n 0, 1) := by decide +kernel
theorem dX1_start_26 : decode cX1_start 26 = .ok (.iconst 0, 1) := by decide +kernel
theorem dX1_start_27 : decode cX1_start 27 = .ok (.putfield 28, 3) := by decide +kernel
theorem dX1_start_30 : decode cX1_start 30 = .ok (.aload_n 0, 1) := by decide +kernel
theorem dX1_start_31 : decode cX1_start 31 = .ok (.iconst 0, 1) := by decide +kernel
theorem dX1_start_32 : decode cX1_start 32 = .ok (.putfield 31, 3) := by decide +kernel
theorem dX1_start_35 : decode cX1_start 35 = .ok (.return_, 1) := by decide +kernel
theorem dX1_faultOf_0 : decode cX1_faultOf 0 = .ok (.aload_n 0, 1) := by decide +kernel
theorem dX1_faultOf_1 : decode cX1_faultOf 1 = .ok (.getfield 15, 3) := by decide +kernel
theorem dX1_faultOf_4 : decode cX1_faultOf 4 = .ok (.iload_n 1, 1) := by decide +kernel
theorem dX1_faultOf_5 : decode cX1_faultOf 5 = .ok (.if_icmp .eq 5, 3) := by decide +kernel
theorem dX1_faultOf_8 : decode cX1_faultOf 8 = .ok (.iconst 0, 1) := by decide +kernel
theorem dX1_faultOf_9 : decode cX1_faultOf 9 = .ok (.ireturn, 1) := by decide +kernel
theorem dX1_faultOf_10 : decode cX1_faultOf 10 = .ok (.aload_n 0, 1) := by decide +kernel
theorem dX1_faultOf_11 : decode cX1_faultOf 11 = .ok (.getfield 22, 3) := by decide +kernel
theorem dX1_faultOf_14 : decode cX1_faultOf 14 = .ok (.iconst (-1), 1) := by decide +kernel
theorem dX1_faultOf_15 : decode cX1_faultOf 15 = .ok (.if_icmp .ne 5, 3) := by decide +kernel
theorem dX1_faultOf_18 : decode cX1_faultOf 18 = .ok (.iconst 1, 1) := by decide +kernel
theorem dX1_faultOf_19 : decode cX1_faultOf 19 = .ok (.ireturn, 1) := by decide +kernel
theorem dX1_faultOf_20 : decode cX1_faultOf 20 = .ok (.aload_n 0, 1) := by decide +kernel
theorem dX1_faultOf_21 : decode cX1_faultOf 21 = .ok (.getfield 19, 3) := by decide +kernel
theorem dX1_faultOf_24 : decode cX1_faultOf 24 = .ok (.iload_n 2, 1) := by decide +kernel
theorem dX1_faultOf_25 : decode cX1_faultOf 25 = .ok (.if_icmp .ne 13, 3) := by decide +kernel
theorem dX1_faultOf_28 : decode cX1_faultOf 28 = .ok (.aload_n 0, 1) := by decide +kernel
theorem dX1_faultOf_29 : decode cX1_faultOf 29 = .ok (.getfield 22, 3) := by decide +kernel
theorem dX1_faultOf_32 : decode cX1_faultOf 32 = .ok (.iconst 2, 1) := by decide +kernel
theorem dX1_faultOf_33 : decode cX1_faultOf 33 = .ok (.if_icmp .eq 5, 3) := by decide +kernel
theorem dX1_faultOf_36 : decode cX1_faultOf 36 = .ok (.iconst 2, 1) := by decide +kernel
theorem dX1_faultOf_37 : decode cX1_faultOf 37 = .ok (.ireturn, 1) := by decide +kernel
theorem dX1_faultOf_38 : decode cX1_faultOf 38 = .ok (.aload_n 0, 1) := by decide +kernel
theorem dX1_faultOf_39 : decode cX1_faultOf 39 = .ok (.getfield 25, 3) := by decide +kernel
theorem dX1_faultOf_42 : decode cX1_faultOf 42 = .ok (.iconst 3, 1) := by decide +kernel
theorem dX1_faultOf_43 : decode cX1_faultOf 43 = .ok (.if_icmp .ne 12, 3) := by decide +kernel
theorem dX1_faultOf_46 : decode cX1_faultOf 46 = .ok (.iload_n 3, 1) := by decide +kernel
theorem dX1_faultOf_47 : decode cX1_faultOf 47 = .ok (.iconst 2, 1) := by decide +kernel
theorem dX1_faultOf_48 : decode cX1_faultOf 48 = .ok (.if_icmp .eq 7, 3) := by decide +kernel
theorem dX1_faultOf_51 : decode cX1_faultOf 51 = .ok (.iconst 3, 1) := by decide +kernel
theorem dX1_faultOf_52 : decode cX1_faultOf 52 = .ok (.goto 4, 3) := by decide +kernel
theorem dX1_faultOf_55 : decode cX1_faultOf 55 = .ok (.iconst 0, 1) := by decide +kernel
theorem dX1_faultOf_56 : decode cX1_faultOf 56 = .ok (.ireturn, 1) := by decide +kernel
theorem dX1_note_0 : decode cX1_note 0 = .ok (.aload_n 0, 1) := by decide +kernel
theorem dX1_note_1 : decode cX1_note 1 = .ok (.getfield 15, 3) := by decide +kernel
theorem dX1_note_4 : decode cX1_note 4 = .ok (.iload_n 1, 1) := by decide +kernel
theorem dX1_note_5 : decode cX1_note 5 = .ok (.if_icmp .ne 10, 3) := by decide +kernel
theorem dX1_note_8 : decode cX1_note 8 = .ok (.aload_n 0, 1) := by decide +kernel
theorem dX1_note_9 : decode cX1_note 9 = .ok (.getfield 25, 3) := by decide +kernel
theorem dX1_note_12 : decode cX1_note 12 = .ok (.goto 4, 3) := by decide +kernel
theorem dX1_note_15 : decode cX1_note 15 = .ok (.iconst 0, 1) := by decide +kernel
theorem dX1_note_16 : decode cX1_note 16 = .ok (.istore 4, 2) := by decide +kernel
theorem dX1_note_18 : decode cX1_note 18 = .ok (.aload_n 0, 1) := by decide +kernel
theorem dX1_note_19 : decode cX1_note 19 = .ok (.iload_n 3, 1) := by decide +kernel
theorem dX1_note_20 : decode cX1_note 20 = .ok (.iconst 2, 1) := by decide +kernel
theorem dX1_note_21 : decode cX1_note 21 = .ok (.if_icmp .ne 7, 3) := by decide +kernel
theorem dX1_note_24 : decode cX1_note 24 = .ok (.iconst 0, 1) := by decide +kernel
theorem dX1_note_25 : decode cX1_note 25 = .ok (.goto 7, 3) := by decide +kernel
theorem dX1_note_28 : decode cX1_note 28 = .ok (.iload 4, 2) := by decide +kernel
theorem dX1_note_30 : decode cX1_note 30 = .ok (.iconst 1, 1) := by decide +kernel
theorem dX1_note_31 : decode cX1_note 31 = .ok (.iadd, 1) := by decide +kernel
theorem dX1_note_32 : decode cX1_note 32 = .ok (.putfield 25, 3) := by decide +kernel
theorem dX1_note_35 : decode cX1_note 35 = .ok (.aload_n 0, 1) := by decide +kernel
theorem dX1_note_36 : decode cX1_note 36 = .ok (.iload_n 1, 1) := by decide +kernel
theorem dX1_note_37 : decode cX1_note 37 = .ok (.putfield 15, 3) := by decide +kernel
theorem dX1_note_40 : decode cX1_note 40 = .ok (.aload_n 0, 1) := by decide +kernel
theorem dX1_note_41 : decode cX1_note 41 = .ok (.iload_n 2, 1) := by decide +kernel
theorem dX1_note_42 : decode cX1_note 42 = .ok (.putfield 19, 3) := by decide +kernel
theorem dX1_note_45 : decode cX1_note 45 = .ok (.aload_n 0, 1) := by decide +kernel
theorem dX1_note_46 : decode cX1_note 46 = .ok (.iload_n 3, 1) := by decide +kernel
theorem dX1_note_47 : decode cX1_note 47 = .ok (.putfield 22, 3) := by decide +kernel
theorem dX1_note_50 : decode cX1_note 50 = .ok (.return_, 1) := by decide +kernel
theorem dX1_noteNet_0 : decode cX1_noteNet 0 = .ok (.iload_n 1, 1) := by decide +kernel
theorem dX1_noteNet_1 : decode cX1_noteNet 1 = .ok (.iconst 1, 1) := by decide +kernel
theorem dX1_noteNet_2 : decode cX1_noteNet 2 = .ok (.if_icmp .ne 11, 3) := by decide +kernel
theorem dX1_noteNet_5 : decode cX1_noteNet 5 = .ok (.aload_n 0, 1) := by decide +kernel
theorem dX1_noteNet_6 : decode cX1_noteNet 6 = .ok (.iconst 1, 1) := by decide +kernel
theorem dX1_noteNet_7 : decode cX1_noteNet 7 = .ok (.putfield 31, 3) := by decide +kernel
theorem dX1_noteNet_10 : decode cX1_noteNet 10 = .ok (.goto 8, 3) := by decide +kernel
theorem dX1_noteNet_13 : decode cX1_noteNet 13 = .ok (.aload_n 0, 1) := by decide +kernel
theorem dX1_noteNet_14 : decode cX1_noteNet 14 = .ok (.iconst 1, 1) := by decide +kernel
theorem dX1_noteNet_15 : decode cX1_noteNet 15 = .ok (.putfield 28, 3) := by decide +kernel
theorem dX1_noteNet_18 : decode cX1_noteNet 18 = .ok (.return_, 1) := by decide +kernel
theorem dX1_isNetNotedOf_0 : decode cX1_isNetNotedOf 0 = .ok (.iload_n 1, 1) := by decide +kernel
theorem dX1_isNetNotedOf_1 : decode cX1_isNetNotedOf 1 = .ok (.iconst 1, 1) := by decide +kernel
theorem dX1_isNetNotedOf_2 : decode cX1_isNetNotedOf 2 = .ok (.if_icmp .ne 10, 3) := by decide +kernel
theorem dX1_isNetNotedOf_5 : decode cX1_isNetNotedOf 5 = .ok (.aload_n 0, 1) := by decide +kernel
theorem dX1_isNetNotedOf_6 : decode cX1_isNetNotedOf 6 = .ok (.getfield 31, 3) := by decide +kernel
theorem dX1_isNetNotedOf_9 : decode cX1_isNetNotedOf 9 = .ok (.goto 7, 3) := by decide +kernel
theorem dX1_isNetNotedOf_12 : decode cX1_isNetNotedOf 12 = .ok (.aload_n 0, 1) := by decide +kernel
theorem dX1_isNetNotedOf_13 : decode cX1_isNetNotedOf 13 = .ok (.getfield 28, 3) := by decide +kernel
theorem dX1_isNetNotedOf_16 : decode cX1_isNetNotedOf 16 = .ok (.ireturn, 1) := by decide +kernel
theorem dX2_init_0 : decode cX2_init 0 = .ok (.aload_n 0, 1) := by decide +kernel
theorem dX2_init_1 : decode cX2_init 1 = .ok (.invokespecial 3, 3) := by decide +kernel
theorem dX2_init_4 : decode cX2_init 4 = .ok (.aload_n 0, 1) := by decide +kernel
theorem dX2_init_5 : decode cX2_init 5 = .ok (.new 9, 3) := by decide +kernel
theorem dX2_init_8 : decode cX2_init 8 = .ok (.dup, 1) := by decide +kernel
theorem dX2_init_9 : decode cX2_init 9 = .ok (.invokespecial 11, 3) := by decide +kernel
theorem dX2_init_12 : decode cX2_init 12 = .ok (.putfield 12, 3) := by decide +kernel
theorem dX2_init_15 : decode cX2_init 15 = .ok (.aload_n 0, 1) := by decide +kernel
theorem dX2_init_16 : decode cX2_init 16 = .ok (.bipush 6, 2) := by decide +kernel
theorem dX2_init_18 : decode cX2_init 18 = .ok (.newarray .int, 2) := by decide +kernel
theorem dX2_init_20 : decode cX2_init 20 = .ok (.putfield 18, 3) := by decide +kernel
theorem dX2_init_23 : decode cX2_init 23 = .ok (.aload_n 0, 1) := by decide +kernel
theorem dX2_init_24 : decode cX2_init 24 = .ok (.bipush 6, 2) := by decide +kernel
theorem dX2_init_26 : decode cX2_init 26 = .ok (.newarray .int, 2) := by decide +kernel
theorem dX2_init_28 : decode cX2_init 28 = .ok (.putfield 22, 3) := by decide +kernel
theorem dX2_init_31 : decode cX2_init 31 = .ok (.return_, 1) := by decide +kernel
theorem dX2_read_0 : decode cX2_read 0 = .ok (.aload_n 0, 1) := by decide +kernel
theorem dX2_read_1 : decode cX2_read 1 = .ok (.invokevirtual 25, 3) := by decide +kernel
theorem dX2_read_4 : decode cX2_read 4 = .ok (.iconst 0, 1) := by decide +kernel
theorem dX2_read_5 : decode cX2_read 5 = .ok (.istore_n 2, 1) := by decide +kernel
theorem dX2_read_6 : decode cX2_read 6 = .ok (.iload_n 2, 1) := by decide +kernel
theorem dX2_read_7 : decode cX2_read 7 = .ok (.aload_n 1, 1) := by decide +kernel
theorem dX2_read_8 : decode cX2_read 8 = .ok (.getfield 28, 3) := by decide +kernel
theorem dX2_read_11 : decode cX2_read 11 = .ok (.if_icmp .ge 35, 3) := by decide +kernel
theorem dX2_read_14 : decode cX2_read 14 = .ok (.aload_n 1, 1) := by decide +kernel
theorem dX2_read_15 : decode cX2_read 15 = .ok (.iload_n 2, 1) := by decide +kernel
theorem dX2_read_16 : decode cX2_read 16 = .ok (.invokevirtual 34, 3) := by decide +kernel
theorem dX2_read_19 : decode cX2_read 19 = .ok (.istore_n 3, 1) := by decide +kernel
theorem dX2_read_20 : decode cX2_read 20 = .ok (.aload_n 0, 1) := by decide +kernel
theorem dX2_read_21 : decode cX2_read 21 = .ok (.iload_n 3, 1) := by decide +kernel
theorem dX2_read_22 : decode cX2_read 22 = .ok (.invokestatic 38, 3) := by decide +kernel
theorem dX2_read_25 : decode cX2_read 25 = .ok (.iload_n 3, 1) := by decide +kernel
theorem dX2_read_26 : decode cX2_read 26 = .ok (.invokestatic 41, 3) := by decide +kernel
theorem dX2_read_29 : decode cX2_read 29 = .ok (.iload_n 3, 1) := by decide +kernel
theorem dX2_read_30 : decode cX2_read 30 = .ok (.invokestatic 44, 3) := by decide +kernel
theorem dX2_read_33 : decode cX2_read 33 = .ok (.iload_n 3, 1) := by decide +kernel
theorem dX2_read_34 : decode cX2_read 34 = .ok (.invokestatic 47, 3) := by decide +kernel
theorem dX2_read_37 : decode cX2_read 37 = .ok (.invokevirtual 50, 3) := by decide +kernel
theorem dX2_read_40 : decode cX2_read 40 = .ok (.iinc 2 1, 3) := by decide +kernel
theorem dX2_read_43 : decode cX2_read 43 = .ok (.goto (-37), 3) := by decide +kernel
theorem dX2_read_46 : decode cX2_read 46 = .ok (.return_, 1) := by decide +kernel
theorem dX2_lostBy_0 : decode cX2_lostBy 0 = .ok (.aload_n 0, 1) := by decide +kernel
theorem dX2_lostBy_1 : decode cX2_lostBy 1 = .ok (.iload_n 1, 1) := by decide +kernel
theorem dX2_lostBy_2 : decode cX2_lostBy 2 = .ok (.invokevirtual 54, 3) := by decide +kernel
theorem dX2_lostBy_5 : decode cX2_lostBy 5 = .ok (.iload_n 2, 1) := by decide +kernel
theorem dX2_lostBy_6 : decode cX2_lostBy 6 = .ok (.invokestatic 58, 3) := by decide +kernel
theorem dX2_lostBy_9 : decode cX2_lostBy 9 = .ok (.ireturn, 1) := by decide +kernel
theorem dX2_rowOf_0 : decode cX2_rowOf 0 = .ok (.iload_n 1, 1) := by decide +kernel
theorem dX2_rowOf_1 : decode cX2_rowOf 1 = .ok (.iconst 1, 1) := by decide +kernel
theorem dX2_rowOf_2 : decode cX2_rowOf 2 = .ok (.if_icmp .ne 10, 3) := by decide +kernel
theorem dX2_rowOf_5 : decode cX2_rowOf 5 = .ok (.aload_n 0, 1) := by decide +kernel
theorem dX2_rowOf_6 : decode cX2_rowOf 6 = .ok (.getfield 22, 3) := by decide +kernel
theorem dX2_rowOf_9 : decode cX2_rowOf 9 = .ok (.goto 7, 3) := by decide +kernel
theorem dX2_rowOf_12 : decode cX2_rowOf 12 = .ok (.aload_n 0, 1) := by decide +kernel
theorem dX2_rowOf_13 : decode cX2_rowOf 13 = .ok (.getfield 18, 3) := by decide +kernel
theorem dX2_rowOf_16 : decode cX2_rowOf 16 = .ok (.areturn, 1) := by decide +kernel
theorem dX2_clear_0 : decode cX2_clear 0 = .ok (.aload_n 0, 1) := by decide +kernel
theorem dX2_clear_1 : decode cX2_clear 1 = .ok (.getfield 12, 3) := by decide +kernel
theorem dX2_clear_4 : decode cX2_clear 4 = .ok (.getfield 62, 3) := by decide +kernel
theorem dX2_clear_7 : decode cX2_clear 7 = .ok (.invokevirtual 66, 3) := by decide +kernel
theorem dX2_clear_10 : decode cX2_clear 10 = .ok (.aload_n 0, 1) := by decide +kernel
theorem dX2_clear_11 : decode cX2_clear 11 = .ok (.getfield 12, 3) := by decide +kernel
theorem dX2_clear_14 : decode cX2_clear 14 = .ok (.getfield 71, 3) := by decide +kernel
theorem dX2_clear_17 : decode cX2_clear 17 = .ok (.invokevirtual 66, 3) := by decide +kernel
theorem dX2_clear_20 : decode cX2_clear 20 = .ok (.iconst 0, 1) := by decide +kernel
theorem dX2_clear_21 : decode cX2_clear 21 = .ok (.istore_n 1, 1) := by decide +kernel
theorem dX2_clear_22 : decode cX2_clear 22 = .ok (.iload_n 1, 1) := by decide +kernel
theorem dX2_clear_23 : decode cX2_clear 23 = .ok (.bipush 6, 2) := by decide +kernel
theorem dX2_clear_25 : decode cX2_clear 25 = .ok (.if_icmp .ge 27, 3) := by decide +kernel
theorem dX2_clear_28 : decode cX2_clear 28 = .ok (.aload_n 0, 1) := by decide +kernel
theorem dX2_clear_29 : decode cX2_clear 29 = .ok (.getfield 18, 3) := by decide +kernel
theorem dX2_clear_32 : decode cX2_clear 32 = .ok (.iload_n 1, 1) := by decide +kernel
theorem dX2_clear_33 : decode cX2_clear 33 = .ok (.iconst 0, 1) := by decide +kernel
theorem dX2_clear_34 : decode cX2_clear 34 = .ok (.invokestatic 74, 3) := by decide +kernel
theorem dX2_clear_37 : decode cX2_clear 37 = .ok (.aload_n 0, 1) := by decide +kernel
theorem dX2_clear_38 : decode cX2_clear 38 = .ok (.getfield 22, 3) := by decide +kernel
theorem dX2_clear_41 : decode cX2_clear 41 = .ok (.iload_n 1, 1) := by decide +kernel
theorem dX2_clear_42 : decode cX2_clear 42 = .ok (.iconst 0, 1) := by decide +kernel
theorem dX2_clear_43 : decode cX2_clear 43 = .ok (.invokestatic 74, 3) := by decide +kernel
theorem dX2_clear_46 : decode cX2_clear 46 = .ok (.iinc 1 1, 3) := by decide +kernel
theorem dX2_clear_49 : decode cX2_clear 49 = .ok (.goto (-27), 3) := by decide +kernel
theorem dX2_clear_52 : decode cX2_clear 52 = .ok (.return_, 1) := by decide +kernel
theorem dX2_follow_0 : decode cX2_follow 0 = .ok (.aload_n 0, 1) := by decide +kernel
theorem dX2_follow_1 : decode cX2_follow 1 = .ok (.getfield 12, 3) := by decide +kernel
theorem dX2_follow_4 : decode cX2_follow 4 = .ok (.iload_n 2, 1) := by decide +kernel
theorem dX2_follow_5 : decode cX2_follow 5 = .ok (.invokevirtual 78, 3) := by decide +kernel
theorem dX2_follow_8 : decode cX2_follow 8 = .ok (.astore 5, 2) := by decide +kernel
theorem dX2_follow_10 : decode cX2_follow 10 = .ok (.iload_n 1, 1) := by decide +kernel
theorem dX2_follow_11 : decode cX2_follow 11 = .ok (.tableswitch 137 0 7 #[45, 56, 65, 76, 88, 106, 117, 126], 45) := by decide +kernel
theorem dX2_follow_56 : decode cX2_follow 56 = .ok (.aload 5, 2) := by decide +kernel
theorem dX2_follow_58 : decode cX2_follow 58 = .ok (.iload_n 3, 1) := by decide +kernel
theorem dX2_follow_59 : decode cX2_follow 59 = .ok (.iload 4, 2) := by decide +kernel
theorem dX2_follow_61 : decode cX2_follow 61 = .ok (.invokevirtual 82, 3) := by decide +kernel
theorem dX2_follow_64 : decode cX2_follow 64 = .ok (.goto 84, 3) := by decide +kernel
theorem dX2_follow_67 : decode cX2_follow 67 = .ok (.aload 5, 2) := by decide +kernel
theorem dX2_follow_69 : decode cX2_follow 69 = .ok (.iload_n 3, 1) := by decide +kernel
theorem dX2_follow_70 : decode cX2_follow 70 = .ok (.putfield 86, 3) := by decide +kernel
theorem dX2_follow_73 : decode cX2_follow 73 = .ok (.goto 75, 3) := by decide +kernel
theorem dX2_follow_76 : decode cX2_follow 76 = .ok (.aload_n 0, 1) := by decide +kernel
theorem dX2_follow_77 : decode cX2_follow 77 = .ok (.getfield 12, 3) := by decide +kernel
theorem dX2_follow_80 : decode cX2_follow 80 = .ok (.iload_n 2, 1) := by decide +kernel
theorem dX2_follow_81 : decode cX2_follow 81 = .ok (.invokevirtual 89, 3) := by decide +kernel
theorem dX2_follow_84 : decode cX2_follow 84 = .ok (.goto 64, 3) := by decide +kernel
theorem dX2_follow_87 : decode cX2_follow 87 = .ok (.aload_n 0, 1) := by decide +kernel
theorem dX2_follow_88 : decode cX2_follow 88 = .ok (.getfield 12, 3) := by decide +kernel
theorem dX2_follow_91 : decode cX2_follow 91 = .ok (.iload_n 3, 1) := by decide +kernel
theorem dX2_follow_92 : decode cX2_follow 92 = .ok (.invokevirtual 93, 3) := by decide +kernel
theorem dX2_follow_95 : decode cX2_follow 95 = .ok (.pop, 1) := by decide +kernel
theorem dX2_follow_96 : decode cX2_follow 96 = .ok (.goto 52, 3) := by decide +kernel
theorem dX2_follow_99 : decode cX2_follow 99 = .ok (.aload_n 0, 1) := by decide +kernel
theorem dX2_follow_100 : decode cX2_follow 100 = .ok (.iconst 1, 1) := by decide +kernel
theorem dX2_follow_101 : decode cX2_follow 101 = .ok (.iload_n 2, 1) := by decide +kernel
theorem dX2_follow_102 : decode cX2_follow 102 = .ok (.isub, 1) := by decide +kernel
theorem dX2_follow_103 : decode cX2_follow 103 = .ok (.invokevirtual 97, 3) := by decide +kernel
theorem dX2_follow_106 : decode cX2_follow 106 = .ok (.aload_n 0, 1) := by decide +kernel
theorem dX2_follow_107 : decode cX2_follow 107 = .ok (.getfield 12, 3) := by decide +kernel
theorem dX2_follow_110 : decode cX2_follow 110 = .ok (.iload_n 2, 1) := by decide +kernel
theorem dX2_follow_111 : decode cX2_follow 111 = .ok (.invokevirtual 100, 3) := by decide +kernel
theorem dX2_follow_114 : decode cX2_follow 114 = .ok (.goto 34, 3) := by decide +kernel
theorem dX2_follow_117 : decode cX2_follow 117 = .ok (.aload_n 0, 1) := by decide +kernel
theorem dX2_follow_118 : decode cX2_follow 118 = .ok (.getfield 12, 3) := by decide +kernel
theorem dX2_follow_121 : decode cX2_follow 121 = .ok (.invokevirtual 103, 3) := by decide +kernel
theorem dX2_follow_124 : decode cX2_follow 124 = .ok (.pop, 1) := by decide +kernel
theorem dX2_follow_125 : decode cX2_follow 125 = .ok (.goto 23, 3) := by decide +kernel
theorem dX2_follow_128 : decode cX2_follow 128 = .ok (.aload 5, 2) := by decide +kernel
theorem dX2_follow_130 : decode cX2_follow 130 = .ok (.iload_n 3, 1) := by decide +kernel
theorem dX2_follow_131 : decode cX2_follow 131 = .ok (.invokevirtual 107, 3) := by decide +kernel
theorem dX2_follow_134 : decode cX2_follow 134 = .ok (.goto 14, 3) := by decide +kernel
theorem dX2_follow_137 : decode cX2_follow 137 = .ok (.aload 5, 2) := by decide +kernel
theorem dX2_follow_139 : decode cX2_follow 139 = .ok (.iload_n 3, 1) := by decide +kernel
theorem dX2_follow_140 : decode cX2_follow 140 = .ok (.iload 4, 2) := by decide +kernel
theorem dX2_follow_142 : decode cX2_follow 142 = .ok (.invokevirtual 110, 3) := by decide +kernel
theorem dX2_follow_145 : decode cX2_follow 145 = .ok (.goto 3, 3) := by decide +kernel
theorem dX2_follow_148 : decode cX2_follow 148 = .ok (.return_, 1) := by decide +kernel
theorem dX2_countLost_0 : decode cX2_countLost 0 = .ok (.aload_n 0, 1) := by decide +kernel
theorem dX2_countLost_1 : decode cX2_countLost 1 = .ok (.getfield 12, 3) := by decide +kernel
theorem dX2_countLost_4 : decode cX2_countLost 4 = .ok (.iload_n 1, 1) := by decide +kernel
theorem dX2_countLost_5 : decode cX2_countLost 5 = .ok (.invokevirtual 78, 3) := by decide +kernel
theorem dX2_countLost_8 : decode cX2_countLost 8 = .ok (.getfield 113, 3) := by decide +kernel
theorem dX2_countLost_11 : decode cX2_countLost 11 = .ok (.bipush 6, 2) := by decide +kernel
theorem dX2_countLost_13 : decode cX2_countLost 13 = .ok (.irem, 1) := by decide +kernel
theorem dX2_countLost_14 : decode cX2_countLost 14 = .ok (.istore_n 2, 1) := by decide +kernel
theorem dX2_countLost_15 : decode cX2_countLost 15 = .ok (.aload_n 0, 1) := by decide +kernel
theorem dX2_countLost_16 : decode cX2_countLost 16 = .ok (.iload_n 1, 1) := by decide +kernel
theorem dX2_countLost_17 : decode cX2_countLost 17 = .ok (.invokevirtual 54, 3) := by decide +kernel
theorem dX2_countLost_20 : decode cX2_countLost 20 = .ok (.iload_n 2, 1) := by decide +kernel
theorem dX2_countLost_21 : decode cX2_countLost 21 = .ok (.aload_n 0, 1) := by decide +kernel
theorem dX2_countLost_22 : decode cX2_countLost 22 = .ok (.iload_n 1, 1) := by decide +kernel
theorem dX2_countLost_23 : decode cX2_countLost 23 = .ok (.iload_n 2, 1) := by decide +kernel
theorem dX2_countLost_24 : decode cX2_countLost 24 = .ok (.invokevirtual 116, 3) := by decide +kernel
theorem dX2_countLost_27 : decode cX2_countLost 27 = .ok (.iconst 1, 1) := by decide +kernel
theorem dX2_countLost_28 : decode cX2_countLost 28 = .ok (.iadd, 1) := by decide +kernel
theorem dX2_countLost_29 : decode cX2_countLost 29 = .ok (.invokestatic 74, 3) := by decide +kernel
theorem dX2_countLost_32 : decode cX2_countLost 32 = .ok (.return_, 1) := by decide +kernel
theorem dX3_init_0 : decode cX3_init 0 = .ok (.aload_n 0, 1) := by decide +kernel
theorem dX3_init_1 : decode cX3_init 1 = .ok (.invokespecial 1, 3) := by decide +kernel
theorem dX3_init_4 : decode cX3_init 4 = .ok (.aload_n 0, 1) := by decide +kernel
theorem dX3_init_5 : decode cX3_init 5 = .ok (.sipush 640, 3) := by decide +kernel
theorem dX3_init_8 : decode cX3_init 8 = .ok (.newarray .int, 2) := by decide +kernel
theorem dX3_init_10 : decode cX3_init 10 = .ok (.putfield 9, 3) := by decide +kernel
theorem dX3_init_13 : decode cX3_init 13 = .ok (.return_, 1) := by decide +kernel
theorem dX3_write_0 : decode cX3_write 0 = .ok (.aload_n 0, 1) := by decide +kernel
theorem dX3_write_1 : decode cX3_write 1 = .ok (.getfield 13, 3) := by decide +kernel
theorem dX3_write_4 : decode cX3_write 4 = .ok (.sipush 640, 3) := by decide +kernel
theorem dX3_write_7 : decode cX3_write 7 = .ok (.if_icmp .ge 40, 3) := by decide +kernel
theorem dX3_write_10 : decode cX3_write 10 = .ok (.aload_n 0, 1) := by decide +kernel
theorem dX3_write_11 : decode cX3_write 11 = .ok (.getfield 9, 3) := by decide +kernel
theorem dX3_write_14 : decode cX3_write 14 = .ok (.aload_n 0, 1) := by decide +kernel
theorem dX3_write_15 : decode cX3_write 15 = .ok (.getfield 13, 3) := by decide +kernel
theorem dX3_write_18 : decode cX3_write 18 = .ok (.iload_n 1, 1) := by decide +kernel
theorem dX3_write_19 : decode cX3_write 19 = .ok (.bipush 11, 2) := by decide +kernel
theorem dX3_write_21 : decode cX3_write 21 = .ok (.ishl, 1) := by decide +kernel
theorem dX3_write_22 : decode cX3_write 22 = .ok (.iload_n 2, 1) := by decide +kernel
theorem dX3_write_23 : decode cX3_write 23 = .ok (.bipush 10, 2) := by decide +kernel
theorem dX3_write_25 : decode cX3_write 25 = .ok (.ishl, 1) := by decide +kernel
theorem dX3_write_26 : decode cX3_write 26 = .ok (.ior, 1) := by decide +kernel
theorem dX3_write_27 : decode cX3_write 27 = .ok (.iload_n 3, 1) := by decide +kernel
theorem dX3_write_28 : decode cX3_write 28 = .ok (.iconst 5, 1) := by decide +kernel
theorem dX3_write_29 : decode cX3_write 29 = .ok (.ishl, 1) := by decide +kernel
theorem dX3_write_30 : decode cX3_write 30 = .ok (.ior, 1) := by decide +kernel
theorem dX3_write_31 : decode cX3_write 31 = .ok (.iload 4, 2) := by decide +kernel
theorem dX3_write_33 : decode cX3_write 33 = .ok (.ior, 1) := by decide +kernel
theorem dX3_write_34 : decode cX3_write 34 = .ok (.invokestatic 17, 3) := by decide +kernel
theorem dX3_write_37 : decode cX3_write 37 = .ok (.aload_n 0, 1) := by decide +kernel
theorem dX3_write_38 : decode cX3_write 38 = .ok (.dup, 1) := by decide +kernel
theorem dX3_write_39 : decode cX3_write 39 = .ok (.getfield 13, 3) := by decide +kernel
theorem dX3_write_42 : decode cX3_write 42 = .ok (.iconst 1, 1) := by decide +kernel
theorem dX3_write_43 : decode cX3_write 43 = .ok (.iadd, 1) := by decide +kernel
theorem dX3_write_44 : decode cX3_write 44 = .ok (.putfield 13, 3) := by decide +kernel
theorem dX3_write_47 : decode cX3_write 47 = .ok (.return_, 1) := by decide +kernel
theorem dX3_cutTo_0 : decode cX3_cutTo 0 = .ok (.aload_n 0, 1) := by decide +kernel
theorem dX3_cutTo_1 : decode cX3_cutTo 1 = .ok (.iload_n 1, 1) := by decide +kernel
theorem dX3_cutTo_2 : decode cX3_cutTo 2 = .ok (.putfield 13, 3) := by decide +kernel
theorem dX3_cutTo_5 : decode cX3_cutTo 5 = .ok (.return_, 1) := by decide +kernel
theorem dX3_signAt_0 : decode cX3_signAt 0 = .ok (.aload_n 0, 1) := by decide +kernel
theorem dX3_signAt_1 : decode cX3_signAt 1 = .ok (.getfield 9, 3) := by decide +kernel
theorem dX3_signAt_4 : decode cX3_signAt 4 = .ok (.iload_n 1, 1) := by decide +kernel
theorem dX3_signAt_5 : decode cX3_signAt 5 = .ok (.invokestatic 23, 3) := by decide +kernel
theorem dX3_signAt_8 : decode cX3_signAt 8 = .ok (.ireturn, 1) := by decide +kernel
theorem dX3_kindOf_0 : decode cX3_kindOf 0 = .ok (.iload_n 0, 1) := by decide +kernel
theorem dX3_kindOf_1 : decode cX3_kindOf 1 = .ok (.bipush 11, 2) := by decide +kernel
theorem dX3_kindOf_3 : decode cX3_kindOf 3 = .ok (.ishr, 1) := by decide +kernel
theorem dX3_kindOf_4 : decode cX3_kindOf 4 = .ok (.ireturn, 1) := by decide +kernel
theorem dX3_teamOf_0 : decode cX3_teamOf 0 = .ok (.iload_n 0, 1) := by decide +kernel
theorem dX3_teamOf_1 : decode cX3_teamOf 1 = .ok (.bipush 10, 2) := by decide +kernel
theorem dX3_teamOf_3 : decode cX3_teamOf 3 = .ok (.ishr, 1) := by decide +kernel
theorem dX3_teamOf_4 : decode cX3_teamOf 4 = .ok (.iconst 1, 1) := by decide +kernel
theorem dX3_teamOf_5 : decode cX3_teamOf 5 = .ok (.iand, 1) := by decide +kernel
theorem dX3_teamOf_6 : decode cX3_teamOf 6 = .ok (.ireturn, 1) := by decide +kernel
theorem dX3_oneOf_0 : decode cX3_oneOf 0 = .ok (.iload_n 0, 1) := by decide +kernel
theorem dX3_oneOf_1 : decode cX3_oneOf 1 = .ok (.iconst 5, 1) := by decide +kernel
theorem dX3_oneOf_2 : decode cX3_oneOf 2 = .ok (.ishr, 1) := by decide +kernel
theorem dX3_oneOf_3 : decode cX3_oneOf 3 = .ok (.bipush 31, 2) := by decide +kernel
theorem dX3_oneOf_5 : decode cX3_oneOf 5 = .ok (.iand, 1) := by decide +kernel
theorem dX3_oneOf_6 : decode cX3_oneOf 6 = .ok (.ireturn, 1) := by decide +kernel
theorem dX3_twoOf_0 : decode cX3_twoOf 0 = .ok (.iload_n 0, 1) := by decide +kernel
theorem dX3_twoOf_1 : decode cX3_twoOf 1 = .ok (.bipush 31, 2) := by decide +kernel
theorem dX3_twoOf_3 : decode cX3_twoOf 3 = .ok (.iand, 1) := by decide +kernel
theorem dX3_twoOf_4 : decode cX3_twoOf 4 = .ok (.ireturn, 1) := by decide +kernel
theorem dX4_init_0 : decode cX4_init 0 = .ok (.aload_n 0, 1) := by decide +kernel
theorem dX4_init_1 : decode cX4_init 1 = .ok (.invokespecial 3, 3) := by decide +kernel
theorem dX4_init_4 : decode cX4_init 4 = .ok (.aload_n 0, 1) := by decide +kernel
theorem dX4_init_5 : decode cX4_init 5 = .ok (.bipush 7, 2) := by decide +kernel
theorem dX4_init_7 : decode cX4_init 7 = .ok (.newarray .int, 2) := by decide +kernel
theorem dX4_init_9 : decode cX4_init 9 = .ok (.putfield 9, 3) := by decide +kernel
theorem dX4_init_12 : decode cX4_init 12 = .ok (.aload_n 0, 1) := by decide +kernel
theorem dX4_init_13 : decode cX4_init 13 = .ok (.bipush 21, 2) := by decide +kernel
theorem dX4_init_15 : decode cX4_init 15 = .ok (.newarray .int, 2) := by decide +kernel
theorem dX4_init_17 : decode cX4_init 17 = .ok (.putfield 15, 3) := by decide +kernel
theorem dX4_init_20 : decode cX4_init 20 = .ok (.aload_n 0, 1) := by decide +kernel
theorem dX4_init_21 : decode cX4_init 21 = .ok (.iconst (-1), 1) := by decide +kernel
theorem dX4_init_22 : decode cX4_init 22 = .ok (.putfield 18, 3) := by decide +kernel
theorem dX4_init_25 : decode cX4_init 25 = .ok (.aload_n 0, 1) := by decide +kernel
theorem dX4_init_26 : decode cX4_init 26 = .ok (.iconst (-1), 1) := by decide +kernel
theorem dX4_init_27 : decode cX4_init 27 = .ok (.putfield 22, 3) := by decide +kernel
theorem dX4_init_30 : decode cX4_init 30 = .ok (.aload_n 0, 1) := by decide +kernel
theorem dX4_init_31 : decode cX4_init 31 = .ok (.iconst 2, 1) := by decide +kernel
theorem dX4_init_32 : decode cX4_init 32 = .ok (.putfield 25, 3) := by decide +kernel
theorem dX4_init_35 : decode cX4_init 35 = .ok (.iconst 1, 1) := by decide +kernel
theorem dX4_init_36 : decode cX4_init 36 = .ok (.istore_n 1, 1) := by decide +kernel
theorem dX4_init_37 : decode cX4_init 37 = .ok (.iload_n 1, 1) := by decide +kernel
theorem dX4_init_38 : decode cX4_init 38 = .ok (.bipush 6, 2) := by decide +kernel
theorem dX4_init_40 : decode cX4_init 40 = .ok (.if_icmp .gt 18, 3) := by decide +kernel
theorem dX4_init_43 : decode cX4_init 43 = .ok (.aload_n 0, 1) := by decide +kernel
theorem dX4_init_44 : decode cX4_init 44 = .ok (.getfield 9, 3) := by decide +kernel
theorem dX4_init_47 : decode cX4_init 47 = .ok (.iload_n 1, 1) := by decide +kernel
theorem dX4_init_48 : decode cX4_init 48 = .ok (.iconst (-1), 1) := by decide +kernel
theorem dX4_init_49 : decode cX4_init 49 = .ok (.invokestatic 28, 3) := by decide +kernel
theorem dX4_init_52 : decode cX4_init 52 = .ok (.iinc 1 1, 3) := by decide +kernel
theorem dX4_init_55 : decode cX4_init 55 = .ok (.goto (-18), 3) := by decide +kernel
theorem dX4_init_58 : decode cX4_init 58 = .ok (.return_, 1) := by decide +kernel
theorem dX4_shirtIn_0 : decode cX4_shirtIn 0 = .ok (.aload_n 0, 1) := by decide +kernel
theorem dX4_shirtIn_1 : decode cX4_shirtIn 1 = .ok (.getfield 9, 3) := by decide +kernel
theorem dX4_shirtIn_4 : decode cX4_shirtIn 4 = .ok (.iload_n 1, 1) := by decide +kernel
theorem dX4_shirtIn_5 : decode cX4_shirtIn 5 = .ok (.invokestatic 32, 3) := by decide +kernel
theorem dX4_shirtIn_8 : decode cX4_shirtIn 8 = .ok (.ireturn, 1) := by decide +kernel
theorem dX4_put_0 : decode cX4_put 0 = .ok (.aload_n 0, 1) := by decide +kernel
theorem dX4_put_1 : decode cX4_put 1 = .ok (.getfield 9, 3) := by decide +kernel
theorem dX4_put_4 : decode cX4_put 4 = .ok (.iload_n 1, 1) := by decide +kernel
theorem dX4_put_5 : decode cX4_put 5 = .ok (.iload_n 2, 1) := by decide +kernel
theorem dX4_put_6 : decode cX4_put 6 = .ok (.invokestatic 28, 3) := by decide +kernel
theorem dX4_put_9 : decode cX4_put 9 = .ok (.return_, 1) := by decide +kernel
theorem dX4_placeOf_0 : decode cX4_placeOf 0 = .ok (.iconst 1, 1) := by decide +kernel
theorem dX4_placeOf_1 : decode cX4_placeOf 1 = .ok (.istore_n 2, 1) := by decide +kernel
theorem dX4_placeOf_2 : decode cX4_placeOf 2 = .ok (.iload_n 2, 1) := by decide +kernel
theorem dX4_placeOf_3 : decode cX4_placeOf 3 = .ok (.bipush 6, 2) := by decide +kernel
theorem dX4_placeOf_5 : decode cX4_placeOf 5 = .ok (.if_icmp .gt 20, 3) := by decide +kernel
theorem dX4_placeOf_8 : decode cX4_placeOf 8 = .ok (.aload_n 0, 1) := by decide +kernel
theorem dX4_placeOf_9 : decode cX4_placeOf 9 = .ok (.iload_n 2, 1) := by decide +kernel
theorem dX4_placeOf_10 : decode cX4_placeOf 10 = .ok (.invokevirtual 36, 3) := by decide +kernel
theorem dX4_placeOf_13 : decode cX4_placeOf 13 = .ok (.iload_n 1, 1) := by decide +kernel
theorem dX4_placeOf_14 : decode cX4_placeOf 14 = .ok (.if_icmp .ne 5, 3) := by decide +kernel
theorem dX4_placeOf_17 : decode cX4_placeOf 17 = .ok (.iload_n 2, 1) := by decide +kernel
theorem dX4_placeOf_18 : decode cX4_placeOf 18 = .ok (.ireturn, 1) := by decide +kernel
theorem dX4_placeOf_19 : decode cX4_placeOf 19 = .ok (.iinc 2 1, 3) := by decide +kernel
theorem dX4_placeOf_22 : decode cX4_placeOf 22 = .ok (.goto (-20), 3) := by decide +kernel
theorem dX4_placeOf_25 : decode cX4_placeOf 25 = .ok (.iconst (-1), 1) := by decide +kernel
theorem dX4_placeOf_26 : decode cX4_placeOf 26 = .ok (.ireturn, 1) := by decide +kernel
theorem dX4_isBehind_0 : decode cX4_isBehind 0 = .ok (.aload_n 0, 1) := by decide +kernel
theorem dX4_isBehind_1 : decode cX4_isBehind 1 = .ok (.iload_n 1, 1) := by decide +kernel
theorem dX4_isBehind_2 : decode cX4_isBehind 2 = .ok (.invokevirtual 40, 3) := by decide +kernel
theorem dX4_isBehind_5 : decode cX4_isBehind 5 = .ok (.istore_n 2, 1) := by decide +kernel
theorem dX4_isBehind_6 : decode cX4_isBehind 6 = .ok (.iload_n 2, 1) := by decide +kernel
theorem dX4_isBehind_7 : decode cX4_isBehind 7 = .ok (.iconst 1, 1) := by decide +kernel
theorem dX4_isBehind_8 : decode cX4_isBehind 8 = .ok (.if_icmp .eq 8, 3) := by decide +kernel
theorem dX4_isBehind_11 : decode cX4_isBehind 11 = .ok (.iload_n 2, 1) := by decide +kernel
theorem dX4_isBehind_12 : decode cX4_isBehind 12 = .ok (.iconst 4, 1) := by decide +kernel
theorem dX4_isBehind_13 : decode cX4_isBehind 13 = .ok (.if_icmp .le 7, 3) := by decide +kernel
theorem dX4_isBehind_16 : decode cX4_isBehind 16 = .ok (.iconst 1, 1) := by decide +kernel
theorem dX4_isBehind_17 : decode cX4_isBehind 17 = .ok (.goto 4, 3) := by decide +kernel
theorem dX4_isBehind_20 : decode cX4_isBehind 20 = .ok (.iconst 0, 1) := by decide +kernel
theorem dX4_isBehind_21 : decode cX4_isBehind 21 = .ok (.ireturn, 1) := by decide +kernel
theorem dX4_isLiberoIn_0 : decode cX4_isLiberoIn 0 = .ok (.aload_n 0, 1) := by decide +kernel
theorem dX4_isLiberoIn_1 : decode cX4_isLiberoIn 1 = .ok (.getfield 22, 3) := by decide +kernel
theorem dX4_isLiberoIn_4 : decode cX4_isLiberoIn 4 = .ok (.iconst (-1), 1) := by decide +kernel
theorem dX4_isLiberoIn_5 : decode cX4_isLiberoIn 5 = .ok (.if_icmp .eq 7, 3) := by decide +kernel
theorem dX4_isLiberoIn_8 : decode cX4_isLiberoIn 8 = .ok (.iconst 1, 1) := by decide +kernel
theorem dX4_isLiberoIn_9 : decode cX4_isLiberoIn 9 = .ok (.goto 4, 3) := by decide +kernel
theorem dX4_isLiberoIn_12 : decode cX4_isLiberoIn 12 = .ok (.iconst 0, 1) := by decide +kernel
theorem dX4_isLiberoIn_13 : decode cX4_isLiberoIn 13 = .ok (.ireturn, 1) := by decide +kernel
theorem dX4_isReady_0 : decode cX4_isReady 0 = .ok (.iconst 1, 1) := by decide +kernel
theorem dX4_isReady_1 : decode cX4_isReady 1 = .ok (.istore_n 1, 1) := by decide +kernel
theorem dX4_isReady_2 : decode cX4_isReady 2 = .ok (.iload_n 1, 1) := by decide +kernel
theorem dX4_isReady_3 : decode cX4_isReady 3 = .ok (.bipush 6, 2) := by decide +kernel
theorem dX4_isReady_5 : decode cX4_isReady 5 = .ok (.if_icmp .gt 39, 3) := by decide +kernel
theorem dX4_isReady_8 : decode cX4_isReady 8 = .ok (.aload_n 0, 1) := by decide +kernel
theorem dX4_isReady_9 : decode cX4_isReady 9 = .ok (.iload_n 1, 1) := by decide +kernel
theorem dX4_isReady_10 : decode cX4_isReady 10 = .ok (.invokevirtual 36, 3) := by decide +kernel
theorem dX4_isReady_13 : decode cX4_isReady 13 = .ok (.istore_n 2, 1) := by decide +kernel
theorem dX4_isReady_14 : decode cX4_isReady 14 = .ok (.iload_n 2, 1) := by decide +kernel
theorem dX4_isReady_15 : decode cX4_isReady 15 = .ok (.iconst (-1), 1) := by decide +kernel
theorem dX4_isReady_16 : decode cX4_isReady 16 = .ok (.if_icmp .eq 20, 3) := by decide +kernel
theorem dX4_isReady_19 : decode cX4_isReady 19 = .ok (.iload_n 2, 1) := by decide +kernel
theorem dX4_isReady_20 : decode cX4_isReady 20 = .ok (.aload_n 0, 1) := by decide +kernel
theorem dX4_isReady_21 : decode cX4_isReady 21 = .ok (.getfield 18, 3) := by decide +kernel
theorem dX4_isReady_24 : decode cX4_isReady 24 = .ok (.if_icmp .eq 12, 3) := by decide +kernel
theorem dX4_isReady_27 : decode cX4_isReady 27 = .ok (.aload_n 0, 1) := by decide +kernel
theorem dX4_isReady_28 : decode cX4_isReady 28 = .ok (.iload_n 2, 1) := by decide +kernel
theorem dX4_isReady_29 : decode cX4_isReady 29 = .ok (.invokevirtual 40, 3) := by decide +kernel
theorem dX4_isReady_32 : decode cX4_isReady 32 = .ok (.iload_n 1, 1) := by decide +kernel
theorem dX4_isReady_33 : decode cX4_isReady 33 = .ok (.if_icmp .eq 5, 3) := by decide +kernel
theorem dX4_isReady_36 : decode cX4_isReady 36 = .ok (.iconst 0, 1) := by decide +kernel
theorem dX4_isReady_37 : decode cX4_isReady 37 = .ok (.ireturn, 1) := by decide +kernel
theorem dX4_isReady_38 : decode cX4_isReady 38 = .ok (.iinc 1 1, 3) := by decide +kernel
theorem dX4_isReady_41 : decode cX4_isReady 41 = .ok (.goto (-39), 3) := by decide +kernel
theorem dX4_isReady_44 : decode cX4_isReady 44 = .ok (.iconst 1, 1) := by decide +kernel
theorem dX4_isReady_45 : decode cX4_isReady 45 = .ok (.ireturn, 1) := by decide +kernel
theorem dX4_startSet_0 : decode cX4_startSet 0 = .ok (.aload_n 0, 1) := by decide +kernel
theorem dX4_startSet_1 : decode cX4_startSet 1 = .ok (.iconst 0, 1) := by decide +kernel
theorem dX4_startSet_2 : decode cX4_startSet 2 = .ok (.putfield 43, 3) := by decide +kernel
theorem dX4_startSet_5 : decode cX4_startSet 5 = .ok (.aload_n 0, 1) := by decide +kernel
theorem dX4_startSet_6 : decode cX4_startSet 6 = .ok (.iconst 0, 1) := by decide +kernel
theorem dX4_startSet_7 : decode cX4_startSet 7 = .ok (.putfield 46, 3) := by decide +kernel
theorem dX4_startSet_10 : decode cX4_startSet 10 = .ok (.aload_n 0, 1) := by decide +kernel
theorem dX4_startSet_11 : decode cX4_startSet 11 = .ok (.iconst 0, 1) := by decide +kernel
theorem dX4_startSet_12 : decode cX4_startSet 12 = .ok (.putfield 49, 3) := by decide +kernel
theorem dX4_startSet_15 : decode cX4_startSet 15 = .ok (.aload_n 0, 1) := by decide +kernel
theorem dX4_startSet_16 : decode cX4_startSet 16 = .ok (.iconst 2, 1) := by decide +kernel
theorem dX4_startSet_17 : decode cX4_startSet 17 = .ok (.putfield 25, 3) := by decide +kernel
theorem dX4_startSet_20 : decode cX4_startSet 20 = .ok (.aload_n 0, 1) := by decide +kernel
theorem dX4_startSet_21 : decode cX4_startSet 21 = .ok (.iconst 0, 1) := by decide +kernel
theorem dX4_startSet_22 : decode cX4_startSet 22 = .ok (.putfield 52, 3) := by decide +kernel
theorem dX4_startSet_25 : decode cX4_startSet 25 = .ok (.iconst 1, 1) := by decide +kernel
theorem dX4_startSet_26 : decode cX4_startSet 26 = .ok (.istore_n 1, 1) := by decide +kernel
theorem dX4_startSet_27 : decode cX4_startSet 27 = .ok (.iload_n 1, 1) := by decide +kernel
theorem dX4_startSet_28 : decode cX4_startSet 28 = .ok (.bipush 20, 2) := by decide +kernel
theorem dX4_startSet_30 : decode cX4_startSet 30 = .ok (.if_icmp .gt 18, 3) := by decide +kernel
theorem dX4_startSet_33 : decode cX4_startSet 33 = .ok (.aload_n 0, 1) := by decide +kernel
theorem dX4_startSet_34 : decode cX4_startSet 34 = .ok (.getfield 15, 3) := by decide +kernel
theorem dX4_startSet_37 : decode cX4_startSet 37 = .ok (.iload_n 1, 1) := by decide +kernel
theorem dX4_startSet_38 : decode cX4_startSet 38 = .ok (.iconst 0, 1) := by decide +kernel
theorem dX4_startSet_39 : decode cX4_startSet 39 = .ok (.invokestatic 28, 3) := by decide +kernel
theorem dX4_startSet_42 : decode cX4_startSet 42 = .ok (.iinc 1 1, 3) := by decide +kernel
theorem dX4_startSet_45 : decode cX4_startSet 45 = .ok (.goto (-18), 3) := by decide +kernel
theorem dX4_startSet_48 : decode cX4_startSet 48 = .ok (.return_, 1) := by decide +kernel
theorem dX4_clearOrder_0 : decode cX4_clearOrder 0 = .ok (.iconst 1, 1) := by decide +kernel
theorem dX4_clearOrder_1 : decode cX4_clearOrder 1 = .ok (.istore_n 1, 1) := by decide +kernel
theorem dX4_clearOrder_2 : decode cX4_clearOrder 2 = .ok (.iload_n 1, 1) := by decide +kernel
theorem dX4_clearOrder_3 : decode cX4_clearOrder 3 = .ok (.bipush 6, 2) := by decide +kernel
theorem dX4_clearOrder_5 : decode cX4_clearOrder 5 = .ok (.if_icmp .gt 15, 3) := by decide +kernel
theorem dX4_clearOrder_8 : decode cX4_clearOrder 8 = .ok (.aload_n 0, 1) := by decide +kernel
theorem dX4_clearOrder_9 : decode cX4_clearOrder 9 = .ok (.iload_n 1, 1) := by decide +kernel
theorem dX4_clearOrder_10 : decode cX4_clearOrder 10 = .ok (.iconst (-1), 1) := by decide +kernel
theorem dX4_clearOrder_11 : decode cX4_clearOrder 11 = .ok (.invokevirtual 56, 3) := by decide +kernel
theorem dX4_clearOrder_14 : decode cX4_clearOrder 14 = .ok (.iinc 1 1, 3) := by decide +kernel
theorem dX4_clearOrder_17 : decode cX4_clearOrder 17 = .ok (.goto (-15), 3) := by decide +kernel
theorem dX4_clearOrder_20 : decode cX4_clearOrder 20 = .ok (.aload_n 0, 1) := by decide +kernel
theorem dX4_clearOrder_21 : decode cX4_clearOrder 21 = .ok (.iconst (-1), 1) := by decide +kernel
theorem dX4_clearOrder_22 : decode cX4_clearOrder 22 = .ok (.putfield 18, 3) := by decide +kernel
theorem dX4_clearOrder_25 : decode cX4_clearOrder 25 = .ok (.aload_n 0, 1) := by decide +kernel
theorem dX4_clearOrder_26 : decode cX4_clearOrder 26 = .ok (.iconst (-1), 1) := by decide +kernel
theorem dX4_clearOrder_27 : decode cX4_clearOrder 27 = .ok (.putfield 22, 3) := by decide +kernel
theorem dX4_clearOrder_30 : decode cX4_clearOrder 30 = .ok (.return_, 1) := by decide +kernel
theorem dX4_rotate_0 : decode cX4_rotate 0 = .ok (.aload_n 0, 1) := by decide +kernel
theorem dX4_rotate_1 : decode cX4_rotate 1 = .ok (.iconst 1, 1) := by decide +kernel
theorem dX4_rotate_2 : decode cX4_rotate 2 = .ok (.invokevirtual 36, 3) := by decide +kernel
theorem dX4_rotate_5 : decode cX4_rotate 5 = .ok (.istore_n 1, 1) := by decide +kernel
theorem dX4_rotate_6 : decode cX4_rotate 6 = .ok (.iconst 1, 1) := by decide +kernel
theorem dX4_rotate_7 : decode cX4_rotate 7 = .ok (.istore_n 2, 1) := by decide +kernel
theorem dX4_rotate_8 : decode cX4_rotate 8 = .ok (.iload_n 2, 1) := by decide +kernel
theorem dX4_rotate_9 : decode cX4_rotate 9 = .ok (.bipush 6, 2) := by decide +kernel
theorem dX4_rotate_11 : decode cX4_rotate 11 = .ok (.if_icmp .ge 21, 3) := by decide +kernel
theorem dX4_rotate_14 : decode cX4_rotate 14 = .ok (.aload_n 0, 1) := by decide +kernel
theorem dX4_rotate_15 : decode cX4_rotate 15 = .ok (.iload_n 2, 1) := by decide +kernel
theorem dX4_rotate_16 : decode cX4_rotate 16 = .ok (.aload_n 0, 1) := by decide +kernel
theorem dX4_rotate_17 : decode cX4_rotate 17 = .ok (.iload_n 2, 1) := by decide +kernel
theorem dX4_rotate_18 : decode cX4_rotate 18 = .ok (.iconst 1, 1) := by decide +kernel
theorem dX4_rotate_19 : decode cX4_rotate 19 = .ok (.iadd, 1) := by decide +kernel
theorem dX4_rotate_20 : decode cX4_rotate 20 = .ok (.invokevirtual 36, 3) := by decide +kernel
theorem dX4_rotate_23 : decode cX4_rotate 23 = .ok (.invokevirtual 56, 3) := by decide +kernel
theorem dX4_rotate_26 : decode cX4_rotate 26 = .ok (.iinc 2 1, 3) := by decide +kernel
theorem dX4_rotate_29 : decode cX4_rotate 29 = .ok (.goto (-21), 3) := by decide +kernel
theorem dX4_rotate_32 : decode cX4_rotate 32 = .ok (.aload_n 0, 1) := by decide +kernel
theorem dX4_rotate_33 : decode cX4_rotate 33 = .ok (.bipush 6, 2) := by decide +kernel
theorem dX4_rotate_35 : decode cX4_rotate 35 = .ok (.iload_n 1, 1) := by decide +kernel
theorem dX4_rotate_36 : decode cX4_rotate 36 = .ok (.invokevirtual 56, 3) := by decide +kernel
theorem dX4_rotate_39 : decode cX4_rotate 39 = .ok (.aload_n 0, 1) := by decide +kernel
theorem dX4_rotate_40 : decode cX4_rotate 40 = .ok (.dup, 1) := by decide +kernel
theorem dX4_rotate_41 : decode cX4_rotate 41 = .ok (.getfield 46, 3) := by decide +kernel
theorem dX4_rotate_44 : decode cX4_rotate 44 = .ok (.iconst 1, 1) := by decide +kernel
theorem dX4_rotate_45 : decode cX4_rotate 45 = .ok (.iadd, 1) := by decide +kernel
theorem dX4_rotate_46 : decode cX4_rotate 46 = .ok (.putfield 46, 3) := by decide +kernel
theorem dX4_rotate_49 : decode cX4_rotate 49 = .ok (.aload_n 0, 1) := by decide +kernel
theorem dX4_rotate_50 : decode cX4_rotate 50 = .ok (.invokevirtual 60, 3) := by decide +kernel
theorem dX4_rotate_53 : decode cX4_rotate 53 = .ok (.ifCond .eq 29, 3) := by decide +kernel
theorem dX4_rotate_56 : decode cX4_rotate 56 = .ok (.aload_n 0, 1) := by decide +kernel
theorem dX4_rotate_57 : decode cX4_rotate 57 = .ok (.iconst 4, 1) := by decide +kernel
theorem dX4_rotate_58 : decode cX4_rotate 58 = .ok (.invokevirtual 36, 3) := by decide +kernel
theorem dX4_rotate_61 : decode cX4_rotate 61 = .ok (.aload_n 0, 1) := by decide +kernel
theorem dX4_rotate_62 : decode cX4_rotate 62 = .ok (.getfield 18, 3) := by decide +kernel
theorem dX4_rotate_65 : decode cX4_rotate 65 = .ok (.if_icmp .ne 17, 3) := by decide +kernel
theorem dX4_rotate_68 : decode cX4_rotate 68 = .ok (.aload_n 0, 1) := by decide +kernel
theorem dX4_rotate_69 : decode cX4_rotate 69 = .ok (.iconst 4, 1) := by decide +kernel
theorem dX4_rotate_70 : decode cX4_rotate 70 = .ok (.aload_n 0, 1) := by decide +kernel
theorem dX4_rotate_71 : decode cX4_rotate 71 = .ok (.getfield 22, 3) := by decide +kernel
theorem dX4_rotate_74 : decode cX4_rotate 74 = .ok (.invokevirtual 56, 3) := by decide +kernel
theorem dX4_rotate_77 : decode cX4_rotate 77 = .ok (.aload_n 0, 1) := by decide +kernel
theorem dX4_rotate_78 : decode cX4_rotate 78 = .ok (.iconst (-1), 1) := by decide +kernel
theorem dX4_rotate_79 : decode cX4_rotate 79 = .ok (.putfield 22, 3) := by decide +kernel
theorem dX4_rotate_82 : decode cX4_rotate 82 = .ok (.return_, 1) := by decide +kernel
theorem dX4_faultOf_0 : decode cX4_faultOf 0 = .ok (.iload_n 2, 1) := by decide +kernel
theorem dX4_faultOf_1 : decode cX4_faultOf 1 = .ok (.iconst 2, 1) := by decide +kernel
theorem dX4_faultOf_2 : decode cX4_faultOf 2 = .ok (.if_icmp .eq 12, 3) := by decide +kernel
theorem dX4_faultOf_5 : decode cX4_faultOf 5 = .ok (.iload_n 2, 1) := by decide +kernel
theorem dX4_faultOf_6 : decode cX4_faultOf 6 = .ok (.iconst 1, 1) := by decide +kernel
theorem dX4_faultOf_7 : decode cX4_faultOf 7 = .ok (.if_icmp .ne 11, 3) := by decide +kernel
theorem dX4_faultOf_10 : decode cX4_faultOf 10 = .ok (.iload_n 3, 1) := by decide +kernel
theorem dX4_faultOf_11 : decode cX4_faultOf 11 = .ok (.ifCond .eq 7, 3) := by decide +kernel
theorem dX4_faultOf_14 : decode cX4_faultOf 14 = .ok (.iconst 1, 1) := by decide +kernel
theorem dX4_faultOf_15 : decode cX4_faultOf 15 = .ok (.goto 4, 3) := by decide +kernel
theorem dX4_faultOf_18 : decode cX4_faultOf 18 = .ok (.iconst 0, 1) := by decide +kernel
theorem dX4_faultOf_19 : decode cX4_faultOf 19 = .ok (.istore 4, 2) := by decide +kernel
theorem dX4_faultOf_21 : decode cX4_faultOf 21 = .ok (.iload 4, 2) := by decide +kernel
theorem dX4_faultOf_23 : decode cX4_faultOf 23 = .ok (.ifCond .eq 13, 3) := by decide +kernel
theorem dX4_faultOf_26 : decode cX4_faultOf 26 = .ok (.aload_n 0, 1) := by decide +kernel
theorem dX4_faultOf_27 : decode cX4_faultOf 27 = .ok (.iload_n 1, 1) := by decide +kernel
theorem dX4_faultOf_28 : decode cX4_faultOf 28 = .ok (.invokevirtual 64, 3) := by decide +kernel
theorem dX4_faultOf_31 : decode cX4_faultOf 31 = .ok (.ifCond .eq 5, 3) := by decide +kernel
theorem dX4_faultOf_34 : decode cX4_faultOf 34 = .ok (.iconst 4, 1) := by decide +kernel
theorem dX4_faultOf_35 : decode cX4_faultOf 35 = .ok (.ireturn, 1) := by decide +kernel
theorem dX4_faultOf_36 : decode cX4_faultOf 36 = .ok (.iload_n 2, 1) := by decide +kernel
theorem dX4_faultOf_37 : decode cX4_faultOf 37 = .ok (.iconst 1, 1) := by decide +kernel
theorem dX4_faultOf_38 : decode cX4_faultOf 38 = .ok (.if_icmp .ne 15, 3) := by decide +kernel
theorem dX4_faultOf_41 : decode cX4_faultOf 41 = .ok (.iload_n 1, 1) := by decide +kernel
theorem dX4_faultOf_42 : decode cX4_faultOf 42 = .ok (.aload_n 0, 1) := by decide +kernel
theorem dX4_faultOf_43 : decode cX4_faultOf 43 = .ok (.getfield 18, 3) := by decide +kernel
theorem dX4_faultOf_46 : decode cX4_faultOf 46 = .ok (.if_icmp .ne 7, 3) := by decide +kernel
theorem dX4_faultOf_49 : decode cX4_faultOf 49 = .ok (.iconst 5, 1) := by decide +kernel
theorem dX4_faultOf_50 : decode cX4_faultOf 50 = .ok (.goto 4, 3) := by decide +kernel
theorem dX4_faultOf_53 : decode cX4_faultOf 53 = .ok (.iconst 0, 1) := by decide +kernel
theorem dX4_faultOf_54 : decode cX4_faultOf 54 = .ok (.ireturn, 1) := by decide +kernel
theorem dX4_canExchange_0 : decode cX4_canExchange 0 = .ok (.aload_n 0, 1) := by decide +kernel
theorem dX4_canExchange_1 : decode cX4_canExchange 1 = .ok (.getfield 18, 3) := by decide +kernel
theorem dX4_canExchange_4 : decode cX4_canExchange 4 = .ok (.iconst (-1), 1) := by decide +kernel
theorem dX4_canExchange_5 : decode cX4_canExchange 5 = .ok (.if_icmp .eq 10, 3) := by decide +kernel
theorem dX4_canExchange_8 : decode cX4_canExchange 8 = .ok (.aload_n 0, 1) := by decide +kernel
theorem dX4_canExchange_9 : decode cX4_canExchange 9 = .ok (.getfield 52, 3) := by decide +kernel
theorem dX4_canExchange_12 : decode cX4_canExchange 12 = .ok (.ifCond .eq 5, 3) := by decide +kernel
theorem dX4_canExchange_15 : decode cX4_canExchange 15 = .ok (.iconst 0, 1) := by decide +kernel
theorem dX4_canExchange_16 : decode cX4_canExchange 16 = .ok (.ireturn, 1) := by decide +kernel
theorem dX4_canExchange_17 : decode cX4_canExchange 17 = .ok (.aload_n 0, 1) := by decide +kernel
theorem dX4_canExchange_18 : decode cX4_canExchange 18 = .ok (.invokevirtual 60, 3) := by decide +kernel
theorem dX4_canExchange_21 : decode cX4_canExchange 21 = .ok (.ifCond .eq 19, 3) := by decide +kernel
theorem dX4_canExchange_24 : decode cX4_canExchange 24 = .ok (.iload_n 1, 1) := by decide +kernel
theorem dX4_canExchange_25 : decode cX4_canExchange 25 = .ok (.aload_n 0, 1) := by decide +kernel
theorem dX4_canExchange_26 : decode cX4_canExchange 26 = .ok (.getfield 22, 3) := by decide +kernel
theorem dX4_canExchange_29 : decode cX4_canExchange 29 = .ok (.if_icmp .ne 7, 3) := by decide +kernel
theorem dX4_canExchange_32 : decode cX4_canExchange 32 = .ok (.iconst 1, 1) := by decide +kernel
theorem dX4_canExchange_33 : decode cX4_canExchange 33 = .ok (.goto 12, 3) := by decide +kernel
theorem dX4_canExchange_36 : decode cX4_canExchange 36 = .ok (.iconst 0, 1) := by decide +kernel
theorem dX4_canExchange_37 : decode cX4_canExchange 37 = .ok (.goto 8, 3) := by decide +kernel
theorem dX4_canExchange_40 : decode cX4_canExchange 40 = .ok (.aload_n 0, 1) := by decide +kernel
theorem dX4_canExchange_41 : decode cX4_canExchange 41 = .ok (.iload_n 1, 1) := by decide +kernel
theorem dX4_canExchange_42 : decode cX4_canExchange 42 = .ok (.invokevirtual 64, 3) := by decide +kernel
theorem dX4_canExchange_45 : decode cX4_canExchange 45 = .ok (.ireturn, 1) := by decide +kernel
theorem dX4_swapLibero_0 : decode cX4_swapLibero 0 = .ok (.aload_n 0, 1) := by decide +kernel
theorem dX4_swapLibero_1 : decode cX4_swapLibero 1 = .ok (.invokevirtual 60, 3) := by decide +kernel
theorem dX4_swapLibero_4 : decode cX4_swapLibero 4 = .ok (.ifCond .eq 24, 3) := by decide +kernel
theorem dX4_swapLibero_7 : decode cX4_swapLibero 7 = .ok (.aload_n 0, 1) := by decide +kernel
theorem dX4_swapLibero_8 : decode cX4_swapLibero 8 = .ok (.aload_n 0, 1) := by decide +kernel
theorem dX4_swapLibero_9 : decode cX4_swapLibero 9 = .ok (.aload_n 0, 1) := by decide +kernel
theorem dX4_swapLibero_10 : decode cX4_swapLibero 10 = .ok (.getfield 18, 3) := by decide +kernel
theorem dX4_swapLibero_13 : decode cX4_swapLibero 13 = .ok (.invokevirtual 40, 3) := by decide +kernel
theorem dX4_swapLibero_16 : decode cX4_swapLibero 16 = .ok (.iload_n 1, 1) := by decide +kernel
theorem dX4_swapLibero_17 : decode cX4_swapLibero 17 = .ok (.invokevirtual 56, 3) := by decide +kernel
theorem dX4_swapLibero_20 : decode cX4_swapLibero 20 = .ok (.aload_n 0, 1) := by decide +kernel
theorem dX4_swapLibero_21 : decode cX4_swapLibero 21 = .ok (.iconst (-1), 1) := by decide +kernel
theorem dX4_swapLibero_22 : decode cX4_swapLibero 22 = .ok (.putfield 22, 3) := by decide +kernel
theorem dX4_swapLibero_25 : decode cX4_swapLibero 25 = .ok (.goto 21, 3) := by decide +kernel
theorem dX4_swapLibero_28 : decode cX4_swapLibero 28 = .ok (.aload_n 0, 1) := by decide +kernel
theorem dX4_swapLibero_29 : decode cX4_swapLibero 29 = .ok (.aload_n 0, 1) := by decide +kernel
theorem dX4_swapLibero_30 : decode cX4_swapLibero 30 = .ok (.iload_n 1, 1) := by decide +kernel
theorem dX4_swapLibero_31 : decode cX4_swapLibero 31 = .ok (.invokevirtual 40, 3) := by decide +kernel
theorem dX4_swapLibero_34 : decode cX4_swapLibero 34 = .ok (.aload_n 0, 1) := by decide +kernel
theorem dX4_swapLibero_35 : decode cX4_swapLibero 35 = .ok (.getfield 18, 3) := by decide +kernel
theorem dX4_swapLibero_38 : decode cX4_swapLibero 38 = .ok (.invokevirtual 56, 3) := by decide +kernel
theorem dX4_swapLibero_41 : decode cX4_swapLibero 41 = .ok (.aload_n 0, 1) := by decide +kernel
theorem dX4_swapLibero_42 : decode cX4_swapLibero 42 = .ok (.iload_n 1, 1) := by decide +kernel
theorem dX4_swapLibero_43 : decode cX4_swapLibero 43 = .ok (.putfield 22, 3) := by decide +kernel
theorem dX4_swapLibero_46 : decode cX4_swapLibero 46 = .ok (.aload_n 0, 1) := by decide +kernel
theorem dX4_swapLibero_47 : decode cX4_swapLibero 47 = .ok (.iconst 1, 1) := by decide +kernel
theorem dX4_swapLibero_48 : decode cX4_swapLibero 48 = .ok (.putfield 52, 3) := by decide +kernel
theorem dX4_swapLibero_51 : decode cX4_swapLibero 51 = .ok (.return_, 1) := by decide +kernel
theorem dX4_canSubstitute_0 : decode cX4_canSubstitute 0 = .ok (.aload_n 0, 1) := by decide +kernel
theorem dX4_canSubstitute_1 : decode cX4_canSubstitute 1 = .ok (.getfield 49, 3) := by decide +kernel
theorem dX4_canSubstitute_4 : decode cX4_canSubstitute 4 = .ok (.bipush 6, 2) := by decide +kernel
theorem dX4_canSubstitute_6 : decode cX4_canSubstitute 6 = .ok (.if_icmp .ge 27, 3) := by decide +kernel
theorem dX4_canSubstitute_9 : decode cX4_canSubstitute 9 = .ok (.iload_n 1, 1) := by decide +kernel
theorem dX4_canSubstitute_10 : decode cX4_canSubstitute 10 = .ok (.aload_n 0, 1) := by decide +kernel
theorem dX4_canSubstitute_11 : decode cX4_canSubstitute 11 = .ok (.getfield 18, 3) := by decide +kernel
theorem dX4_canSubstitute_14 : decode cX4_canSubstitute 14 = .ok (.if_icmp .eq 19, 3) := by decide +kernel
theorem dX4_canSubstitute_17 : decode cX4_canSubstitute 17 = .ok (.iload_n 2, 1) := by decide +kernel
theorem dX4_canSubstitute_18 : decode cX4_canSubstitute 18 = .ok (.aload_n 0, 1) := by decide +kernel
theorem dX4_canSubstitute_19 : decode cX4_canSubstitute 19 = .ok (.getfield 18, 3) := by decide +kernel
theorem dX4_canSubstitute_22 : decode cX4_canSubstitute 22 = .ok (.if_icmp .eq 11, 3) := by decide +kernel
theorem dX4_canSubstitute_25 : decode cX4_canSubstitute 25 = .ok (.iload_n 2, 1) := by decide +kernel
theorem dX4_canSubstitute_26 : decode cX4_canSubstitute 26 = .ok (.aload_n 0, 1) := by decide +kernel
theorem dX4_canSubstitute_27 : decode cX4_canSubstitute 27 = .ok (.getfield 22, 3) := by decide +kernel
theorem dX4_canSubstitute_30 : decode cX4_canSubstitute 30 = .ok (.if_icmp .ne 5, 3) := by decide +kernel
theorem dX4_canSubstitute_33 : decode cX4_canSubstitute 33 = .ok (.iconst 0, 1) := by decide +kernel
theorem dX4_canSubstitute_34 : decode cX4_canSubstitute 34 = .ok (.ireturn, 1) := by decide +kernel
theorem dX4_canSubstitute_35 : decode cX4_canSubstitute 35 = .ok (.aload_n 0, 1) := by decide +kernel
theorem dX4_canSubstitute_36 : decode cX4_canSubstitute 36 = .ok (.iload_n 1, 1) := by decide +kernel
theorem dX4_canSubstitute_37 : decode cX4_canSubstitute 37 = .ok (.invokevirtual 40, 3) := by decide +kernel
theorem dX4_canSubstitute_40 : decode cX4_canSubstitute 40 = .ok (.iconst (-1), 1) := by decide +kernel
theorem dX4_canSubstitute_41 : decode cX4_canSubstitute 41 = .ok (.if_icmp .eq 12, 3) := by decide +kernel
theorem dX4_canSubstitute_44 : decode cX4_canSubstitute 44 = .ok (.aload_n 0, 1) := by decide +kernel
theorem dX4_canSubstitute_45 : decode cX4_canSubstitute 45 = .ok (.iload_n 2, 1) := by decide +kernel
theorem dX4_canSubstitute_46 : decode cX4_canSubstitute 46 = .ok (.invokevirtual 40, 3) := by decide +kernel
theorem dX4_canSubstitute_49 : decode cX4_canSubstitute 49 = .ok (.iconst (-1), 1) := by decide +kernel
theorem dX4_canSubstitute_50 : decode cX4_canSubstitute 50 = .ok (.if_icmp .eq 5, 3) := by decide +kernel
theorem dX4_canSubstitute_53 : decode cX4_canSubstitute 53 = .ok (.iconst 0, 1) := by decide +kernel
theorem dX4_canSubstitute_54 : decode cX4_canSubstitute 54 = .ok (.ireturn, 1) := by decide +kernel
theorem dX4_canSubstitute_55 : decode cX4_canSubstitute 55 = .ok (.aload_n 0, 1) := by decide +kernel
theorem dX4_canSubstitute_56 : decode cX4_canSubstitute 56 = .ok (.getfield 15, 3) := by decide +kernel
theorem dX4_canSubstitute_59 : decode cX4_canSubstitute 59 = .ok (.iload_n 1, 1) := by decide +kernel
theorem dX4_canSubstitute_60 : decode cX4_canSubstitute 60 = .ok (.invokestatic 32, 3) := by decide +kernel
theorem dX4_canSubstitute_63 : decode cX4_canSubstitute 63 = .ok (.ifCond .ne 18, 3) := by decide +kernel
theorem dX4_canSubstitute_66 : decode cX4_canSubstitute 66 = .ok (.aload_n 0, 1) := by decide +kernel
theorem dX4_canSubstitute_67 : decode cX4_canSubstitute 67 = .ok (.getfield 15, 3) := by decide +kernel
theorem dX4_canSubstitute_70 : decode cX4_canSubstitute 70 = .ok (.iload_n 2, 1) := by decide +kernel
theorem dX4_canSubstitute_71 : decode cX4_canSubstitute 71 = .ok (.invokestatic 32, 3) := by decide +kernel
theorem dX4_canSubstitute_74 : decode cX4_canSubstitute 74 = .ok (.ifCond .ne 7, 3) := by decide +kernel
theorem dX4_canSubstitute_77 : decode cX4_canSubstitute 77 = .ok (.iconst 1, 1) := by decide +kernel
theorem dX4_canSubstitute_78 : decode cX4_canSubstitute 78 = .ok (.goto 4, 3) := by decide +kernel
theorem dX4_canSubstitute_81 : decode cX4_canSubstitute 81 = .ok (.iconst 0, 1) := by decide +kernel
theorem dX4_canSubstitute_82 : decode cX4_canSubstitute 82 = .ok (.istore_n 3, 1) := by decide +kernel
theorem dX4_canSubstitute_83 : decode cX4_canSubstitute 83 = .ok (.iload_n 3, 1) := by decide +kernel
theorem dX4_canSubstitute_84 : decode cX4_canSubstitute 84 = .ok (.ifCond .ne 15, 3) := by decide +kernel
theorem dX4_canSubstitute_87 : decode cX4_canSubstitute 87 = .ok (.aload_n 0, 1) := by decide +kernel
theorem dX4_canSubstitute_88 : decode cX4_canSubstitute 88 = .ok (.getfield 15, 3) := by decide +kernel
theorem dX4_canSubstitute_91 : decode cX4_canSubstitute 91 = .ok (.iload_n 1, 1) := by decide +kernel
theorem dX4_canSubstitute_92 : decode cX4_canSubstitute 92 = .ok (.invokestatic 32, 3) := by decide +kernel
theorem dX4_canSubstitute_95 : decode cX4_canSubstitute 95 = .ok (.iload_n 2, 1) := by decide +kernel
theorem dX4_canSubstitute_96 : decode cX4_canSubstitute 96 = .ok (.if_icmp .ne 7, 3) := by decide +kernel
theorem dX4_canSubstitute_99 : decode cX4_canSubstitute 99 = .ok (.iconst 1, 1) := by decide +kernel
theorem dX4_canSubstitute_100 : decode cX4_canSubstitute 100 = .ok (.goto 4, 3) := by decide +kernel
theorem dX4_canSubstitute_103 : decode cX4_canSubstitute 103 = .ok (.iconst 0, 1) := by decide +kernel
theorem dX4_canSubstitute_104 : decode cX4_canSubstitute 104 = .ok (.ireturn, 1) := by decide +kernel
theorem dX4_swapByPair_0 : decode cX4_swapByPair 0 = .ok (.aload_n 0, 1) := by decide +kernel
theorem dX4_swapByPair_1 : decode cX4_swapByPair 1 = .ok (.getfield 15, 3) := by decide +kernel
theorem dX4_swapByPair_4 : decode cX4_swapByPair 4 = .ok (.iload_n 1, 1) := by decide +kernel
theorem dX4_swapByPair_5 : decode cX4_swapByPair 5 = .ok (.invokestatic 32, 3) := by decide +kernel
theorem dX4_swapByPair_8 : decode cX4_swapByPair 8 = .ok (.iload_n 2, 1) := by decide +kernel
theorem dX4_swapByPair_9 : decode cX4_swapByPair 9 = .ok (.if_icmp .ne 7, 3) := by decide +kernel
theorem dX4_swapByPair_12 : decode cX4_swapByPair 12 = .ok (.iconst 1, 1) := by decide +kernel
theorem dX4_swapByPair_13 : decode cX4_swapByPair 13 = .ok (.goto 4, 3) := by decide +kernel
theorem dX4_swapByPair_16 : decode cX4_swapByPair 16 = .ok (.iconst 0, 1) := by decide +kernel
theorem dX4_swapByPair_17 : decode cX4_swapByPair 17 = .ok (.istore_n 3, 1) := by decide +kernel
theorem dX4_swapByPair_18 : decode cX4_swapByPair 18 = .ok (.aload_n 0, 1) := by decide +kernel
theorem dX4_swapByPair_19 : decode cX4_swapByPair 19 = .ok (.getfield 15, 3) := by decide +kernel
theorem dX4_swapByPair_22 : decode cX4_swapByPair 22 = .ok (.iload_n 1, 1) := by decide +kernel
theorem dX4_swapByPair_23 : decode cX4_swapByPair 23 = .ok (.iconst (-1), 1) := by decide +kernel
theorem dX4_swapByPair_24 : decode cX4_swapByPair 24 = .ok (.invokestatic 28, 3) := by decide +kernel
theorem dX4_swapByPair_27 : decode cX4_swapByPair 27 = .ok (.aload_n 0, 1) := by decide +kernel
theorem dX4_swapByPair_28 : decode cX4_swapByPair 28 = .ok (.getfield 15, 3) := by decide +kernel
theorem dX4_swapByPair_31 : decode cX4_swapByPair 31 = .ok (.iload_n 2, 1) := by decide +kernel
theorem dX4_swapByPair_32 : decode cX4_swapByPair 32 = .ok (.iload_n 3, 1) := by decide +kernel
theorem dX4_swapByPair_33 : decode cX4_swapByPair 33 = .ok (.ifCond .eq 7, 3) := by decide +kernel
theorem dX4_swapByPair_36 : decode cX4_swapByPair 36 = .ok (.iconst (-1), 1) := by decide +kernel
theorem dX4_swapByPair_37 : decode cX4_swapByPair 37 = .ok (.goto 4, 3) := by decide +kernel
theorem dX4_swapByPair_40 : decode cX4_swapByPair 40 = .ok (.iload_n 1, 1) := by decide +kernel
theorem dX4_swapByPair_41 : decode cX4_swapByPair 41 = .ok (.invokestatic 28, 3) := by decide +kernel
theorem dX4_swapByPair_44 : decode cX4_swapByPair 44 = .ok (.aload_n 0, 1) := by decide +kernel
theorem dX4_swapByPair_45 : decode cX4_swapByPair 45 = .ok (.aload_n 0, 1) := by decide +kernel
theorem dX4_swapByPair_46 : decode cX4_swapByPair 46 = .ok (.iload_n 1, 1) := by decide +kernel
theorem dX4_swapByPair_47 : decode cX4_swapByPair 47 = .ok (.invokevirtual 40, 3) := by decide +kernel
theorem dX4_swapByPair_50 : decode cX4_swapByPair 50 = .ok (.iload_n 2, 1) := by decide +kernel
theorem dX4_swapByPair_51 : decode cX4_swapByPair 51 = .ok (.invokevirtual 56, 3) := by decide +kernel
theorem dX4_swapByPair_54 : decode cX4_swapByPair 54 = .ok (.aload_n 0, 1) := by decide +kernel
theorem dX4_swapByPair_55 : decode cX4_swapByPair 55 = .ok (.dup, 1) := by decide +kernel
theorem dX4_swapByPair_56 : decode cX4_swapByPair 56 = .ok (.getfield 49, 3) := by decide +kernel
theorem dX4_swapByPair_59 : decode cX4_swapByPair 59 = .ok (.iconst 1, 1) := by decide +kernel
theorem dX4_swapByPair_60 : decode cX4_swapByPair 60 = .ok (.iadd, 1) := by decide +kernel
theorem dX4_swapByPair_61 : decode cX4_swapByPair 61 = .ok (.putfield 49, 3) := by decide +kernel
theorem dX4_swapByPair_64 : decode cX4_swapByPair 64 = .ok (.return_, 1) := by decide +kernel
theorem dX4_copyFrom_0 : decode cX4_copyFrom 0 = .ok (.iconst 1, 1) := by decide +kernel
theorem dX4_copyFrom_1 : decode cX4_copyFrom 1 = .ok (.istore_n 2, 1) := by decide +kernel
theorem dX4_copyFrom_2 : decode cX4_copyFrom 2 = .ok (.iload_n 2, 1) := by decide +kernel
theorem dX4_copyFrom_3 : decode cX4_copyFrom 3 = .ok (.bipush 6, 2) := by decide +kernel
theorem dX4_copyFrom_5 : decode cX4_copyFrom 5 = .ok (.if_icmp .gt 19, 3) := by decide +kernel
theorem dX4_copyFrom_8 : decode cX4_copyFrom 8 = .ok (.aload_n 0, 1) := by decide +kernel
theorem dX4_copyFrom_9 : decode cX4_copyFrom 9 = .ok (.iload_n 2, 1) := by decide +kernel
theorem dX4_copyFrom_10 : decode cX4_copyFrom 10 = .ok (.aload_n 1, 1) := by decide +kernel
theorem dX4_copyFrom_11 : decode cX4_copyFrom 11 = .ok (.iload_n 2, 1) := by decide +kernel
theorem dX4_copyFrom_12 : decode cX4_copyFrom 12 = .ok (.invokevirtual 36, 3) := by decide +kernel
theorem dX4_copyFrom_15 : decode cX4_copyFrom 15 = .ok (.invokevirtual 56, 3) := by decide +kernel
theorem dX4_copyFrom_18 : decode cX4_copyFrom 18 = .ok (.iinc 2 1, 3) := by decide +kernel
theorem dX4_copyFrom_21 : decode cX4_copyFrom 21 = .ok (.goto (-19), 3) := by decide +kernel
theorem dX4_copyFrom_24 : decode cX4_copyFrom 24 = .ok (.iconst 1, 1) := by decide +kernel
theorem dX4_copyFrom_25 : decode cX4_copyFrom 25 = .ok (.istore_n 2, 1) := by decide +kernel
theorem dX4_copyFrom_26 : decode cX4_copyFrom 26 = .ok (.iload_n 2, 1) := by decide +kernel
theorem dX4_copyFrom_27 : decode cX4_copyFrom 27 = .ok (.bipush 20, 2) := by decide +kernel
theorem dX4_copyFrom_29 : decode cX4_copyFrom 29 = .ok (.if_icmp .gt 25, 3) := by decide +kernel
theorem dX4_copyFrom_32 : decode cX4_copyFrom 32 = .ok (.aload_n 0, 1) := by decide +kernel
theorem dX4_copyFrom_33 : decode cX4_copyFrom 33 = .ok (.getfield 15, 3) := by decide +kernel
theorem dX4_copyFrom_36 : decode cX4_copyFrom 36 = .ok (.iload_n 2, 1) := by decide +kernel
theorem dX4_copyFrom_37 : decode cX4_copyFrom 37 = .ok (.aload_n 1, 1) := by decide +kernel
theorem dX4_copyFrom_38 : decode cX4_copyFrom 38 = .ok (.getfield 15, 3) := by decide +kernel
theorem dX4_copyFrom_41 : decode cX4_copyFrom 41 = .ok (.iload_n 2, 1) := by decide +kernel
theorem dX4_copyFrom_42 : decode cX4_copyFrom 42 = .ok (.invokestatic 32, 3) := by decide +kernel
theorem dX4_copyFrom_45 : decode cX4_copyFrom 45 = .ok (.invokestatic 28, 3) := by decide +kernel
theorem dX4_copyFrom_48 : decode cX4_copyFrom 48 = .ok (.iinc 2 1, 3) := by decide +kernel
theorem dX4_copyFrom_51 : decode cX4_copyFrom 51 = .ok (.goto (-25), 3) := by decide +kernel
theorem dX4_copyFrom_54 : decode cX4_copyFrom 54 = .ok (.aload_n 0, 1) := by decide +kernel
theorem dX4_copyFrom_55 : decode cX4_copyFrom 55 = .ok (.aload_n 1, 1) := by decide +kernel
theorem dX4_copyFrom_56 : decode cX4_copyFrom 56 = .ok (.getfield 18, 3) := by decide +kernel
theorem dX4_copyFrom_59 : decode cX4_copyFrom 59 = .ok (.putfield 18, 3) := by decide +kernel
theorem dX4_copyFrom_62 : decode cX4_copyFrom 62 = .ok (.aload_n 0, 1) := by decide +kernel
theorem dX4_copyFrom_63 : decode cX4_copyFrom 63 = .ok (.aload_n 1, 1) := by decide +kernel
theorem dX4_copyFrom_64 : decode cX4_copyFrom 64 = .ok (.getfield 22, 3) := by decide +kernel
theorem dX4_copyFrom_67 : decode cX4_copyFrom 67 = .ok (.putfield 22, 3) := by decide +kernel
theorem dX4_copyFrom_70 : decode cX4_copyFrom 70 = .ok (.aload_n 0, 1) := by decide +kernel
theorem dX4_copyFrom_71 : decode cX4_copyFrom 71 = .ok (.aload_n 1, 1) := by decide +kernel
theorem dX4_copyFrom_72 : decode cX4_copyFrom 72 = .ok (.getfield 43, 3) := by decide +kernel
theorem dX4_copyFrom_75 : decode cX4_copyFrom 75 = .ok (.putfield 43, 3) := by decide +kernel
theorem dX4_copyFrom_78 : decode cX4_copyFrom 78 = .ok (.aload_n 0, 1) := by decide +kernel
theorem dX4_copyFrom_79 : decode cX4_copyFrom 79 = .ok (.aload_n 1, 1) := by decide +kernel
theorem dX4_copyFrom_80 : decode cX4_copyFrom 80 = .ok (.getfield 68, 3) := by decide +kernel
theorem dX4_copyFrom_83 : decode cX4_copyFrom 83 = .ok (.putfield 68, 3) := by decide +kernel
theorem dX4_copyFrom_86 : decode cX4_copyFrom 86 = .ok (.aload_n 0, 1) := by decide +kernel
theorem dX4_copyFrom_87 : decode cX4_copyFrom 87 = .ok (.aload_n 1, 1) := by decide +kernel
theorem dX4_copyFrom_88 : decode cX4_copyFrom 88 = .ok (.getfield 46, 3) := by decide +kernel
theorem dX4_copyFrom_91 : decode cX4_copyFrom 91 = .ok (.putfield 46, 3) := by decide +kernel
theorem dX4_copyFrom_94 : decode cX4_copyFrom 94 = .ok (.aload_n 0, 1) := by decide +kernel
theorem dX4_copyFrom_95 : decode cX4_copyFrom 95 = .ok (.aload_n 1, 1) := by decide +kernel
theorem dX4_copyFrom_96 : decode cX4_copyFrom 96 = .ok (.getfield 49, 3) := by decide +kernel
theorem dX4_copyFrom_99 : decode cX4_copyFrom 99 = .ok (.putfield 49, 3) := by decide +kernel
theorem dX4_copyFrom_102 : decode cX4_copyFrom 102 = .ok (.aload_n 0, 1) := by decide +kernel
theorem dX4_copyFrom_103 : decode cX4_copyFrom 103 = .ok (.aload_n 1, 1) := by decide +kernel
theorem dX4_copyFrom_104 : decode cX4_copyFrom 104 = .ok (.getfield 25, 3) := by decide +kernel
theorem dX4_copyFrom_107 : decode cX4_copyFrom 107 = .ok (.putfield 25, 3) := by decide +kernel
theorem dX4_copyFrom_110 : decode cX4_copyFrom 110 = .ok (.aload_n 0, 1) := by decide +kernel
theorem dX4_copyFrom_111 : decode cX4_copyFrom 111 = .ok (.aload_n 1, 1) := by decide +kernel
theorem dX4_copyFrom_112 : decode cX4_copyFrom 112 = .ok (.getfield 52, 3) := by decide +kernel
theorem dX4_copyFrom_115 : decode cX4_copyFrom 115 = .ok (.putfield 52, 3) := by decide +kernel
theorem dX4_copyFrom_118 : decode cX4_copyFrom 118 = .ok (.return_, 1) := by decide +kernel
theorem dX5_init_0 : decode cX5_init 0 = .ok (.aload_n 0, 1) := by decide +kernel
theorem dX5_init_1 : decode cX5_init 1 = .ok (.invokespecial 1, 3) := by decide +kernel
theorem dX5_init_4 : decode cX5_init 4 = .ok (.aload_n 0, 1) := by decide +kernel
theorem dX5_init_5 : decode cX5_init 5 = .ok (.new 7, 3) := by decide +kernel
theorem dX5_init_8 : decode cX5_init 8 = .ok (.dup, 1) := by decide +kernel
theorem dX5_init_9 : decode cX5_init 9 = .ok (.invokespecial 9, 3) := by decide +kernel
theorem dX5_init_12 : decode cX5_init 12 = .ok (.putfield 10, 3) := by decide +kernel
theorem dX5_init_15 : decode cX5_init 15 = .ok (.aload_n 0, 1) := by decide +kernel
theorem dX5_init_16 : decode cX5_init 16 = .ok (.new 7, 3) := by decide +kernel
theorem dX5_init_19 : decode cX5_init 19 = .ok (.dup, 1) := by decide +kernel
theorem dX5_init_20 : decode cX5_init 20 = .ok (.invokespecial 9, 3) := by decide +kernel
theorem dX5_init_23 : decode cX5_init 23 = .ok (.putfield 16, 3) := by decide +kernel
theorem dX5_init_26 : decode cX5_init 26 = .ok (.aload_n 0, 1) := by decide +kernel
theorem dX5_init_27 : decode cX5_init 27 = .ok (.new 19, 3) := by decide +kernel
theorem dX5_init_30 : decode cX5_init 30 = .ok (.dup, 1) := by decide +kernel
theorem dX5_init_31 : decode cX5_init 31 = .ok (.invokespecial 21, 3) := by decide +kernel
theorem dX5_init_34 : decode cX5_init 34 = .ok (.putfield 22, 3) := by decide +kernel
theorem dX5_init_37 : decode cX5_init 37 = .ok (.aload_n 0, 1) := by decide +kernel
theorem dX5_init_38 : decode cX5_init 38 = .ok (.new 26, 3) := by decide +kernel
theorem dX5_init_41 : decode cX5_init 41 = .ok (.dup, 1) := by decide +kernel
theorem dX5_init_42 : decode cX5_init 42 = .ok (.invokespecial 28, 3) := by decide +kernel
theorem dX5_init_45 : decode cX5_init 45 = .ok (.putfield 29, 3) := by decide +kernel
theorem dX5_init_48 : decode cX5_init 48 = .ok (.aload_n 0, 1) := by decide +kernel
theorem dX5_init_49 : decode cX5_init 49 = .ok (.new 33, 3) := by decide +kernel
theorem dX5_init_52 : decode cX5_init 52 = .ok (.dup, 1) := by decide +kernel
theorem dX5_init_53 : decode cX5_init 53 = .ok (.invokespecial 35, 3) := by decide +kernel
theorem dX5_init_56 : decode cX5_init 56 = .ok (.putfield 36, 3) := by decide +kernel
theorem dX5_init_59 : decode cX5_init 59 = .ok (.aload_n 0, 1) := by decide +kernel
theorem dX5_init_60 : decode cX5_init 60 = .ok (.iconst (-1), 1) := by decide +kernel
theorem dX5_init_61 : decode cX5_init 61 = .ok (.putfield 40, 3) := by decide +kernel
theorem dX5_init_64 : decode cX5_init 64 = .ok (.return_, 1) := by decide +kernel
theorem dX5_line_0 : decode cX5_line 0 = .ok (.iload_n 1, 1) := by decide +kernel
theorem dX5_line_1 : decode cX5_line 1 = .ok (.invokestatic 44, 3) := by decide +kernel
theorem dX5_line_4 : decode cX5_line 4 = .ok (.iload_n 2, 1) := by decide +kernel
theorem dX5_line_5 : decode cX5_line 5 = .ok (.invokestatic 48, 3) := by decide +kernel
theorem dX5_line_8 : decode cX5_line 8 = .ok (.iload_n 3, 1) := by decide +kernel
theorem dX5_line_9 : decode cX5_line 9 = .ok (.invokestatic 51, 3) := by decide +kernel
theorem dX5_line_12 : decode cX5_line 12 = .ok (.aload_n 0, 1) := by decide +kernel
theorem dX5_line_13 : decode cX5_line 13 = .ok (.invokevirtual 54, 3) := by decide +kernel
theorem dX5_line_16 : decode cX5_line 16 = .ok (.aload_n 0, 1) := by decide +kernel
theorem dX5_line_17 : decode cX5_line 17 = .ok (.getfield 10, 3) := by decide +kernel
theorem dX5_line_20 : decode cX5_line 20 = .ok (.iload_n 1, 1) := by decide +kernel
theorem dX5_line_21 : decode cX5_line 21 = .ok (.invokevirtual 57, 3) := by decide +kernel
theorem dX5_line_24 : decode cX5_line 24 = .ok (.astore 4, 2) := by decide +kernel
theorem dX5_line_26 : decode cX5_line 26 = .ok (.aload 4, 2) := by decide +kernel
theorem dX5_line_28 : decode cX5_line 28 = .ok (.iload_n 2, 1) := by decide +kernel
theorem dX5_line_29 : decode cX5_line 29 = .ok (.invokevirtual 61, 3) := by decide +kernel
theorem dX5_line_32 : decode cX5_line 32 = .ok (.istore 5, 2) := by decide +kernel
theorem dX5_line_34 : decode cX5_line 34 = .ok (.aload 4, 2) := by decide +kernel
theorem dX5_line_36 : decode cX5_line 36 = .ok (.iload_n 2, 1) := by decide +kernel
theorem dX5_line_37 : decode cX5_line 37 = .ok (.iload_n 3, 1) := by decide +kernel
theorem dX5_line_38 : decode cX5_line 38 = .ok (.invokevirtual 67, 3) := by decide +kernel
theorem dX5_line_41 : decode cX5_line 41 = .ok (.aload_n 0, 1) := by decide +kernel
theorem dX5_line_42 : decode cX5_line 42 = .ok (.iconst (-1), 1) := by decide +kernel
theorem dX5_line_43 : decode cX5_line 43 = .ok (.putfield 40, 3) := by decide +kernel
theorem dX5_line_46 : decode cX5_line 46 = .ok (.iload 5, 2) := by decide +kernel
theorem dX5_line_48 : decode cX5_line 48 = .ok (.ireturn, 1) := by decide +kernel
theorem dX5_libero_0 : decode cX5_libero 0 = .ok (.iload_n 1, 1) := by decide +kernel
theorem dX5_libero_1 : decode cX5_libero 1 = .ok (.invokestatic 44, 3) := by decide +kernel
theorem dX5_libero_4 : decode cX5_libero 4 = .ok (.iload_n 2, 1) := by decide +kernel
theorem dX5_libero_5 : decode cX5_libero 5 = .ok (.invokestatic 51, 3) := by decide +kernel
theorem dX5_libero_8 : decode cX5_libero 8 = .ok (.aload_n 0, 1) := by decide +kernel
theorem dX5_libero_9 : decode cX5_libero 9 = .ok (.invokevirtual 54, 3) := by decide +kernel
theorem dX5_libero_12 : decode cX5_libero 12 = .ok (.aload_n 0, 1) := by decide +kernel
theorem dX5_libero_13 : decode cX5_libero 13 = .ok (.getfield 10, 3) := by decide +kernel
theorem dX5_libero_16 : decode cX5_libero 16 = .ok (.iload_n 1, 1) := by decide +kernel
theorem dX5_libero_17 : decode cX5_libero 17 = .ok (.invokevirtual 57, 3) := by decide +kernel
theorem dX5_libero_20 : decode cX5_libero 20 = .ok (.astore_n 3, 1) := by decide +kernel
theorem dX5_libero_21 : decode cX5_libero 21 = .ok (.aload_n 3, 1) := by decide +kernel
theorem dX5_libero_22 : decode cX5_libero 22 = .ok (.getfield 71, 3) := by decide +kernel
theorem dX5_libero_25 : decode cX5_libero 25 = .ok (.istore 4, 2) := by decide +kernel
theorem dX5_libero_27 : decode cX5_libero 27 = .ok (.aload_n 3, 1) := by decide +kernel
theorem dX5_libero_28 : decode cX5_libero 28 = .ok (.iload_n 2, 1) := by decide +kernel
theorem dX5_libero_29 : decode cX5_libero 29 = .ok (.putfield 71, 3) := by decide +kernel
theorem dX5_libero_32 : decode cX5_libero 32 = .ok (.aload_n 0, 1) := by decide +kernel
theorem dX5_libero_33 : decode cX5_libero 33 = .ok (.iconst (-1), 1) := by decide +kernel
theorem dX5_libero_34 : decode cX5_libero 34 = .ok (.putfield 40, 3) := by decide +kernel
theorem dX5_libero_37 : decode cX5_libero 37 = .ok (.iload 4, 2) := by decide +kernel
theorem dX5_libero_39 : decode cX5_libero 39 = .ok (.ireturn, 1) := by decide +kernel
theorem dX5_begin_0 : decode cX5_begin 0 = .ok (.iload_n 1, 1) := by decide +kernel
theorem dX5_begin_1 : decode cX5_begin 1 = .ok (.invokestatic 44, 3) := by decide +kernel
theorem dX5_begin_4 : decode cX5_begin 4 = .ok (.aload_n 0, 1) := by decide +kernel
theorem dX5_begin_5 : decode cX5_begin 5 = .ok (.invokevirtual 54, 3) := by decide +kernel
theorem dX5_begin_8 : decode cX5_begin 8 = .ok (.aload_n 0, 1) := by decide +kernel
theorem dX5_begin_9 : decode cX5_begin 9 = .ok (.getfield 10, 3) := by decide +kernel
theorem dX5_begin_12 : decode cX5_begin 12 = .ok (.getfield 74, 3) := by decide +kernel
theorem dX5_begin_15 : decode cX5_begin 15 = .ok (.invokevirtual 78, 3) := by decide +kernel
theorem dX5_begin_18 : decode cX5_begin 18 = .ok (.ifCond .eq 16, 3) := by decide +kernel
theorem dX5_begin_21 : decode cX5_begin 21 = .ok (.aload_n 0, 1) := by decide +kernel
theorem dX5_begin_22 : decode cX5_begin 22 = .ok (.getfield 10, 3) := by decide +kernel
theorem dX5_begin_25 : decode cX5_begin 25 = .ok (.getfield 82, 3) := by decide +kernel
theorem dX5_begin_28 : decode cX5_begin 28 = .ok (.invokevirtual 78, 3) := by decide +kernel
theorem dX5_begin_31 : decode cX5_begin 31 = .ok (.ifCond .ne 13, 3) := by decide +kernel
theorem dX5_begin_34 : decode cX5_begin 34 = .ok (.new 85, 3) := by decide +kernel
theorem dX5_begin_37 : decode cX5_begin 37 = .ok (.dup, 1) := by decide +kernel
theorem dX5_begin_38 : decode cX5_begin 38 = .ok (.ldc 87, 2) := by decide +kernel
theorem dX5_begin_40 : decode cX5_begin 40 = .ok (.invokespecial 89, 3) := by decide +kernel
theorem dX5_begin_43 : decode cX5_begin 43 = .ok (.athrow, 1) := by decide +kernel
theorem dX5_begin_44 : decode cX5_begin 44 = .ok (.aload_n 0, 1) := by decide +kernel
theorem dX5_begin_45 : decode cX5_begin 45 = .ok (.getfield 10, 3) := by decide +kernel
theorem dX5_begin_48 : decode cX5_begin 48 = .ok (.iload_n 1, 1) := by decide +kernel
theorem dX5_begin_49 : decode cX5_begin 49 = .ok (.invokevirtual 92, 3) := by decide +kernel
theorem dX5_begin_52 : decode cX5_begin 52 = .ok (.aload_n 0, 1) := by decide +kernel
theorem dX5_begin_53 : decode cX5_begin 53 = .ok (.getfield 29, 3) := by decide +kernel
theorem dX5_begin_56 : decode cX5_begin 56 = .ok (.iconst 0, 1) := by decide +kernel
theorem dX5_begin_57 : decode cX5_begin 57 = .ok (.invokevirtual 95, 3) := by decide +kernel
theorem dX5_begin_60 : decode cX5_begin 60 = .ok (.aload_n 0, 1) := by decide +kernel
theorem dX5_begin_61 : decode cX5_begin 61 = .ok (.iconst 0, 1) := by decide +kernel
theorem dX5_begin_62 : decode cX5_begin 62 = .ok (.invokevirtual 98, 3) := by decide +kernel
theorem dX5_begin_65 : decode cX5_begin 65 = .ok (.aload_n 0, 1) := by decide +kernel
theorem dX5_begin_66 : decode cX5_begin 66 = .ok (.iconst 1, 1) := by decide +kernel
theorem dX5_begin_67 : decode cX5_begin 67 = .ok (.invokevirtual 98, 3) := by decide +kernel
theorem dX5_begin_70 : decode cX5_begin 70 = .ok (.aload_n 0, 1) := by decide +kernel
theorem dX5_begin_71 : decode cX5_begin 71 = .ok (.getfield 29, 3) := by decide +kernel
theorem dX5_begin_74 : decode cX5_begin 74 = .ok (.iconst 2, 1) := by decide +kernel
theorem dX5_begin_75 : decode cX5_begin 75 = .ok (.iload_n 1, 1) := by decide +kernel
theorem dX5_begin_76 : decode cX5_begin 76 = .ok (.iconst 0, 1) := by decide +kernel
theorem dX5_begin_77 : decode cX5_begin 77 = .ok (.iconst 0, 1) := by decide +kernel
theorem dX5_begin_78 : decode cX5_begin 78 = .ok (.invokevirtual 101, 3) := by decide +kernel
theorem dX5_begin_81 : decode cX5_begin 81 = .ok (.aload_n 0, 1) := by decide +kernel
theorem dX5_begin_82 : decode cX5_begin 82 = .ok (.iconst (-1), 1) := by decide +kernel
theorem dX5_begin_83 : decode cX5_begin 83 = .ok (.putfield 40, 3) := by decide +kernel
theorem dX5_begin_86 : decode cX5_begin 86 = .ok (.aload_n 0, 1) := by decide +kernel
theorem dX5_begin_87 : decode cX5_begin 87 = .ok (.iconst 0, 1) := by decide +kernel
theorem dX5_begin_88 : decode cX5_begin 88 = .ok (.putfield 105, 3) := by decide +kernel
theorem dX5_begin_91 : decode cX5_begin 91 = .ok (.aload_n 0, 1) := by decide +kernel
theorem dX5_begin_92 : decode cX5_begin 92 = .ok (.getfield 10, 3) := by decide +kernel
theorem dX5_begin_95 : decode cX5_begin 95 = .ok (.invokevirtual 108, 3) := by decide +kernel
theorem dX5_begin_98 : decode cX5_begin 98 = .ok (.iconst 1, 1) := by decide +kernel
theorem dX5_begin_99 : decode cX5_begin 99 = .ok (.iadd, 1) := by decide +kernel
theorem dX5_begin_100 : decode cX5_begin 100 = .ok (.ireturn, 1) := by decide +kernel
theorem dX5_serve_0 : decode cX5_serve 0 = .ok (.iload_n 1, 1) := by decide +kernel
theorem dX5_serve_1 : decode cX5_serve 1 = .ok (.invokestatic 51, 3) := by decide +kernel
theorem dX5_serve_4 : decode cX5_serve 4 = .ok (.aload_n 0, 1) := by decide +kernel
theorem dX5_serve_5 : decode cX5_serve 5 = .ok (.invokevirtual 112, 3) := by decide +kernel
theorem dX5_serve_8 : decode cX5_serve 8 = .ok (.aload_n 0, 1) := by decide +kernel
theorem dX5_serve_9 : decode cX5_serve 9 = .ok (.getfield 10, 3) := by decide +kernel
theorem dX5_serve_12 : decode cX5_serve 12 = .ok (.getfield 115, 3) := by decide +kernel
theorem dX5_serve_15 : decode cX5_serve 15 = .ok (.istore_n 2, 1) := by decide +kernel
theorem dX5_serve_16 : decode cX5_serve 16 = .ok (.aload_n 0, 1) := by decide +kernel
theorem dX5_serve_17 : decode cX5_serve 17 = .ok (.getfield 10, 3) := by decide +kernel
theorem dX5_serve_20 : decode cX5_serve 20 = .ok (.iload_n 2, 1) := by decide +kernel
theorem dX5_serve_21 : decode cX5_serve 21 = .ok (.invokevirtual 57, 3) := by decide +kernel
theorem dX5_serve_24 : decode cX5_serve 24 = .ok (.iload_n 1, 1) := by decide +kernel
theorem dX5_serve_25 : decode cX5_serve 25 = .ok (.invokevirtual 118, 3) := by decide +kernel
theorem dX5_serve_28 : decode cX5_serve 28 = .ok (.iconst (-1), 1) := by decide +kernel
theorem dX5_serve_29 : decode cX5_serve 29 = .ok (.if_icmp .ne 13, 3) := by decide +kernel
theorem dX5_serve_32 : decode cX5_serve 32 = .ok (.new 85, 3) := by decide +kernel
theorem dX5_serve_35 : decode cX5_serve 35 = .ok (.dup, 1) := by decide +kernel
theorem dX5_serve_36 : decode cX5_serve 36 = .ok (.ldc 121, 2) := by decide +kernel
theorem dX5_serve_38 : decode cX5_serve 38 = .ok (.invokespecial 89, 3) := by decide +kernel
theorem dX5_serve_41 : decode cX5_serve 41 = .ok (.athrow, 1) := by decide +kernel
theorem dX5_serve_42 : decode cX5_serve 42 = .ok (.aload_n 0, 1) := by decide +kernel
theorem dX5_serve_43 : decode cX5_serve 43 = .ok (.getfield 29, 3) := by decide +kernel
theorem dX5_serve_46 : decode cX5_serve 46 = .ok (.iconst 3, 1) := by decide +kernel
theorem dX5_serve_47 : decode cX5_serve 47 = .ok (.iload_n 2, 1) := by decide +kernel
theorem dX5_serve_48 : decode cX5_serve 48 = .ok (.iload_n 1, 1) := by decide +kernel
theorem dX5_serve_49 : decode cX5_serve 49 = .ok (.iconst 0, 1) := by decide +kernel
theorem dX5_serve_50 : decode cX5_serve 50 = .ok (.invokevirtual 101, 3) := by decide +kernel
theorem dX5_serve_53 : decode cX5_serve 53 = .ok (.aload_n 0, 1) := by decide +kernel
theorem dX5_serve_54 : decode cX5_serve 54 = .ok (.getfield 22, 3) := by decide +kernel
theorem dX5_serve_57 : decode cX5_serve 57 = .ok (.iload_n 2, 1) := by decide +kernel
theorem dX5_serve_58 : decode cX5_serve 58 = .ok (.iload_n 1, 1) := by decide +kernel
theorem dX5_serve_59 : decode cX5_serve 59 = .ok (.invokevirtual 123, 3) := by decide +kernel
theorem dX5_serve_62 : decode cX5_serve 62 = .ok (.aload_n 0, 1) := by decide +kernel
theorem dX5_serve_63 : decode cX5_serve 63 = .ok (.iconst (-1), 1) := by decide +kernel
theorem dX5_serve_64 : decode cX5_serve 64 = .ok (.putfield 40, 3) := by decide +kernel
theorem dX5_serve_67 : decode cX5_serve 67 = .ok (.aload_n 0, 1) := by decide +kernel
theorem dX5_serve_68 : decode cX5_serve 68 = .ok (.getfield 10, 3) := by decide +kernel
theorem dX5_serve_71 : decode cX5_serve 71 = .ok (.iload_n 1, 1) := by decide +kernel
theorem dX5_serve_72 : decode cX5_serve 72 = .ok (.invokevirtual 126, 3) := by decide +kernel
theorem dX5_serve_75 : decode cX5_serve 75 = .ok (.ireturn, 1) := by decide +kernel
theorem dX5_touch_0 : decode cX5_touch 0 = .ok (.iload_n 1, 1) := by decide +kernel
theorem dX5_touch_1 : decode cX5_touch 1 = .ok (.invokestatic 44, 3) := by decide +kernel
theorem dX5_touch_4 : decode cX5_touch 4 = .ok (.iload_n 2, 1) := by decide +kernel
theorem dX5_touch_5 : decode cX5_touch 5 = .ok (.invokestatic 51, 3) := by decide +kernel
theorem dX5_touch_8 : decode cX5_touch 8 = .ok (.iload_n 3, 1) := by decide +kernel
theorem dX5_touch_9 : decode cX5_touch 9 = .ok (.ifCond .lt 8, 3) := by decide +kernel
theorem dX5_touch_12 : decode cX5_touch 12 = .ok (.iload_n 3, 1) := by decide +kernel
theorem dX5_touch_13 : decode cX5_touch 13 = .ok (.iconst 2, 1) := by decide +kernel
theorem dX5_touch_14 : decode cX5_touch 14 = .ok (.if_icmp .le 13, 3) := by decide +kernel
theorem dX5_touch_17 : decode cX5_touch 17 = .ok (.new 130, 3) := by decide +kernel
theorem dX5_touch_20 : decode cX5_touch 20 = .ok (.dup, 1) := by decide +kernel
theorem dX5_touch_21 : decode cX5_touch 21 = .ok (.ldc 132, 2) := by decide +kernel
theorem dX5_touch_23 : decode cX5_touch 23 = .ok (.invokespecial 134, 3) := by decide +kernel
theorem dX5_touch_26 : decode cX5_touch 26 = .ok (.athrow, 1) := by decide +kernel
theorem dX5_touch_27 : decode cX5_touch 27 = .ok (.aload_n 0, 1) := by decide +kernel
theorem dX5_touch_28 : decode cX5_touch 28 = .ok (.invokevirtual 135, 3) := by decide +kernel
theorem dX5_touch_31 : decode cX5_touch 31 = .ok (.aload_n 0, 1) := by decide +kernel
theorem dX5_touch_32 : decode cX5_touch 32 = .ok (.getfield 10, 3) := by decide +kernel
theorem dX5_touch_35 : decode cX5_touch 35 = .ok (.iload_n 1, 1) := by decide +kernel
theorem dX5_touch_36 : decode cX5_touch 36 = .ok (.invokevirtual 57, 3) := by decide +kernel
theorem dX5_touch_39 : decode cX5_touch 39 = .ok (.astore 5, 2) := by decide +kernel
theorem dX5_touch_41 : decode cX5_touch 41 = .ok (.aload 5, 2) := by decide +kernel
theorem dX5_touch_43 : decode cX5_touch 43 = .ok (.iload_n 2, 1) := by decide +kernel
theorem dX5_touch_44 : decode cX5_touch 44 = .ok (.invokevirtual 118, 3) := by decide +kernel
theorem dX5_touch_47 : decode cX5_touch 47 = .ok (.iconst (-1), 1) := by decide +kernel
theorem dX5_touch_48 : decode cX5_touch 48 = .ok (.if_icmp .ne 13, 3) := by decide +kernel
theorem dX5_touch_51 : decode cX5_touch 51 = .ok (.new 85, 3) := by decide +kernel
theorem dX5_touch_54 : decode cX5_touch 54 = .ok (.dup, 1) := by decide +kernel
theorem dX5_touch_55 : decode cX5_touch 55 = .ok (.ldc 121, 2) := by decide +kernel
theorem dX5_touch_57 : decode cX5_touch 57 = .ok (.invokespecial 89, 3) := by decide +kernel
theorem dX5_touch_60 : decode cX5_touch 60 = .ok (.athrow, 1) := by decide +kernel
theorem dX5_touch_61 : decode cX5_touch 61 = .ok (.aload_n 0, 1) := by decide +kernel
theorem dX5_touch_62 : decode cX5_touch 62 = .ok (.getfield 22, 3) := by decide +kernel
theorem dX5_touch_65 : decode cX5_touch 65 = .ok (.iload_n 1, 1) := by decide +kernel
theorem dX5_touch_66 : decode cX5_touch 66 = .ok (.iload_n 2, 1) := by decide +kernel
theorem dX5_touch_67 : decode cX5_touch 67 = .ok (.iload_n 3, 1) := by decide +kernel
theorem dX5_touch_68 : decode cX5_touch 68 = .ok (.invokevirtual 138, 3) := by decide +kernel
theorem dX5_touch_71 : decode cX5_touch 71 = .ok (.istore 6, 2) := by decide +kernel
theorem dX5_touch_73 : decode cX5_touch 73 = .ok (.iload 6, 2) := by decide +kernel
theorem dX5_touch_75 : decode cX5_touch 75 = .ok (.ifCond .ne 14, 3) := by decide +kernel
theorem dX5_touch_78 : decode cX5_touch 78 = .ok (.aload 5, 2) := by decide +kernel
theorem dX5_touch_80 : decode cX5_touch 80 = .ok (.iload_n 2, 1) := by decide +kernel
theorem dX5_touch_81 : decode cX5_touch 81 = .ok (.iload_n 3, 1) := by decide +kernel
theorem dX5_touch_82 : decode cX5_touch 82 = .ok (.iload 4, 2) := by decide +kernel
theorem dX5_touch_84 : decode cX5_touch 84 = .ok (.invokevirtual 142, 3) := by decide +kernel
theorem dX5_touch_87 : decode cX5_touch 87 = .ok (.istore 6, 2) := by decide +kernel
theorem dX5_touch_89 : decode cX5_touch 89 = .ok (.iload 6, 2) := by decide +kernel
theorem dX5_touch_91 : decode cX5_touch 91 = .ok (.ifCond .ne 16, 3) := by decide +kernel
theorem dX5_touch_94 : decode cX5_touch 94 = .ok (.aload_n 0, 1) := by decide +kernel
theorem dX5_touch_95 : decode cX5_touch 95 = .ok (.getfield 22, 3) := by decide +kernel
theorem dX5_touch_98 : decode cX5_touch 98 = .ok (.iload_n 1, 1) := by decide +kernel
theorem dX5_touch_99 : decode cX5_touch 99 = .ok (.iload_n 2, 1) := by decide +kernel
theorem dX5_touch_100 : decode cX5_touch 100 = .ok (.iload_n 3, 1) := by decide +kernel
theorem dX5_touch_101 : decode cX5_touch 101 = .ok (.invokevirtual 145, 3) := by decide +kernel
theorem dX5_touch_104 : decode cX5_touch 104 = .ok (.goto 12, 3) := by decide +kernel
theorem dX5_touch_107 : decode cX5_touch 107 = .ok (.aload_n 0, 1) := by decide +kernel
theorem dX5_touch_108 : decode cX5_touch 108 = .ok (.iconst 1, 1) := by decide +kernel
theorem dX5_touch_109 : decode cX5_touch 109 = .ok (.iload_n 1, 1) := by decide +kernel
theorem dX5_touch_110 : decode cX5_touch 110 = .ok (.isub, 1) := by decide +kernel
theorem dX5_touch_111 : decode cX5_touch 111 = .ok (.iload 6, 2) := by decide +kernel
theorem dX5_touch_113 : decode cX5_touch 113 = .ok (.invokevirtual 149, 3) := by decide +kernel
theorem dX5_touch_116 : decode cX5_touch 116 = .ok (.iload 6, 2) := by decide +kernel
theorem dX5_touch_118 : decode cX5_touch 118 = .ok (.ireturn, 1) := by decide +kernel
theorem dX5_fall_0 : decode cX5_fall 0 = .ok (.iload_n 1, 1) := by decide +kernel
theorem dX5_fall_1 : decode cX5_fall 1 = .ok (.iconst (-1), 1) := by decide +kernel
theorem dX5_fall_2 : decode cX5_fall 2 = .ok (.if_icmp .eq 7, 3) := by decide +kernel
theorem dX5_fall_5 : decode cX5_fall 5 = .ok (.iload_n 1, 1) := by decide +kernel
theorem dX5_fall_6 : decode cX5_fall 6 = .ok (.invokestatic 44, 3) := by decide +kernel
theorem dX5_fall_9 : decode cX5_fall 9 = .ok (.aload_n 0, 1) := by decide +kernel
theorem dX5_fall_10 : decode cX5_fall 10 = .ok (.invokevirtual 135, 3) := by decide +kernel
theorem dX5_fall_13 : decode cX5_fall 13 = .ok (.iload_n 1, 1) := by decide +kernel
theorem dX5_fall_14 : decode cX5_fall 14 = .ok (.iconst (-1), 1) := by decide +kernel
theorem dX5_fall_15 : decode cX5_fall 15 = .ok (.if_icmp .ne 13, 3) := by decide +kernel
theorem dX5_fall_18 : decode cX5_fall 18 = .ok (.aload_n 0, 1) := by decide +kernel
theorem dX5_fall_19 : decode cX5_fall 19 = .ok (.getfield 22, 3) := by decide +kernel
theorem dX5_fall_22 : decode cX5_fall 22 = .ok (.getfield 152, 3) := by decide +kernel
theorem dX5_fall_25 : decode cX5_fall 25 = .ok (.goto 4, 3) := by decide +kernel
theorem dX5_fall_28 : decode cX5_fall 28 = .ok (.iload_n 1, 1) := by decide +kernel
theorem dX5_fall_29 : decode cX5_fall 29 = .ok (.istore_n 2, 1) := by decide +kernel
theorem dX5_fall_30 : decode cX5_fall 30 = .ok (.aload_n 0, 1) := by decide +kernel
theorem dX5_fall_31 : decode cX5_fall 31 = .ok (.iconst 1, 1) := by decide +kernel
theorem dX5_fall_32 : decode cX5_fall 32 = .ok (.iload_n 2, 1) := by decide +kernel
theorem dX5_fall_33 : decode cX5_fall 33 = .ok (.isub, 1) := by decide +kernel
theorem dX5_fall_34 : decode cX5_fall 34 = .ok (.iload_n 1, 1) := by decide +kernel
theorem dX5_fall_35 : decode cX5_fall 35 = .ok (.iconst (-1), 1) := by decide +kernel
theorem dX5_fall_36 : decode cX5_fall 36 = .ok (.if_icmp .ne 8, 3) := by decide +kernel
theorem dX5_fall_39 : decode cX5_fall 39 = .ok (.bipush 7, 2) := by decide +kernel
theorem dX5_fall_41 : decode cX5_fall 41 = .ok (.goto 5, 3) := by decide +kernel
theorem dX5_fall_44 : decode cX5_fall 44 = .ok (.bipush 6, 2) := by decide +kernel
theorem dX5_fall_46 : decode cX5_fall 46 = .ok (.invokevirtual 149, 3) := by decide +kernel
theorem dX5_fall_49 : decode cX5_fall 49 = .ok (.iconst 1, 1) := by decide +kernel
theorem dX5_fall_50 : decode cX5_fall 50 = .ok (.iload_n 2, 1) := by decide +kernel
theorem dX5_fall_51 : decode cX5_fall 51 = .ok (.isub, 1) := by decide +kernel
theorem dX5_fall_52 : decode cX5_fall 52 = .ok (.ireturn, 1) := by decide +kernel
theorem dX5_net_0 : decode cX5_net 0 = .ok (.iload_n 1, 1) := by decide +kernel
theorem dX5_net_1 : decode cX5_net 1 = .ok (.invokestatic 44, 3) := by decide +kernel
theorem dX5_net_4 : decode cX5_net 4 = .ok (.aload_n 0, 1) := by decide +kernel
theorem dX5_net_5 : decode cX5_net 5 = .ok (.invokevirtual 135, 3) := by decide +kernel
theorem dX5_net_8 : decode cX5_net 8 = .ok (.iload_n 2, 1) := by decide +kernel
theorem dX5_net_9 : decode cX5_net 9 = .ok (.ifCond .eq 15, 3) := by decide +kernel
theorem dX5_net_12 : decode cX5_net 12 = .ok (.aload_n 0, 1) := by decide +kernel
theorem dX5_net_13 : decode cX5_net 13 = .ok (.iconst 1, 1) := by decide +kernel
theorem dX5_net_14 : decode cX5_net 14 = .ok (.iload_n 1, 1) := by decide +kernel
theorem dX5_net_15 : decode cX5_net 15 = .ok (.isub, 1) := by decide +kernel
theorem dX5_net_16 : decode cX5_net 16 = .ok (.bipush 8, 2) := by decide +kernel
theorem dX5_net_18 : decode cX5_net 18 = .ok (.invokevirtual 149, 3) := by decide +kernel
theorem dX5_net_21 : decode cX5_net 21 = .ok (.goto 11, 3) := by decide +kernel
theorem dX5_net_24 : decode cX5_net 24 = .ok (.aload_n 0, 1) := by decide +kernel
theorem dX5_net_25 : decode cX5_net 25 = .ok (.getfield 22, 3) := by decide +kernel
theorem dX5_net_28 : decode cX5_net 28 = .ok (.iload_n 1, 1) := by decide +kernel
theorem dX5_net_29 : decode cX5_net 29 = .ok (.invokevirtual 155, 3) := by decide +kernel
theorem dX5_net_32 : decode cX5_net 32 = .ok (.iload_n 2, 1) := by decide +kernel
theorem dX5_net_33 : decode cX5_net 33 = .ok (.ireturn, 1) := by decide +kernel
theorem dX5_find_0 : decode cX5_find 0 = .ok (.aload_n 0, 1) := by decide +kernel
theorem dX5_find_1 : decode cX5_find 1 = .ok (.getfield 22, 3) := by decide +kernel
theorem dX5_find_4 : decode cX5_find 4 = .ok (.getfield 158, 3) := by decide +kernel
theorem dX5_find_7 : decode cX5_find 7 = .ok (.ifCond .ne 14, 3) := by decide +kernel
theorem dX5_find_10 : decode cX5_find 10 = .ok (.aload_n 0, 1) := by decide +kernel
theorem dX5_find_11 : decode cX5_find 11 = .ok (.getfield 10, 3) := by decide +kernel
theorem dX5_find_14 : decode cX5_find 14 = .ok (.getfield 162, 3) := by decide +kernel
theorem dX5_find_17 : decode cX5_find 17 = .ok (.iconst (-1), 1) := by decide +kernel
theorem dX5_find_18 : decode cX5_find 18 = .ok (.if_icmp .ne 13, 3) := by decide +kernel
theorem dX5_find_21 : decode cX5_find 21 = .ok (.new 85, 3) := by decide +kernel
theorem dX5_find_24 : decode cX5_find 24 = .ok (.dup, 1) := by decide +kernel
theorem dX5_find_25 : decode cX5_find 25 = .ok (.ldc 165, 2) := by decide +kernel
theorem dX5_find_27 : decode cX5_find 27 = .ok (.invokespecial 89, 3) := by decide +kernel
theorem dX5_find_30 : decode cX5_find 30 = .ok (.athrow, 1) := by decide +kernel
theorem dX5_find_31 : decode cX5_find 31 = .ok (.aload_n 0, 1) := by decide +kernel
theorem dX5_find_32 : decode cX5_find 32 = .ok (.getfield 29, 3) := by decide +kernel
theorem dX5_find_35 : decode cX5_find 35 = .ok (.iconst 5, 1) := by decide +kernel
theorem dX5_find_36 : decode cX5_find 36 = .ok (.aload_n 0, 1) := by decide +kernel
theorem dX5_find_37 : decode cX5_find 37 = .ok (.getfield 10, 3) := by decide +kernel
theorem dX5_find_40 : decode cX5_find 40 = .ok (.getfield 115, 3) := by decide +kernel
theorem dX5_find_43 : decode cX5_find 43 = .ok (.iconst 0, 1) := by decide +kernel
theorem dX5_find_44 : decode cX5_find 44 = .ok (.iconst 0, 1) := by decide +kernel
theorem dX5_find_45 : decode cX5_find 45 = .ok (.invokevirtual 101, 3) := by decide +kernel
theorem dX5_find_48 : decode cX5_find 48 = .ok (.aload_n 0, 1) := by decide +kernel
theorem dX5_find_49 : decode cX5_find 49 = .ok (.getfield 10, 3) := by decide +kernel
theorem dX5_find_52 : decode cX5_find 52 = .ok (.invokevirtual 167, 3) := by decide +kernel
theorem dX5_find_55 : decode cX5_find 55 = .ok (.istore_n 1, 1) := by decide +kernel
theorem dX5_find_56 : decode cX5_find 56 = .ok (.aload_n 0, 1) := by decide +kernel
theorem dX5_find_57 : decode cX5_find 57 = .ok (.aload_n 0, 1) := by decide +kernel
theorem dX5_find_58 : decode cX5_find 58 = .ok (.getfield 10, 3) := by decide +kernel
theorem dX5_find_61 : decode cX5_find 61 = .ok (.getfield 115, 3) := by decide +kernel
theorem dX5_find_64 : decode cX5_find 64 = .ok (.invokevirtual 170, 3) := by decide +kernel
theorem dX5_find_67 : decode cX5_find 67 = .ok (.aload_n 0, 1) := by decide +kernel
theorem dX5_find_68 : decode cX5_find 68 = .ok (.iconst (-1), 1) := by decide +kernel
theorem dX5_find_69 : decode cX5_find 69 = .ok (.putfield 40, 3) := by decide +kernel
theorem dX5_find_72 : decode cX5_find 72 = .ok (.aload_n 0, 1) := by decide +kernel
theorem dX5_find_73 : decode cX5_find 73 = .ok (.bipush 9, 2) := by decide +kernel
theorem dX5_find_75 : decode cX5_find 75 = .ok (.putfield 105, 3) := by decide +kernel
theorem dX5_find_78 : decode cX5_find 78 = .ok (.iload_n 1, 1) := by decide +kernel
theorem dX5_find_79 : decode cX5_find 79 = .ok (.ireturn, 1) := by decide +kernel
theorem dX5_exchange_0 : decode cX5_exchange 0 = .ok (.iload_n 1, 1) := by decide +kernel
theorem dX5_exchange_1 : decode cX5_exchange 1 = .ok (.invokestatic 44, 3) := by decide +kernel
theorem dX5_exchange_4 : decode cX5_exchange 4 = .ok (.iload_n 2, 1) := by decide +kernel
theorem dX5_exchange_5 : decode cX5_exchange 5 = .ok (.invokestatic 51, 3) := by decide +kernel
theorem dX5_exchange_8 : decode cX5_exchange 8 = .ok (.aload_n 0, 1) := by decide +kernel
theorem dX5_exchange_9 : decode cX5_exchange 9 = .ok (.invokevirtual 112, 3) := by decide +kernel
theorem dX5_exchange_12 : decode cX5_exchange 12 = .ok (.aload_n 0, 1) := by decide +kernel
theorem dX5_exchange_13 : decode cX5_exchange 13 = .ok (.getfield 10, 3) := by decide +kernel
theorem dX5_exchange_16 : decode cX5_exchange 16 = .ok (.iload_n 1, 1) := by decide +kernel
theorem dX5_exchange_17 : decode cX5_exchange 17 = .ok (.invokevirtual 57, 3) := by decide +kernel
theorem dX5_exchange_20 : decode cX5_exchange 20 = .ok (.astore_n 3, 1) := by decide +kernel
theorem dX5_exchange_21 : decode cX5_exchange 21 = .ok (.aload_n 3, 1) := by decide +kernel
theorem dX5_exchange_22 : decode cX5_exchange 22 = .ok (.iload_n 2, 1) := by decide +kernel
theorem dX5_exchange_23 : decode cX5_exchange 23 = .ok (.invokevirtual 173, 3) := by decide +kernel
theorem dX5_exchange_26 : decode cX5_exchange 26 = .ok (.ifCond .ne 13, 3) := by decide +kernel
theorem dX5_exchange_29 : decode cX5_exchange 29 = .ok (.new 85, 3) := by decide +kernel
theorem dX5_exchange_32 : decode cX5_exchange 32 = .ok (.dup, 1) := by decide +kernel
theorem dX5_exchange_33 : decode cX5_exchange 33 = .ok (.ldc 176, 2) := by decide +kernel
theorem dX5_exchange_35 : decode cX5_exchange 35 = .ok (.invokespecial 89, 3) := by decide +kernel
theorem dX5_exchange_38 : decode cX5_exchange 38 = .ok (.athrow, 1) := by decide +kernel
theorem dX5_exchange_39 : decode cX5_exchange 39 = .ok (.aload_n 0, 1) := by decide +kernel
theorem dX5_exchange_40 : decode cX5_exchange 40 = .ok (.getfield 29, 3) := by decide +kernel
theorem dX5_exchange_43 : decode cX5_exchange 43 = .ok (.bipush 6, 2) := by decide +kernel
theorem dX5_exchange_45 : decode cX5_exchange 45 = .ok (.iload_n 1, 1) := by decide +kernel
theorem dX5_exchange_46 : decode cX5_exchange 46 = .ok (.iload_n 2, 1) := by decide +kernel
theorem dX5_exchange_47 : decode cX5_exchange 47 = .ok (.iconst 0, 1) := by decide +kernel
theorem dX5_exchange_48 : decode cX5_exchange 48 = .ok (.invokevirtual 101, 3) := by decide +kernel
theorem dX5_exchange_51 : decode cX5_exchange 51 = .ok (.aload_n 3, 1) := by decide +kernel
theorem dX5_exchange_52 : decode cX5_exchange 52 = .ok (.iload_n 2, 1) := by decide +kernel
theorem dX5_exchange_53 : decode cX5_exchange 53 = .ok (.invokevirtual 178, 3) := by decide +kernel
theorem dX5_exchange_56 : decode cX5_exchange 56 = .ok (.aload_n 0, 1) := by decide +kernel
theorem dX5_exchange_57 : decode cX5_exchange 57 = .ok (.iconst (-1), 1) := by decide +kernel
theorem dX5_exchange_58 : decode cX5_exchange 58 = .ok (.putfield 40, 3) := by decide +kernel
theorem dX5_exchange_61 : decode cX5_exchange 61 = .ok (.aload_n 3, 1) := by decide +kernel
theorem dX5_exchange_62 : decode cX5_exchange 62 = .ok (.invokevirtual 181, 3) := by decide +kernel
theorem dX5_exchange_65 : decode cX5_exchange 65 = .ok (.ireturn, 1) := by decide +kernel
theorem dX5_substitute_0 : decode cX5_substitute 0 = .ok (.iload_n 1, 1) := by decide +kernel
theorem dX5_substitute_1 : decode cX5_substitute 1 = .ok (.invokestatic 44, 3) := by decide +kernel
theorem dX5_substitute_4 : decode cX5_substitute 4 = .ok (.iload_n 2, 1) := by decide +kernel
theorem dX5_substitute_5 : decode cX5_substitute 5 = .ok (.invokestatic 51, 3) := by decide +kernel
theorem dX5_substitute_8 : decode cX5_substitute 8 = .ok (.iload_n 3, 1) := by decide +kernel
theorem dX5_substitute_9 : decode cX5_substitute 9 = .ok (.invokestatic 51, 3) := by decide +kernel
theorem dX5_substitute_12 : decode cX5_substitute 12 = .ok (.aload_n 0, 1) := by decide +kernel
theorem dX5_substitute_13 : decode cX5_substitute 13 = .ok (.invokevirtual 112, 3) := by decide +kernel
theorem dX5_substitute_16 : decode cX5_substitute 16 = .ok (.aload_n 0, 1) := by decide +kernel
theorem dX5_substitute_17 : decode cX5_substitute 17 = .ok (.getfield 10, 3) := by decide +kernel
theorem dX5_substitute_20 : decode cX5_substitute 20 = .ok (.iload_n 1, 1) := by decide +kernel
theorem dX5_substitute_21 : decode cX5_substitute 21 = .ok (.invokevirtual 57, 3) := by decide +kernel
theorem dX5_substitute_24 : decode cX5_substitute 24 = .ok (.astore 4, 2) := by decide +kernel
theorem dX5_substitute_26 : decode cX5_substitute 26 = .ok (.aload 4, 2) := by decide +kernel
theorem dX5_substitute_28 : decode cX5_substitute 28 = .ok (.iload_n 2, 1) := by decide +kernel
theorem dX5_substitute_29 : decode cX5_substitute 29 = .ok (.iload_n 3, 1) := by decide +kernel
theorem dX5_substitute_30 : decode cX5_substitute 30 = .ok (.invokevirtual 184, 3) := by decide +kernel
theorem dX5_substitute_33 : decode cX5_substitute 33 = .ok (.ifCond .ne 13, 3) := by decide +kernel
theorem dX5_substitute_36 : decode cX5_substitute 36 = .ok (.new 85, 3) := by decide +kernel
theorem dX5_substitute_39 : decode cX5_substitute 39 = .ok (.dup, 1) := by decide +kernel
theorem dX5_substitute_40 : decode cX5_substitute 40 = .ok (.ldc 188, 2) := by decide +kernel
theorem dX5_substitute_42 : decode cX5_substitute 42 = .ok (.invokespecial 89, 3) := by decide +kernel
theorem dX5_substitute_45 : decode cX5_substitute 45 = .ok (.athrow, 1) := by decide +kernel
theorem dX5_substitute_46 : decode cX5_substitute 46 = .ok (.aload_n 0, 1) := by decide +kernel
theorem dX5_substitute_47 : decode cX5_substitute 47 = .ok (.getfield 29, 3) := by decide +kernel
theorem dX5_substitute_50 : decode cX5_substitute 50 = .ok (.bipush 7, 2) := by decide +kernel
theorem dX5_substitute_52 : decode cX5_substitute 52 = .ok (.iload_n 1, 1) := by decide +kernel
theorem dX5_substitute_53 : decode cX5_substitute 53 = .ok (.iload_n 2, 1) := by decide +kernel
theorem dX5_substitute_54 : decode cX5_substitute 54 = .ok (.iload_n 3, 1) := by decide +kernel
theorem dX5_substitute_55 : decode cX5_substitute 55 = .ok (.invokevirtual 101, 3) := by decide +kernel
theorem dX5_substitute_58 : decode cX5_substitute 58 = .ok (.aload 4, 2) := by decide +kernel
theorem dX5_substitute_60 : decode cX5_substitute 60 = .ok (.iload_n 2, 1) := by decide +kernel
theorem dX5_substitute_61 : decode cX5_substitute 61 = .ok (.iload_n 3, 1) := by decide +kernel
theorem dX5_substitute_62 : decode cX5_substitute 62 = .ok (.invokevirtual 190, 3) := by decide +kernel
theorem dX5_substitute_65 : decode cX5_substitute 65 = .ok (.aload_n 0, 1) := by decide +kernel
theorem dX5_substitute_66 : decode cX5_substitute 66 = .ok (.iconst (-1), 1) := by decide +kernel
theorem dX5_substitute_67 : decode cX5_substitute 67 = .ok (.putfield 40, 3) := by decide +kernel
theorem dX5_substitute_70 : decode cX5_substitute 70 = .ok (.aload 4, 2) := by decide +kernel
theorem dX5_substitute_72 : decode cX5_substitute 72 = .ok (.getfield 193, 3) := by decide +kernel
theorem dX5_substitute_75 : decode cX5_substitute 75 = .ok (.ireturn, 1) := by decide +kernel
theorem dX5_challenge_0 : decode cX5_challenge 0 = .ok (.iload_n 1, 1) := by decide +kernel
theorem dX5_challenge_1 : decode cX5_challenge 1 = .ok (.invokestatic 44, 3) := by decide +kernel
theorem dX5_challenge_4 : decode cX5_challenge 4 = .ok (.aload_n 0, 1) := by decide +kernel
theorem dX5_challenge_5 : decode cX5_challenge 5 = .ok (.getfield 10, 3) := by decide +kernel
theorem dX5_challenge_8 : decode cX5_challenge 8 = .ok (.iload_n 1, 1) := by decide +kernel
theorem dX5_challenge_9 : decode cX5_challenge 9 = .ok (.invokevirtual 57, 3) := by decide +kernel
theorem dX5_challenge_12 : decode cX5_challenge 12 = .ok (.astore_n 2, 1) := by decide +kernel
theorem dX5_challenge_13 : decode cX5_challenge 13 = .ok (.aload_n 0, 1) := by decide +kernel
theorem dX5_challenge_14 : decode cX5_challenge 14 = .ok (.getfield 40, 3) := by decide +kernel
theorem dX5_challenge_17 : decode cX5_challenge 17 = .ok (.iload_n 1, 1) := by decide +kernel
theorem dX5_challenge_18 : decode cX5_challenge 18 = .ok (.if_icmp .ne 10, 3) := by decide +kernel
theorem dX5_challenge_21 : decode cX5_challenge 21 = .ok (.aload_n 2, 1) := by decide +kernel
theorem dX5_challenge_22 : decode cX5_challenge 22 = .ok (.getfield 196, 3) := by decide +kernel
theorem dX5_challenge_25 : decode cX5_challenge 25 = .ok (.ifCond .ne 13, 3) := by decide +kernel
theorem dX5_challenge_28 : decode cX5_challenge 28 = .ok (.new 85, 3) := by decide +kernel
theorem dX5_challenge_31 : decode cX5_challenge 31 = .ok (.dup, 1) := by decide +kernel
theorem dX5_challenge_32 : decode cX5_challenge 32 = .ok (.ldc 199, 2) := by decide +kernel
theorem dX5_challenge_34 : decode cX5_challenge 34 = .ok (.invokespecial 89, 3) := by decide +kernel
theorem dX5_challenge_37 : decode cX5_challenge 37 = .ok (.athrow, 1) := by decide +kernel
theorem dX5_challenge_38 : decode cX5_challenge 38 = .ok (.aload_n 0, 1) := by decide +kernel
theorem dX5_challenge_39 : decode cX5_challenge 39 = .ok (.getfield 22, 3) := by decide +kernel
theorem dX5_challenge_42 : decode cX5_challenge 42 = .ok (.iconst 1, 1) := by decide +kernel
theorem dX5_challenge_43 : decode cX5_challenge 43 = .ok (.iload_n 1, 1) := by decide +kernel
theorem dX5_challenge_44 : decode cX5_challenge 44 = .ok (.isub, 1) := by decide +kernel
theorem dX5_challenge_45 : decode cX5_challenge 45 = .ok (.invokevirtual 201, 3) := by decide +kernel
theorem dX5_challenge_48 : decode cX5_challenge 48 = .ok (.istore_n 3, 1) := by decide +kernel
theorem dX5_challenge_49 : decode cX5_challenge 49 = .ok (.iload_n 3, 1) := by decide +kernel
theorem dX5_challenge_50 : decode cX5_challenge 50 = .ok (.ifCond .eq 35, 3) := by decide +kernel
theorem dX5_challenge_53 : decode cX5_challenge 53 = .ok (.aload_n 0, 1) := by decide +kernel
theorem dX5_challenge_54 : decode cX5_challenge 54 = .ok (.getfield 10, 3) := by decide +kernel
theorem dX5_challenge_57 : decode cX5_challenge 57 = .ok (.aload_n 0, 1) := by decide +kernel
theorem dX5_challenge_58 : decode cX5_challenge 58 = .ok (.getfield 16, 3) := by decide +kernel
theorem dX5_challenge_61 : decode cX5_challenge 61 = .ok (.invokevirtual 204, 3) := by decide +kernel
theorem dX5_challenge_64 : decode cX5_challenge 64 = .ok (.aload_n 0, 1) := by decide +kernel
theorem dX5_challenge_65 : decode cX5_challenge 65 = .ok (.getfield 29, 3) := by decide +kernel
theorem dX5_challenge_68 : decode cX5_challenge 68 = .ok (.aload_n 0, 1) := by decide +kernel
theorem dX5_challenge_69 : decode cX5_challenge 69 = .ok (.getfield 208, 3) := by decide +kernel
theorem dX5_challenge_72 : decode cX5_challenge 72 = .ok (.invokevirtual 95, 3) := by decide +kernel
theorem dX5_challenge_75 : decode cX5_challenge 75 = .ok (.aload_n 0, 1) := by decide +kernel
theorem dX5_challenge_76 : decode cX5_challenge 76 = .ok (.iload_n 1, 1) := by decide +kernel
theorem dX5_challenge_77 : decode cX5_challenge 77 = .ok (.bipush 8, 2) := by decide +kernel
theorem dX5_challenge_79 : decode cX5_challenge 79 = .ok (.invokevirtual 149, 3) := by decide +kernel
theorem dX5_challenge_82 : decode cX5_challenge 82 = .ok (.goto 13, 3) := by decide +kernel
theorem dX5_challenge_85 : decode cX5_challenge 85 = .ok (.aload_n 2, 1) := by decide +kernel
theorem dX5_challenge_86 : decode cX5_challenge 86 = .ok (.dup, 1) := by decide +kernel
theorem dX5_challenge_87 : decode cX5_challenge 87 = .ok (.getfield 196, 3) := by decide +kernel
theorem dX5_challenge_90 : decode cX5_challenge 90 = .ok (.iconst 1, 1) := by decide +kernel
theorem dX5_challenge_91 : decode cX5_challenge 91 = .ok (.isub, 1) := by decide +kernel
theorem dX5_challenge_92 : decode cX5_challenge 92 = .ok (.putfield 196, 3) := by decide +kernel
theorem dX5_challenge_95 : decode cX5_challenge 95 = .ok (.aload_n 0, 1) := by decide +kernel
theorem dX5_challenge_96 : decode cX5_challenge 96 = .ok (.iconst (-1), 1) := by decide +kernel
theorem dX5_challenge_97 : decode cX5_challenge 97 = .ok (.putfield 40, 3) := by decide +kernel
theorem dX5_challenge_100 : decode cX5_challenge 100 = .ok (.iload_n 3, 1) := by decide +kernel
theorem dX5_challenge_101 : decode cX5_challenge 101 = .ok (.ireturn, 1) := by decide +kernel
theorem dX5_points_0 : decode cX5_points 0 = .ok (.iload_n 1, 1) := by decide +kernel
theorem dX5_points_1 : decode cX5_points 1 = .ok (.invokestatic 44, 3) := by decide +kernel
theorem dX5_points_4 : decode cX5_points 4 = .ok (.aload_n 0, 1) := by decide +kernel
theorem dX5_points_5 : decode cX5_points 5 = .ok (.getfield 10, 3) := by decide +kernel
theorem dX5_points_8 : decode cX5_points 8 = .ok (.iload_n 1, 1) := by decide +kernel
theorem dX5_points_9 : decode cX5_points 9 = .ok (.invokevirtual 57, 3) := by decide +kernel
theorem dX5_points_12 : decode cX5_points 12 = .ok (.getfield 211, 3) := by decide +kernel
theorem dX5_points_15 : decode cX5_points 15 = .ok (.ireturn, 1) := by decide +kernel
theorem dX5_pointsAnew_0 : decode cX5_pointsAnew 0 = .ok (.iload_n 1, 1) := by decide +kernel
theorem dX5_pointsAnew_1 : decode cX5_pointsAnew 1 = .ok (.invokestatic 44, 3) := by decide +kernel
theorem dX5_pointsAnew_4 : decode cX5_pointsAnew 4 = .ok (.aload_n 0, 1) := by decide +kernel
theorem dX5_pointsAnew_5 : decode cX5_pointsAnew 5 = .ok (.getfield 36, 3) := by decide +kernel
theorem dX5_pointsAnew_8 : decode cX5_pointsAnew 8 = .ok (.aload_n 0, 1) := by decide +kernel
theorem dX5_pointsAnew_9 : decode cX5_pointsAnew 9 = .ok (.getfield 29, 3) := by decide +kernel
theorem dX5_pointsAnew_12 : decode cX5_pointsAnew 12 = .ok (.invokevirtual 214, 3) := by decide +kernel
theorem dX5_pointsAnew_15 : decode cX5_pointsAnew 15 = .ok (.aload_n 0, 1) := by decide +kernel
theorem dX5_pointsAnew_16 : decode cX5_pointsAnew 16 = .ok (.getfield 36, 3) := by decide +kernel
theorem dX5_pointsAnew_19 : decode cX5_pointsAnew 19 = .ok (.getfield 218, 3) := by decide +kernel
theorem dX5_pointsAnew_22 : decode cX5_pointsAnew 22 = .ok (.iload_n 1, 1) := by decide +kernel
theorem dX5_pointsAnew_23 : decode cX5_pointsAnew 23 = .ok (.invokevirtual 57, 3) := by decide +kernel
theorem dX5_pointsAnew_26 : decode cX5_pointsAnew 26 = .ok (.getfield 211, 3) := by decide +kernel
theorem dX5_pointsAnew_29 : decode cX5_pointsAnew 29 = .ok (.ireturn, 1) := by decide +kernel
theorem dX5_sets_0 : decode cX5_sets 0 = .ok (.iload_n 1, 1) := by decide +kernel
theorem dX5_sets_1 : decode cX5_sets 1 = .ok (.invokestatic 44, 3) := by decide +kernel
theorem dX5_sets_4 : decode cX5_sets 4 = .ok (.aload_n 0, 1) := by decide +kernel
theorem dX5_sets_5 : decode cX5_sets 5 = .ok (.getfield 10, 3) := by decide +kernel
theorem dX5_sets_8 : decode cX5_sets 8 = .ok (.iload_n 1, 1) := by decide +kernel
theorem dX5_sets_9 : decode cX5_sets 9 = .ok (.invokevirtual 57, 3) := by decide +kernel
theorem dX5_sets_12 : decode cX5_sets 12 = .ok (.getfield 219, 3) := by decide +kernel
theorem dX5_sets_15 : decode cX5_sets 15 = .ok (.ireturn, 1) := by decide +kernel
theorem dX5_at_0 : decode cX5_at 0 = .ok (.iload_n 1, 1) := by decide +kernel
theorem dX5_at_1 : decode cX5_at 1 = .ok (.invokestatic 44, 3) := by decide +kernel
theorem dX5_at_4 : decode cX5_at 4 = .ok (.iload_n 2, 1) := by decide +kernel
theorem dX5_at_5 : decode cX5_at 5 = .ok (.invokestatic 48, 3) := by decide +kernel
theorem dX5_at_8 : decode cX5_at 8 = .ok (.aload_n 0, 1) := by decide +kernel
theorem dX5_at_9 : decode cX5_at 9 = .ok (.getfield 10, 3) := by decide +kernel
theorem dX5_at_12 : decode cX5_at 12 = .ok (.iload_n 1, 1) := by decide +kernel
theorem dX5_at_13 : decode cX5_at 13 = .ok (.invokevirtual 57, 3) := by decide +kernel
theorem dX5_at_16 : decode cX5_at 16 = .ok (.iload_n 2, 1) := by decide +kernel
theorem dX5_at_17 : decode cX5_at 17 = .ok (.invokevirtual 61, 3) := by decide +kernel
theorem dX5_at_20 : decode cX5_at 20 = .ok (.ireturn, 1) := by decide +kernel
theorem dX5_atAnew_0 : decode cX5_atAnew 0 = .ok (.iload_n 1, 1) := by decide +kernel
theorem dX5_atAnew_1 : decode cX5_atAnew 1 = .ok (.invokestatic 44, 3) := by decide +kernel
theorem dX5_atAnew_4 : decode cX5_atAnew 4 = .ok (.iload_n 2, 1) := by decide +kernel
theorem dX5_atAnew_5 : decode cX5_atAnew 5 = .ok (.invokestatic 48, 3) := by decide +kernel
theorem dX5_atAnew_8 : decode cX5_atAnew 8 = .ok (.aload_n 0, 1) := by decide +kernel
theorem dX5_atAnew_9 : decode cX5_atAnew 9 = .ok (.getfield 10, 3) := by decide +kernel
theorem dX5_atAnew_12 : decode cX5_atAnew 12 = .ok (.invokevirtual 222, 3) := by decide +kernel
theorem dX5_atAnew_15 : decode cX5_atAnew 15 = .ok (.ifCond .ne 5, 3) := by decide +kernel
theorem dX5_atAnew_18 : decode cX5_atAnew 18 = .ok (.iconst (-1), 1) := by decide +kernel
theorem dX5_atAnew_19 : decode cX5_atAnew 19 = .ok (.ireturn, 1) := by decide +kernel
theorem dX5_atAnew_20 : decode cX5_atAnew 20 = .ok (.aload_n 0, 1) := by decide +kernel
theorem dX5_atAnew_21 : decode cX5_atAnew 21 = .ok (.getfield 36, 3) := by decide +kernel
theorem dX5_atAnew_24 : decode cX5_atAnew 24 = .ok (.aload_n 0, 1) := by decide +kernel
theorem dX5_atAnew_25 : decode cX5_atAnew 25 = .ok (.getfield 29, 3) := by decide +kernel
theorem dX5_atAnew_28 : decode cX5_atAnew 28 = .ok (.invokevirtual 214, 3) := by decide +kernel
theorem dX5_atAnew_31 : decode cX5_atAnew 31 = .ok (.aload_n 0, 1) := by decide +kernel
theorem dX5_atAnew_32 : decode cX5_atAnew 32 = .ok (.getfield 36, 3) := by decide +kernel
theorem dX5_atAnew_35 : decode cX5_atAnew 35 = .ok (.getfield 218, 3) := by decide +kernel
theorem dX5_atAnew_38 : decode cX5_atAnew 38 = .ok (.iload_n 1, 1) := by decide +kernel
theorem dX5_atAnew_39 : decode cX5_atAnew 39 = .ok (.invokevirtual 57, 3) := by decide +kernel
theorem dX5_atAnew_42 : decode cX5_atAnew 42 = .ok (.iload_n 2, 1) := by decide +kernel
theorem dX5_atAnew_43 : decode cX5_atAnew 43 = .ok (.invokevirtual 61, 3) := by decide +kernel
theorem dX5_atAnew_46 : decode cX5_atAnew 46 = .ok (.ireturn, 1) := by decide +kernel
theorem dX5_about_0 : decode cX5_about 0 = .ok (.iload_n 1, 1) := by decide +kernel
theorem dX5_about_1 : decode cX5_about 1 = .ok (.tableswitch 102 0 4 #[35, 51, 67, 75, 80], 35) := by decide +kernel
theorem dX5_about_36 : decode cX5_about 36 = .ok (.aload_n 0, 1) := by decide +kernel
theorem dX5_about_37 : decode cX5_about 37 = .ok (.getfield 10, 3) := by decide +kernel
theorem dX5_about_40 : decode cX5_about 40 = .ok (.invokevirtual 222, 3) := by decide +kernel
theorem dX5_about_43 : decode cX5_about 43 = .ok (.ifCond .eq 7, 3) := by decide +kernel
theorem dX5_about_46 : decode cX5_about 46 = .ok (.iconst 1, 1) := by decide +kernel
theorem dX5_about_47 : decode cX5_about 47 = .ok (.goto 4, 3) := by decide +kernel
theorem dX5_about_50 : decode cX5_about 50 = .ok (.iconst 0, 1) := by decide +kernel
theorem dX5_about_51 : decode cX5_about 51 = .ok (.ireturn, 1) := by decide +kernel
theorem dX5_about_52 : decode cX5_about 52 = .ok (.aload_n 0, 1) := by decide +kernel
theorem dX5_about_53 : decode cX5_about 53 = .ok (.getfield 22, 3) := by decide +kernel
theorem dX5_about_56 : decode cX5_about 56 = .ok (.getfield 158, 3) := by decide +kernel
theorem dX5_about_59 : decode cX5_about 59 = .ok (.ifCond .eq 7, 3) := by decide +kernel
theorem dX5_about_62 : decode cX5_about 62 = .ok (.iconst 1, 1) := by decide +kernel
theorem dX5_about_63 : decode cX5_about 63 = .ok (.goto 4, 3) := by decide +kernel
theorem dX5_about_66 : decode cX5_about 66 = .ok (.iconst 0, 1) := by decide +kernel
theorem dX5_about_67 : decode cX5_about 67 = .ok (.ireturn, 1) := by decide +kernel
theorem dX5_about_68 : decode cX5_about 68 = .ok (.aload_n 0, 1) := by decide +kernel
theorem dX5_about_69 : decode cX5_about 69 = .ok (.getfield 10, 3) := by decide +kernel
theorem dX5_about_72 : decode cX5_about 72 = .ok (.getfield 115, 3) := by decide +kernel
theorem dX5_about_75 : decode cX5_about 75 = .ok (.ireturn, 1) := by decide +kernel
theorem dX5_about_76 : decode cX5_about 76 = .ok (.aload_n 0, 1) := by decide +kernel
theorem dX5_about_77 : decode cX5_about 77 = .ok (.getfield 105, 3) := by decide +kernel
theorem dX5_about_80 : decode cX5_about 80 = .ok (.ireturn, 1) := by decide +kernel
theorem dX5_about_81 : decode cX5_about 81 = .ok (.aload_n 0, 1) := by decide +kernel
theorem dX5_about_82 : decode cX5_about 82 = .ok (.getfield 22, 3) := by decide +kernel
theorem dX5_about_85 : decode cX5_about 85 = .ok (.getfield 158, 3) := by decide +kernel
theorem dX5_about_88 : decode cX5_about 88 = .ok (.ifCond .eq 13, 3) := by decide +kernel
theorem dX5_about_91 : decode cX5_about 91 = .ok (.aload_n 0, 1) := by decide +kernel
theorem dX5_about_92 : decode cX5_about 92 = .ok (.getfield 22, 3) := by decide +kernel
theorem dX5_about_95 : decode cX5_about 95 = .ok (.getfield 225, 3) := by decide +kernel
theorem dX5_about_98 : decode cX5_about 98 = .ok (.goto 4, 3) := by decide +kernel
theorem dX5_about_101 : decode cX5_about 101 = .ok (.iconst (-1), 1) := by decide +kernel
theorem dX5_about_102 : decode cX5_about 102 = .ok (.ireturn, 1) := by decide +kernel
theorem dX5_about_103 : decode cX5_about 103 = .ok (.new 130, 3) := by decide +kernel
theorem dX5_about_106 : decode cX5_about 106 = .ok (.dup, 1) := by decide +kernel
theorem dX5_about_107 : decode cX5_about 107 = .ok (.ldc 228, 2) := by decide +kernel
theorem dX5_about_109 : decode cX5_about 109 = .ok (.invokespecial 134, 3) := by decide +kernel
theorem dX5_about_112 : decode cX5_about 112 = .ok (.athrow, 1) := by decide +kernel
theorem dX5_of_0 : decode cX5_of 0 = .ok (.iload_n 1, 1) := by decide +kernel
theorem dX5_of_1 : decode cX5_of 1 = .ok (.invokestatic 44, 3) := by decide +kernel
theorem dX5_of_4 : decode cX5_of 4 = .ok (.iload_n 2, 1) := by decide +kernel
theorem dX5_of_5 : decode cX5_of 5 = .ok (.ifCond .lt 8, 3) := by decide +kernel
theorem dX5_of_8 : decode cX5_of 8 = .ok (.iload_n 2, 1) := by decide +kernel
theorem dX5_of_9 : decode cX5_of 9 = .ok (.iconst 1, 1) := by decide +kernel
theorem dX5_of_10 : decode cX5_of 10 = .ok (.if_icmp .le 13, 3) := by decide +kernel
theorem dX5_of_13 : decode cX5_of 13 = .ok (.new 130, 3) := by decide +kernel
theorem dX5_of_16 : decode cX5_of 16 = .ok (.dup, 1) := by decide +kernel
theorem dX5_of_17 : decode cX5_of 17 = .ok (.ldc 230, 2) := by decide +kernel
theorem dX5_of_19 : decode cX5_of 19 = .ok (.invokespecial 134, 3) := by decide +kernel
theorem dX5_of_22 : decode cX5_of 22 = .ok (.athrow, 1) := by decide +kernel
theorem dX5_of_23 : decode cX5_of 23 = .ok (.aload_n 0, 1) := by decide +kernel
theorem dX5_of_24 : decode cX5_of 24 = .ok (.getfield 10, 3) := by decide +kernel
theorem dX5_of_27 : decode cX5_of 27 = .ok (.iload_n 1, 1) := by decide +kernel
theorem dX5_of_28 : decode cX5_of 28 = .ok (.invokevirtual 57, 3) := by decide +kernel
theorem dX5_of_31 : decode cX5_of 31 = .ok (.astore_n 3, 1) := by decide +kernel
theorem dX5_of_32 : decode cX5_of 32 = .ok (.iload_n 2, 1) := by decide +kernel
theorem dX5_of_33 : decode cX5_of 33 = .ok (.ifCond .ne 10, 3) := by decide +kernel
theorem dX5_of_36 : decode cX5_of 36 = .ok (.aload_n 3, 1) := by decide +kernel
theorem dX5_of_37 : decode cX5_of 37 = .ok (.getfield 193, 3) := by decide +kernel
theorem dX5_of_40 : decode cX5_of 40 = .ok (.goto 7, 3) := by decide +kernel
theorem dX5_of_43 : decode cX5_of 43 = .ok (.aload_n 3, 1) := by decide +kernel
theorem dX5_of_44 : decode cX5_of 44 = .ok (.getfield 196, 3) := by decide +kernel
theorem dX5_of_47 : decode cX5_of 47 = .ok (.ireturn, 1) := by decide +kernel
theorem dX5_lost_0 : decode cX5_lost 0 = .ok (.iload_n 1, 1) := by decide +kernel
theorem dX5_lost_1 : decode cX5_lost 1 = .ok (.invokestatic 44, 3) := by decide +kernel
theorem dX5_lost_4 : decode cX5_lost 4 = .ok (.iload_n 2, 1) := by decide +kernel
theorem dX5_lost_5 : decode cX5_lost 5 = .ok (.ifCond .lt 9, 3) := by decide +kernel
theorem dX5_lost_8 : decode cX5_lost 8 = .ok (.iload_n 2, 1) := by decide +kernel
theorem dX5_lost_9 : decode cX5_lost 9 = .ok (.bipush 6, 2) := by decide +kernel
theorem dX5_lost_11 : decode cX5_lost 11 = .ok (.if_icmp .lt 13, 3) := by decide +kernel
theorem dX5_lost_14 : decode cX5_lost 14 = .ok (.new 130, 3) := by decide +kernel
theorem dX5_lost_17 : decode cX5_lost 17 = .ok (.dup, 1) := by decide +kernel
theorem dX5_lost_18 : decode cX5_lost 18 = .ok (.ldc 232, 2) := by decide +kernel
theorem dX5_lost_20 : decode cX5_lost 20 = .ok (.invokespecial 134, 3) := by decide +kernel
theorem dX5_lost_23 : decode cX5_lost 23 = .ok (.athrow, 1) := by decide +kernel
theorem dX5_lost_24 : decode cX5_lost 24 = .ok (.aload_n 0, 1) := by decide +kernel
theorem dX5_lost_25 : decode cX5_lost 25 = .ok (.getfield 36, 3) := by decide +kernel
theorem dX5_lost_28 : decode cX5_lost 28 = .ok (.aload_n 0, 1) := by decide +kernel
theorem dX5_lost_29 : decode cX5_lost 29 = .ok (.getfield 29, 3) := by decide +kernel
theorem dX5_lost_32 : decode cX5_lost 32 = .ok (.invokevirtual 214, 3) := by decide +kernel
theorem dX5_lost_35 : decode cX5_lost 35 = .ok (.aload_n 0, 1) := by decide +kernel
theorem dX5_lost_36 : decode cX5_lost 36 = .ok (.getfield 36, 3) := by decide +kernel
theorem dX5_lost_39 : decode cX5_lost 39 = .ok (.iload_n 1, 1) := by decide +kernel
theorem dX5_lost_40 : decode cX5_lost 40 = .ok (.iload_n 2, 1) := by decide +kernel
theorem dX5_lost_41 : decode cX5_lost 41 = .ok (.invokevirtual 234, 3) := by decide +kernel
theorem dX5_lost_44 : decode cX5_lost 44 = .ok (.ireturn, 1) := by decide +kernel
theorem dX5_checkTeam_0 : decode cX5_checkTeam 0 = .ok (.iload_n 0, 1) := by decide +kernel
theorem dX5_checkTeam_1 : decode cX5_checkTeam 1 = .ok (.ifCond .lt 8, 3) := by decide +kernel
theorem dX5_checkTeam_4 : decode cX5_checkTeam 4 = .ok (.iload_n 0, 1) := by decide +kernel
theorem dX5_checkTeam_5 : decode cX5_checkTeam 5 = .ok (.iconst 1, 1) := by decide +kernel
theorem dX5_checkTeam_6 : decode cX5_checkTeam 6 = .ok (.if_icmp .le 13, 3) := by decide +kernel
theorem dX5_checkTeam_9 : decode cX5_checkTeam 9 = .ok (.new 238, 3) := by decide +kernel
theorem dX5_checkTeam_12 : decode cX5_checkTeam 12 = .ok (.dup, 1) := by decide +kernel
theorem dX5_checkTeam_13 : decode cX5_checkTeam 13 = .ok (.ldc 240, 2) := by decide +kernel
theorem dX5_checkTeam_15 : decode cX5_checkTeam 15 = .ok (.invokespecial 242, 3) := by decide +kernel
theorem dX5_checkTeam_18 : decode cX5_checkTeam 18 = .ok (.athrow, 1) := by decide +kernel
theorem dX5_checkTeam_19 : decode cX5_checkTeam 19 = .ok (.return_, 1) := by decide +kernel
theorem dX5_checkPlace_0 : decode cX5_checkPlace 0 = .ok (.iload_n 0, 1) := by decide +kernel
theorem dX5_checkPlace_1 : decode cX5_checkPlace 1 = .ok (.iconst 1, 1) := by decide +kernel
theorem dX5_checkPlace_2 : decode cX5_checkPlace 2 = .ok (.if_icmp .lt 9, 3) := by decide +kernel
theorem dX5_checkPlace_5 : decode cX5_checkPlace 5 = .ok (.iload_n 0, 1) := by decide +kernel
theorem dX5_checkPlace_6 : decode cX5_checkPlace 6 = .ok (.bipush 6, 2) := by decide +kernel
theorem dX5_checkPlace_8 : decode cX5_checkPlace 8 = .ok (.if_icmp .le 13, 3) := by decide +kernel
theorem dX5_checkPlace_11 : decode cX5_checkPlace 11 = .ok (.new 238, 3) := by decide +kernel
theorem dX5_checkPlace_14 : decode cX5_checkPlace 14 = .ok (.dup, 1) := by decide +kernel
theorem dX5_checkPlace_15 : decode cX5_checkPlace 15 = .ok (.ldc 243, 2) := by decide +kernel
theorem dX5_checkPlace_17 : decode cX5_checkPlace 17 = .ok (.invokespecial 242, 3) := by decide +kernel
theorem dX5_checkPlace_20 : decode cX5_checkPlace 20 = .ok (.athrow, 1) := by decide +kernel
theorem dX5_checkPlace_21 : decode cX5_checkPlace 21 = .ok (.return_, 1) := by decide +kernel
theorem dX5_checkShirt_0 : decode cX5_checkShirt 0 = .ok (.iload_n 0, 1) := by decide +kernel
theorem dX5_checkShirt_1 : decode cX5_checkShirt 1 = .ok (.iconst 1, 1) := by decide +kernel
theorem dX5_checkShirt_2 : decode cX5_checkShirt 2 = .ok (.if_icmp .lt 9, 3) := by decide +kernel
theorem dX5_checkShirt_5 : decode cX5_checkShirt 5 = .ok (.iload_n 0, 1) := by decide +kernel
theorem dX5_checkShirt_6 : decode cX5_checkShirt 6 = .ok (.bipush 20, 2) := by decide +kernel
theorem dX5_checkShirt_8 : decode cX5_checkShirt 8 = .ok (.if_icmp .le 13, 3) := by decide +kernel
theorem dX5_checkShirt_11 : decode cX5_checkShirt 11 = .ok (.new 238, 3) := by decide +kernel
theorem dX5_checkShirt_14 : decode cX5_checkShirt 14 = .ok (.dup, 1) := by decide +kernel
theorem dX5_checkShirt_15 : decode cX5_checkShirt 15 = .ok (.ldc 245, 2) := by decide +kernel
theorem dX5_checkShirt_17 : decode cX5_checkShirt 17 = .ok (.invokespecial 242, 3) := by decide +kernel
theorem dX5_checkShirt_20 : decode cX5_checkShirt 20 = .ok (.athrow, 1) := by decide +kernel
theorem dX5_checkShirt_21 : decode cX5_checkShirt 21 = .ok (.return_, 1) := by decide +kernel
theorem dX5_checkAheadOfSet_0 : decode cX5_checkAheadOfSet 0 = .ok (.aload_n 0, 1) := by decide +kernel
theorem dX5_checkAheadOfSet_1 : decode cX5_checkAheadOfSet 1 = .ok (.getfield 10, 3) := by decide +kernel
theorem dX5_checkAheadOfSet_4 : decode cX5_checkAheadOfSet 4 = .ok (.invokevirtual 222, 3) := by decide +kernel
theorem dX5_checkAheadOfSet_7 : decode cX5_checkAheadOfSet 7 = .ok (.ifCond .ne 13, 3) := by decide +kernel
theorem dX5_checkAheadOfSet_10 : decode cX5_checkAheadOfSet 10 = .ok (.aload_n 0, 1) := by decide +kernel
theorem dX5_checkAheadOfSet_11 : decode cX5_checkAheadOfSet 11 = .ok (.getfield 10, 3) := by decide +kernel
theorem dX5_checkAheadOfSet_14 : decode cX5_checkAheadOfSet 14 = .ok (.invokevirtual 247, 3) := by decide +kernel
theorem dX5_checkAheadOfSet_17 : decode cX5_checkAheadOfSet 17 = .ok (.ifCond .eq 13, 3) := by decide +kernel
theorem dX5_checkAheadOfSet_20 : decode cX5_checkAheadOfSet 20 = .ok (.new 85, 3) := by decide +kernel
theorem dX5_checkAheadOfSet_23 : decode cX5_checkAheadOfSet 23 = .ok (.dup, 1) := by decide +kernel
theorem dX5_checkAheadOfSet_24 : decode cX5_checkAheadOfSet 24 = .ok (.ldc 250, 2) := by decide +kernel
theorem dX5_checkAheadOfSet_26 : decode cX5_checkAheadOfSet 26 = .ok (.invokespecial 89, 3) := by decide +kernel
theorem dX5_checkAheadOfSet_29 : decode cX5_checkAheadOfSet 29 = .ok (.athrow, 1) := by decide +kernel
theorem dX5_checkAheadOfSet_30 : decode cX5_checkAheadOfSet 30 = .ok (.return_, 1) := by decide +kernel
theorem dX5_checkBetweenRallies_0 : decode cX5_checkBetweenRallies 0 = .ok (.aload_n 0, 1) := by decide +kernel
theorem dX5_checkBetweenRallies_1 : decode cX5_checkBetweenRallies 1 = .ok (.getfield 10, 3) := by decide +kernel
theorem dX5_checkBetweenRallies_4 : decode cX5_checkBetweenRallies 4 = .ok (.invokevirtual 222, 3) := by decide +kernel
theorem dX5_checkBetweenRallies_7 : decode cX5_checkBetweenRallies 7 = .ok (.ifCond .eq 13, 3) := by decide +kernel
theorem dX5_checkBetweenRallies_10 : decode cX5_checkBetweenRallies 10 = .ok (.aload_n 0, 1) := by decide +kernel
theorem dX5_checkBetweenRallies_11 : decode cX5_checkBetweenRallies 11 = .ok (.getfield 22, 3) := by decide +kernel
theorem dX5_checkBetweenRallies_14 : decode cX5_checkBetweenRallies 14 = .ok (.getfield 158, 3) := by decide +kernel
theorem dX5_checkBetweenRallies_17 : decode cX5_checkBetweenRallies 17 = .ok (.ifCond .eq 13, 3) := by decide +kernel
theorem dX5_checkBetweenRallies_20 : decode cX5_checkBetweenRallies 20 = .ok (.new 85, 3) := by decide +kernel
theorem dX5_checkBetweenRallies_23 : decode cX5_checkBetweenRallies 23 = .ok (.dup, 1) := by decide +kernel
theorem dX5_checkBetweenRallies_24 : decode cX5_checkBetweenRallies 24 = .ok (.ldc 252, 2) := by decide +kernel
theorem dX5_checkBetweenRallies_26 : decode cX5_checkBetweenRallies 26 = .ok (.invokespecial 89, 3) := by decide +kernel
theorem dX5_checkBetweenRallies_29 : decode cX5_checkBetweenRallies 29 = .ok (.athrow, 1) := by decide +kernel
theorem dX5_checkBetweenRallies_30 : decode cX5_checkBetweenRallies 30 = .ok (.return_, 1) := by decide +kernel
theorem dX5_checkRally_0 : decode cX5_checkRally 0 = .ok (.aload_n 0, 1) := by decide +kernel
theorem dX5_checkRally_1 : decode cX5_checkRally 1 = .ok (.getfield 22, 3) := by decide +kernel
theorem dX5_checkRally_4 : decode cX5_checkRally 4 = .ok (.getfield 158, 3) := by decide +kernel
theorem dX5_checkRally_7 : decode cX5_checkRally 7 = .ok (.ifCond .ne 13, 3) := by decide +kernel
theorem dX5_checkRally_10 : decode cX5_checkRally 10 = .ok (.new 85, 3) := by decide +kernel
theorem dX5_checkRally_13 : decode cX5_checkRally 13 = .ok (.dup, 1) := by decide +kernel
theorem dX5_checkRally_14 : decode cX5_checkRally 14 = .ok (.ldc 254, 2) := by decide +kernel
theorem dX5_checkRally_16 : decode cX5_checkRally 16 = .ok (.invokespecial 89, 3) := by decide +kernel
theorem dX5_checkRally_19 : decode cX5_checkRally 19 = .ok (.athrow, 1) := by decide +kernel
theorem dX5_checkRally_20 : decode cX5_checkRally 20 = .ok (.return_, 1) := by decide +kernel
theorem dX5_writeOrder_0 : decode cX5_writeOrder 0 = .ok (.aload_n 0, 1) := by decide +kernel
theorem dX5_writeOrder_1 : decode cX5_writeOrder 1 = .ok (.getfield 10, 3) := by decide +kernel
theorem dX5_writeOrder_4 : decode cX5_writeOrder 4 = .ok (.iload_n 1, 1) := by decide +kernel
theorem dX5_writeOrder_5 : decode cX5_writeOrder 5 = .ok (.invokevirtual 57, 3) := by decide +kernel
theorem dX5_writeOrder_8 : decode cX5_writeOrder 8 = .ok (.astore_n 2, 1) := by decide +kernel
theorem dX5_writeOrder_9 : decode cX5_writeOrder 9 = .ok (.iconst 1, 1) := by decide +kernel
theorem dX5_writeOrder_10 : decode cX5_writeOrder 10 = .ok (.istore_n 3, 1) := by decide +kernel
theorem dX5_writeOrder_11 : decode cX5_writeOrder 11 = .ok (.iload_n 3, 1) := by decide +kernel
theorem dX5_writeOrder_12 : decode cX5_writeOrder 12 = .ok (.bipush 6, 2) := by decide +kernel
theorem dX5_writeOrder_14 : decode cX5_writeOrder 14 = .ok (.if_icmp .gt 24, 3) := by decide +kernel
theorem dX5_writeOrder_17 : decode cX5_writeOrder 17 = .ok (.aload_n 0, 1) := by decide +kernel
theorem dX5_writeOrder_18 : decode cX5_writeOrder 18 = .ok (.getfield 29, 3) := by decide +kernel
theorem dX5_writeOrder_21 : decode cX5_writeOrder 21 = .ok (.iconst 0, 1) := by decide +kernel
theorem dX5_writeOrder_22 : decode cX5_writeOrder 22 = .ok (.iload_n 1, 1) := by decide +kernel
theorem dX5_writeOrder_23 : decode cX5_writeOrder 23 = .ok (.iload_n 3, 1) := by decide +kernel
theorem dX5_writeOrder_24 : decode cX5_writeOrder 24 = .ok (.aload_n 2, 1) := by decide +kernel
theorem dX5_writeOrder_25 : decode cX5_writeOrder 25 = .ok (.iload_n 3, 1) := by decide +kernel
theorem dX5_writeOrder_26 : decode cX5_writeOrder 26 = .ok (.invokevirtual 61, 3) := by decide +kernel
theorem dX5_writeOrder_29 : decode cX5_writeOrder 29 = .ok (.invokevirtual 101, 3) := by decide +kernel
theorem dX5_writeOrder_32 : decode cX5_writeOrder 32 = .ok (.iinc 3 1, 3) := by decide +kernel
theorem dX5_writeOrder_35 : decode cX5_writeOrder 35 = .ok (.goto (-24), 3) := by decide +kernel
theorem dX5_writeOrder_38 : decode cX5_writeOrder 38 = .ok (.aload_n 2, 1) := by decide +kernel
theorem dX5_writeOrder_39 : decode cX5_writeOrder 39 = .ok (.getfield 71, 3) := by decide +kernel
theorem dX5_writeOrder_42 : decode cX5_writeOrder 42 = .ok (.iconst (-1), 1) := by decide +kernel
theorem dX5_writeOrder_43 : decode cX5_writeOrder 43 = .ok (.if_icmp .eq 17, 3) := by decide +kernel
theorem dX5_writeOrder_46 : decode cX5_writeOrder 46 = .ok (.aload_n 0, 1) := by decide +kernel
theorem dX5_writeOrder_47 : decode cX5_writeOrder 47 = .ok (.getfield 29, 3) := by decide +kernel
theorem dX5_writeOrder_50 : decode cX5_writeOrder 50 = .ok (.iconst 1, 1) := by decide +kernel
theorem dX5_writeOrder_51 : decode cX5_writeOrder 51 = .ok (.iload_n 1, 1) := by decide +kernel
theorem dX5_writeOrder_52 : decode cX5_writeOrder 52 = .ok (.aload_n 2, 1) := by decide +kernel
theorem dX5_writeOrder_53 : decode cX5_writeOrder 53 = .ok (.getfield 71, 3) := by decide +kernel
theorem dX5_writeOrder_56 : decode cX5_writeOrder 56 = .ok (.iconst 0, 1) := by decide +kernel
theorem dX5_writeOrder_57 : decode cX5_writeOrder 57 = .ok (.invokevirtual 101, 3) := by decide +kernel
theorem dX5_writeOrder_60 : decode cX5_writeOrder 60 = .ok (.return_, 1) := by decide +kernel
theorem dX5_endRally_0 : decode cX5_endRally 0 = .ok (.aload_n 0, 1) := by decide +kernel
theorem dX5_endRally_1 : decode cX5_endRally 1 = .ok (.getfield 16, 3) := by decide +kernel
theorem dX5_endRally_4 : decode cX5_endRally 4 = .ok (.aload_n 0, 1) := by decide +kernel
theorem dX5_endRally_5 : decode cX5_endRally 5 = .ok (.getfield 10, 3) := by decide +kernel
theorem dX5_endRally_8 : decode cX5_endRally 8 = .ok (.invokevirtual 204, 3) := by decide +kernel
theorem dX5_endRally_11 : decode cX5_endRally 11 = .ok (.aload_n 0, 1) := by decide +kernel
theorem dX5_endRally_12 : decode cX5_endRally 12 = .ok (.aload_n 0, 1) := by decide +kernel
theorem dX5_endRally_13 : decode cX5_endRally 13 = .ok (.getfield 29, 3) := by decide +kernel
theorem dX5_endRally_16 : decode cX5_endRally 16 = .ok (.getfield 256, 3) := by decide +kernel
theorem dX5_endRally_19 : decode cX5_endRally 19 = .ok (.putfield 208, 3) := by decide +kernel
theorem dX5_endRally_22 : decode cX5_endRally 22 = .ok (.aload_n 0, 1) := by decide +kernel
theorem dX5_endRally_23 : decode cX5_endRally 23 = .ok (.getfield 22, 3) := by decide +kernel
theorem dX5_endRally_26 : decode cX5_endRally 26 = .ok (.iconst 0, 1) := by decide +kernel
theorem dX5_endRally_27 : decode cX5_endRally 27 = .ok (.putfield 158, 3) := by decide +kernel
theorem dX5_endRally_30 : decode cX5_endRally 30 = .ok (.aload_n 0, 1) := by decide +kernel
theorem dX5_endRally_31 : decode cX5_endRally 31 = .ok (.getfield 29, 3) := by decide +kernel
theorem dX5_endRally_34 : decode cX5_endRally 34 = .ok (.iconst 4, 1) := by decide +kernel
theorem dX5_endRally_35 : decode cX5_endRally 35 = .ok (.iload_n 1, 1) := by decide +kernel
theorem dX5_endRally_36 : decode cX5_endRally 36 = .ok (.iconst 0, 1) := by decide +kernel
theorem dX5_endRally_37 : decode cX5_endRally 37 = .ok (.iconst 0, 1) := by decide +kernel
theorem dX5_endRally_38 : decode cX5_endRally 38 = .ok (.invokevirtual 101, 3) := by decide +kernel
theorem dX5_endRally_41 : decode cX5_endRally 41 = .ok (.aload_n 0, 1) := by decide +kernel
theorem dX5_endRally_42 : decode cX5_endRally 42 = .ok (.getfield 10, 3) := by decide +kernel
theorem dX5_endRally_45 : decode cX5_endRally 45 = .ok (.iload_n 1, 1) := by decide +kernel
theorem dX5_endRally_46 : decode cX5_endRally 46 = .ok (.invokevirtual 259, 3) := by decide +kernel
theorem dX5_endRally_49 : decode cX5_endRally 49 = .ok (.aload_n 0, 1) := by decide +kernel
theorem dX5_endRally_50 : decode cX5_endRally 50 = .ok (.iload_n 1, 1) := by decide +kernel
theorem dX5_endRally_51 : decode cX5_endRally 51 = .ok (.invokevirtual 170, 3) := by decide +kernel
theorem dX5_endRally_54 : decode cX5_endRally 54 = .ok (.aload_n 0, 1) := by decide +kernel
theorem dX5_endRally_55 : decode cX5_endRally 55 = .ok (.iconst 1, 1) := by decide +kernel
theorem dX5_endRally_56 : decode cX5_endRally 56 = .ok (.iload_n 1, 1) := by decide +kernel
theorem dX5_endRally_57 : decode cX5_endRally 57 = .ok (.isub, 1) := by decide +kernel
theorem dX5_endRally_58 : decode cX5_endRally 58 = .ok (.putfield 40, 3) := by decide +kernel
theorem dX5_endRally_61 : decode cX5_endRally 61 = .ok (.aload_n 0, 1) := by decide +kernel
theorem dX5_endRally_62 : decode cX5_endRally 62 = .ok (.iload_n 2, 1) := by decide +kernel
theorem dX5_endRally_63 : decode cX5_endRally 63 = .ok (.putfield 105, 3) := by decide +kernel
theorem dX5_endRally_66 : decode cX5_endRally 66 = .ok (.return_, 1) := by decide +kernel
theorem dX5_endSetIfWonBy_0 : decode cX5_endSetIfWonBy 0 = .ok (.aload_n 0, 1) := by decide +kernel
theorem dX5_endSetIfWonBy_1 : decode cX5_endSetIfWonBy 1 = .ok (.getfield 10, 3) := by decide +kernel
theorem dX5_endSetIfWonBy_4 : decode cX5_endSetIfWonBy 4 = .ok (.iload_n 1, 1) := by decide +kernel
theorem dX5_endSetIfWonBy_5 : decode cX5_endSetIfWonBy 5 = .ok (.invokevirtual 262, 3) := by decide +kernel
theorem dX5_endSetIfWonBy_8 : decode cX5_endSetIfWonBy 8 = .ok (.ifCond .eq 11, 3) := by decide +kernel
theorem dX5_endSetIfWonBy_11 : decode cX5_endSetIfWonBy 11 = .ok (.aload_n 0, 1) := by decide +kernel
theorem dX5_endSetIfWonBy_12 : decode cX5_endSetIfWonBy 12 = .ok (.getfield 10, 3) := by decide +kernel
theorem dX5_endSetIfWonBy_15 : decode cX5_endSetIfWonBy 15 = .ok (.iload_n 1, 1) := by decide +kernel
theorem dX5_endSetIfWonBy_16 : decode cX5_endSetIfWonBy 16 = .ok (.invokevirtual 265, 3) := by decide +kernel
theorem dX5_endSetIfWonBy_19 : decode cX5_endSetIfWonBy 19 = .ok (.return_, 1) := by decide +kernel
theorem dX5_valueIn_0 : decode cX5_valueIn 0 = .ok (.iload_n 1, 1) := by decide +kernel
theorem dX5_valueIn_1 : decode cX5_valueIn 1 = .ok (.ifCond .lt 15, 3) := by decide +kernel
theorem dX5_valueIn_4 : decode cX5_valueIn 4 = .ok (.iload_n 1, 1) := by decide +kernel
theorem dX5_valueIn_5 : decode cX5_valueIn 5 = .ok (.aload_n 0, 1) := by decide +kernel
theorem dX5_valueIn_6 : decode cX5_valueIn 6 = .ok (.arraylength, 1) := by decide +kernel
theorem dX5_valueIn_7 : decode cX5_valueIn 7 = .ok (.if_icmp .ge 9, 3) := by decide +kernel
theorem dX5_valueIn_10 : decode cX5_valueIn 10 = .ok (.aload_n 0, 1) := by decide +kernel
theorem dX5_valueIn_11 : decode cX5_valueIn 11 = .ok (.iload_n 1, 1) := by decide +kernel
theorem dX5_valueIn_12 : decode cX5_valueIn 12 = .ok (.iaload, 1) := by decide +kernel
theorem dX5_valueIn_13 : decode cX5_valueIn 13 = .ok (.goto 4, 3) := by decide +kernel
theorem dX5_valueIn_16 : decode cX5_valueIn 16 = .ok (.iconst (-1), 1) := by decide +kernel
theorem dX5_valueIn_17 : decode cX5_valueIn 17 = .ok (.ireturn, 1) := by decide +kernel
theorem dX5_putIn_0 : decode cX5_putIn 0 = .ok (.iload_n 1, 1) := by decide +kernel
theorem dX5_putIn_1 : decode cX5_putIn 1 = .ok (.ifCond .lt 13, 3) := by decide +kernel
theorem dX5_putIn_4 : decode cX5_putIn 4 = .ok (.iload_n 1, 1) := by decide +kernel
theorem dX5_putIn_5 : decode cX5_putIn 5 = .ok (.aload_n 0, 1) := by decide +kernel
theorem dX5_putIn_6 : decode cX5_putIn 6 = .ok (.arraylength, 1) := by decide +kernel
theorem dX5_putIn_7 : decode cX5_putIn 7 = .ok (.if_icmp .ge 7, 3) := by decide +kernel
theorem dX5_putIn_10 : decode cX5_putIn 10 = .ok (.aload_n 0, 1) := by decide +kernel
theorem dX5_putIn_11 : decode cX5_putIn 11 = .ok (.iload_n 1, 1) := by decide +kernel
theorem dX5_putIn_12 : decode cX5_putIn 12 = .ok (.iload_n 2, 1) := by decide +kernel
theorem dX5_putIn_13 : decode cX5_putIn 13 = .ok (.iastore, 1) := by decide +kernel
theorem dX5_putIn_14 : decode cX5_putIn 14 = .ok (.return_, 1) := by decide +kernel

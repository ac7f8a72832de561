theorem dX6_init_0 : decode cX6_init 0 = .ok (.aload_n 0, 1) := by decide +kernel
theorem dX6_init_1 : decode cX6_init 1 = .ok (.invokespecial 1, 3) := by decide +kernel
theorem dX6_init_4 : decode cX6_init 4 = .ok (.aload_n 0, 1) := by decide +kernel
theorem dX6_init_5 : decode cX6_init 5 = .ok (.bipush 92, 2) := by decide +kernel
theorem dX6_init_7 : decode cX6_init 7 = .ok (.newarray .int, 2) := by decide +kernel
theorem dX6_init_9 : decode cX6_init 9 = .ok (.putfield 7, 3) := by decide +kernel
theorem dX6_init_12 : decode cX6_init 12 = .ok (.aload_n 0, 1) := by decide +kernel
theorem dX6_init_13 : decode cX6_init 13 = .ok (.bipush 92, 2) := by decide +kernel
theorem dX6_init_15 : decode cX6_init 15 = .ok (.newarray .int, 2) := by decide +kernel
theorem dX6_init_17 : decode cX6_init 17 = .ok (.putfield 13, 3) := by decide +kernel
theorem dX6_init_20 : decode cX6_init 20 = .ok (.iconst 0, 1) := by decide +kernel
theorem dX6_init_21 : decode cX6_init 21 = .ok (.istore_n 1, 1) := by decide +kernel
theorem dX6_init_22 : decode cX6_init 22 = .ok (.iload_n 1, 1) := by decide +kernel
theorem dX6_init_23 : decode cX6_init 23 = .ok (.bipush 12, 2) := by decide +kernel
theorem dX6_init_25 : decode cX6_init 25 = .ok (.if_icmp .ge 19, 3) := by decide +kernel
theorem dX6_init_28 : decode cX6_init 28 = .ok (.aload_n 0, 1) := by decide +kernel
theorem dX6_init_29 : decode cX6_init 29 = .ok (.getfield 7, 3) := by decide +kernel
theorem dX6_init_32 : decode cX6_init 32 = .ok (.bipush 14, 2) := by decide +kernel
theorem dX6_init_34 : decode cX6_init 34 = .ok (.iload_n 1, 1) := by decide +kernel
theorem dX6_init_35 : decode cX6_init 35 = .ok (.iadd, 1) := by decide +kernel
theorem dX6_init_36 : decode cX6_init 36 = .ok (.iconst (-1), 1) := by decide +kernel
theorem dX6_init_37 : decode cX6_init 37 = .ok (.iastore, 1) := by decide +kernel
theorem dX6_init_38 : decode cX6_init 38 = .ok (.iinc 1 1, 3) := by decide +kernel
theorem dX6_init_41 : decode cX6_init 41 = .ok (.goto (-19), 3) := by decide +kernel
theorem dX6_init_44 : decode cX6_init 44 = .ok (.iconst 0, 1) := by decide +kernel
theorem dX6_init_45 : decode cX6_init 45 = .ok (.istore_n 1, 1) := by decide +kernel
theorem dX6_init_46 : decode cX6_init 46 = .ok (.iload_n 1, 1) := by decide +kernel
theorem dX6_init_47 : decode cX6_init 47 = .ok (.iconst 2, 1) := by decide +kernel
theorem dX6_init_48 : decode cX6_init 48 = .ok (.if_icmp .ge 39, 3) := by decide +kernel
theorem dX6_init_51 : decode cX6_init 51 = .ok (.aload_n 0, 1) := by decide +kernel
theorem dX6_init_52 : decode cX6_init 52 = .ok (.getfield 7, 3) := by decide +kernel
theorem dX6_init_55 : decode cX6_init 55 = .ok (.bipush 26, 2) := by decide +kernel
theorem dX6_init_57 : decode cX6_init 57 = .ok (.iload_n 1, 1) := by decide +kernel
theorem dX6_init_58 : decode cX6_init 58 = .ok (.iadd, 1) := by decide +kernel
theorem dX6_init_59 : decode cX6_init 59 = .ok (.iconst (-1), 1) := by decide +kernel
theorem dX6_init_60 : decode cX6_init 60 = .ok (.iastore, 1) := by decide +kernel
theorem dX6_init_61 : decode cX6_init 61 = .ok (.aload_n 0, 1) := by decide +kernel
theorem dX6_init_62 : decode cX6_init 62 = .ok (.getfield 7, 3) := by decide +kernel
theorem dX6_init_65 : decode cX6_init 65 = .ok (.bipush 28, 2) := by decide +kernel
theorem dX6_init_67 : decode cX6_init 67 = .ok (.iload_n 1, 1) := by decide +kernel
theorem dX6_init_68 : decode cX6_init 68 = .ok (.iadd, 1) := by decide +kernel
theorem dX6_init_69 : decode cX6_init 69 = .ok (.iconst (-1), 1) := by decide +kernel
theorem dX6_init_70 : decode cX6_init 70 = .ok (.iastore, 1) := by decide +kernel
theorem dX6_init_71 : decode cX6_init 71 = .ok (.aload_n 0, 1) := by decide +kernel
theorem dX6_init_72 : decode cX6_init 72 = .ok (.getfield 7, 3) := by decide +kernel
theorem dX6_init_75 : decode cX6_init 75 = .ok (.bipush 34, 2) := by decide +kernel
theorem dX6_init_77 : decode cX6_init 77 = .ok (.iload_n 1, 1) := by decide +kernel
theorem dX6_init_78 : decode cX6_init 78 = .ok (.iadd, 1) := by decide +kernel
theorem dX6_init_79 : decode cX6_init 79 = .ok (.iconst 2, 1) := by decide +kernel
theorem dX6_init_80 : decode cX6_init 80 = .ok (.iastore, 1) := by decide +kernel
theorem dX6_init_81 : decode cX6_init 81 = .ok (.iinc 1 1, 3) := by decide +kernel
theorem dX6_init_84 : decode cX6_init 84 = .ok (.goto (-38), 3) := by decide +kernel
theorem dX6_init_87 : decode cX6_init 87 = .ok (.aload_n 0, 1) := by decide +kernel
theorem dX6_init_88 : decode cX6_init 88 = .ok (.getfield 7, 3) := by decide +kernel
theorem dX6_init_91 : decode cX6_init 91 = .ok (.bipush 9, 2) := by decide +kernel
theorem dX6_init_93 : decode cX6_init 93 = .ok (.iconst (-1), 1) := by decide +kernel
theorem dX6_init_94 : decode cX6_init 94 = .ok (.iastore, 1) := by decide +kernel
theorem dX6_init_95 : decode cX6_init 95 = .ok (.return_, 1) := by decide +kernel
theorem dX6_thrown_0 : decode cX6_thrown 0 = .ok (.aload_n 0, 1) := by decide +kernel
theorem dX6_thrown_1 : decode cX6_thrown 1 = .ok (.getfield 16, 3) := by decide +kernel
theorem dX6_thrown_4 : decode cX6_thrown 4 = .ok (.ireturn, 1) := by decide +kernel
theorem dX6_goes_0 : decode cX6_goes 0 = .ok (.aload_n 0, 1) := by decide +kernel
theorem dX6_goes_1 : decode cX6_goes 1 = .ok (.iload_n 1, 1) := by decide +kernel
theorem dX6_goes_2 : decode cX6_goes 2 = .ok (.putfield 16, 3) := by decide +kernel
theorem dX6_goes_5 : decode cX6_goes 5 = .ok (.iload_n 1, 1) := by decide +kernel
theorem dX6_goes_6 : decode cX6_goes 6 = .ok (.ifCond .ne 7, 3) := by decide +kernel
theorem dX6_goes_9 : decode cX6_goes 9 = .ok (.iconst 1, 1) := by decide +kernel
theorem dX6_goes_10 : decode cX6_goes 10 = .ok (.goto 4, 3) := by decide +kernel
theorem dX6_goes_13 : decode cX6_goes 13 = .ok (.iconst 0, 1) := by decide +kernel
theorem dX6_goes_14 : decode cX6_goes 14 = .ok (.ireturn, 1) := by decide +kernel
theorem dX6_isIn_0 : decode cX6_isIn 0 = .ok (.iload_n 0, 1) := by decide +kernel
theorem dX6_isIn_1 : decode cX6_isIn 1 = .ok (.iload_n 1, 1) := by decide +kernel
theorem dX6_isIn_2 : decode cX6_isIn 2 = .ok (.if_icmp .lt 12, 3) := by decide +kernel
theorem dX6_isIn_5 : decode cX6_isIn 5 = .ok (.iload_n 0, 1) := by decide +kernel
theorem dX6_isIn_6 : decode cX6_isIn 6 = .ok (.iload_n 2, 1) := by decide +kernel
theorem dX6_isIn_7 : decode cX6_isIn 7 = .ok (.if_icmp .gt 7, 3) := by decide +kernel
theorem dX6_isIn_10 : decode cX6_isIn 10 = .ok (.iconst 1, 1) := by decide +kernel
theorem dX6_isIn_11 : decode cX6_isIn 11 = .ok (.goto 4, 3) := by decide +kernel
theorem dX6_isIn_14 : decode cX6_isIn 14 = .ok (.iconst 0, 1) := by decide +kernel
theorem dX6_isIn_15 : decode cX6_isIn 15 = .ok (.ireturn, 1) := by decide +kernel
theorem dX6_isTeam_0 : decode cX6_isTeam 0 = .ok (.iload_n 0, 1) := by decide +kernel
theorem dX6_isTeam_1 : decode cX6_isTeam 1 = .ok (.iconst 0, 1) := by decide +kernel
theorem dX6_isTeam_2 : decode cX6_isTeam 2 = .ok (.iconst 1, 1) := by decide +kernel
theorem dX6_isTeam_3 : decode cX6_isTeam 3 = .ok (.invokestatic 20, 3) := by decide +kernel
theorem dX6_isTeam_6 : decode cX6_isTeam 6 = .ok (.ireturn, 1) := by decide +kernel
theorem dX6_isShirt_0 : decode cX6_isShirt 0 = .ok (.iload_n 0, 1) := by decide +kernel
theorem dX6_isShirt_1 : decode cX6_isShirt 1 = .ok (.iconst 1, 1) := by decide +kernel
theorem dX6_isShirt_2 : decode cX6_isShirt 2 = .ok (.bipush 20, 2) := by decide +kernel
theorem dX6_isShirt_4 : decode cX6_isShirt 4 = .ok (.invokestatic 20, 3) := by decide +kernel
theorem dX6_isShirt_7 : decode cX6_isShirt 7 = .ok (.ireturn, 1) := by decide +kernel
theorem dX6_isOver_0 : decode cX6_isOver 0 = .ok (.aload_n 0, 1) := by decide +kernel
theorem dX6_isOver_1 : decode cX6_isOver 1 = .ok (.getfield 7, 3) := by decide +kernel
theorem dX6_isOver_4 : decode cX6_isOver 4 = .ok (.bipush 12, 2) := by decide +kernel
theorem dX6_isOver_6 : decode cX6_isOver 6 = .ok (.iaload, 1) := by decide +kernel
theorem dX6_isOver_7 : decode cX6_isOver 7 = .ok (.iconst 3, 1) := by decide +kernel
theorem dX6_isOver_8 : decode cX6_isOver 8 = .ok (.if_icmp .eq 14, 3) := by decide +kernel
theorem dX6_isOver_11 : decode cX6_isOver 11 = .ok (.aload_n 0, 1) := by decide +kernel
theorem dX6_isOver_12 : decode cX6_isOver 12 = .ok (.getfield 7, 3) := by decide +kernel
theorem dX6_isOver_15 : decode cX6_isOver 15 = .ok (.bipush 13, 2) := by decide +kernel
theorem dX6_isOver_17 : decode cX6_isOver 17 = .ok (.iaload, 1) := by decide +kernel
theorem dX6_isOver_18 : decode cX6_isOver 18 = .ok (.iconst 3, 1) := by decide +kernel
theorem dX6_isOver_19 : decode cX6_isOver 19 = .ok (.if_icmp .ne 7, 3) := by decide +kernel
theorem dX6_isOver_22 : decode cX6_isOver 22 = .ok (.iconst 1, 1) := by decide +kernel
theorem dX6_isOver_23 : decode cX6_isOver 23 = .ok (.goto 4, 3) := by decide +kernel
theorem dX6_isOver_26 : decode cX6_isOver 26 = .ok (.iconst 0, 1) := by decide +kernel
theorem dX6_isOver_27 : decode cX6_isOver 27 = .ok (.ireturn, 1) := by decide +kernel
theorem dX6_slot_0 : decode cX6_slot 0 = .ok (.bipush 14, 2) := by decide +kernel
theorem dX6_slot_2 : decode cX6_slot 2 = .ok (.bipush 6, 2) := by decide +kernel
theorem dX6_slot_4 : decode cX6_slot 4 = .ok (.iload_n 0, 1) := by decide +kernel
theorem dX6_slot_5 : decode cX6_slot 5 = .ok (.imul, 1) := by decide +kernel
theorem dX6_slot_6 : decode cX6_slot 6 = .ok (.iadd, 1) := by decide +kernel
theorem dX6_slot_7 : decode cX6_slot 7 = .ok (.iload_n 1, 1) := by decide +kernel
theorem dX6_slot_8 : decode cX6_slot 8 = .ok (.iadd, 1) := by decide +kernel
theorem dX6_slot_9 : decode cX6_slot 9 = .ok (.iconst 1, 1) := by decide +kernel
theorem dX6_slot_10 : decode cX6_slot 10 = .ok (.isub, 1) := by decide +kernel
theorem dX6_slot_11 : decode cX6_slot 11 = .ok (.ireturn, 1) := by decide +kernel
theorem dX6_place_0 : decode cX6_place 0 = .ok (.iconst 0, 1) := by decide +kernel
theorem dX6_place_1 : decode cX6_place 1 = .ok (.istore_n 3, 1) := by decide +kernel
theorem dX6_place_2 : decode cX6_place 2 = .ok (.iconst 1, 1) := by decide +kernel
theorem dX6_place_3 : decode cX6_place 3 = .ok (.istore 4, 2) := by decide +kernel
theorem dX6_place_5 : decode cX6_place 5 = .ok (.iload 4, 2) := by decide +kernel
theorem dX6_place_7 : decode cX6_place 7 = .ok (.bipush 6, 2) := by decide +kernel
theorem dX6_place_9 : decode cX6_place 9 = .ok (.if_icmp .gt 31, 3) := by decide +kernel
theorem dX6_place_12 : decode cX6_place 12 = .ok (.aload_n 0, 1) := by decide +kernel
theorem dX6_place_13 : decode cX6_place 13 = .ok (.getfield 7, 3) := by decide +kernel
theorem dX6_place_16 : decode cX6_place 16 = .ok (.iload_n 1, 1) := by decide +kernel
theorem dX6_place_17 : decode cX6_place 17 = .ok (.iload 4, 2) := by decide +kernel
theorem dX6_place_19 : decode cX6_place 19 = .ok (.invokestatic 24, 3) := by decide +kernel
theorem dX6_place_22 : decode cX6_place 22 = .ok (.iaload, 1) := by decide +kernel
theorem dX6_place_23 : decode cX6_place 23 = .ok (.iload_n 2, 1) := by decide +kernel
theorem dX6_place_24 : decode cX6_place 24 = .ok (.if_icmp .ne 8, 3) := by decide +kernel
theorem dX6_place_27 : decode cX6_place 27 = .ok (.iload 4, 2) := by decide +kernel
theorem dX6_place_29 : decode cX6_place 29 = .ok (.goto 4, 3) := by decide +kernel
theorem dX6_place_32 : decode cX6_place 32 = .ok (.iload_n 3, 1) := by decide +kernel
theorem dX6_place_33 : decode cX6_place 33 = .ok (.istore_n 3, 1) := by decide +kernel
theorem dX6_place_34 : decode cX6_place 34 = .ok (.iinc 4 1, 3) := by decide +kernel
theorem dX6_place_37 : decode cX6_place 37 = .ok (.goto (-32), 3) := by decide +kernel
theorem dX6_place_40 : decode cX6_place 40 = .ok (.iload_n 3, 1) := by decide +kernel
theorem dX6_place_41 : decode cX6_place 41 = .ok (.ireturn, 1) := by decide +kernel
theorem dX6_isBehind_0 : decode cX6_isBehind 0 = .ok (.iload_n 0, 1) := by decide +kernel
theorem dX6_isBehind_1 : decode cX6_isBehind 1 = .ok (.iconst 1, 1) := by decide +kernel
theorem dX6_isBehind_2 : decode cX6_isBehind 2 = .ok (.if_icmp .eq 14, 3) := by decide +kernel
theorem dX6_isBehind_5 : decode cX6_isBehind 5 = .ok (.iload_n 0, 1) := by decide +kernel
theorem dX6_isBehind_6 : decode cX6_isBehind 6 = .ok (.iconst 5, 1) := by decide +kernel
theorem dX6_isBehind_7 : decode cX6_isBehind 7 = .ok (.if_icmp .eq 9, 3) := by decide +kernel
theorem dX6_isBehind_10 : decode cX6_isBehind 10 = .ok (.iload_n 0, 1) := by decide +kernel
theorem dX6_isBehind_11 : decode cX6_isBehind 11 = .ok (.bipush 6, 2) := by decide +kernel
theorem dX6_isBehind_13 : decode cX6_isBehind 13 = .ok (.if_icmp .ne 7, 3) := by decide +kernel
theorem dX6_isBehind_16 : decode cX6_isBehind 16 = .ok (.iconst 1, 1) := by decide +kernel
theorem dX6_isBehind_17 : decode cX6_isBehind 17 = .ok (.goto 4, 3) := by decide +kernel
theorem dX6_isBehind_20 : decode cX6_isBehind 20 = .ok (.iconst 0, 1) := by decide +kernel
theorem dX6_isBehind_21 : decode cX6_isBehind 21 = .ok (.ireturn, 1) := by decide +kernel
theorem dX6_line_0 : decode cX6_line 0 = .ok (.iload_n 1, 1) := by decide +kernel
theorem dX6_line_1 : decode cX6_line 1 = .ok (.invokestatic 28, 3) := by decide +kernel
theorem dX6_line_4 : decode cX6_line 4 = .ok (.ifCond .eq 24, 3) := by decide +kernel
theorem dX6_line_7 : decode cX6_line 7 = .ok (.iload_n 2, 1) := by decide +kernel
theorem dX6_line_8 : decode cX6_line 8 = .ok (.iconst 1, 1) := by decide +kernel
theorem dX6_line_9 : decode cX6_line 9 = .ok (.bipush 6, 2) := by decide +kernel
theorem dX6_line_11 : decode cX6_line 11 = .ok (.invokestatic 20, 3) := by decide +kernel
theorem dX6_line_14 : decode cX6_line 14 = .ok (.ifCond .eq 14, 3) := by decide +kernel
theorem dX6_line_17 : decode cX6_line 17 = .ok (.iload_n 3, 1) := by decide +kernel
theorem dX6_line_18 : decode cX6_line 18 = .ok (.invokestatic 32, 3) := by decide +kernel
theorem dX6_line_21 : decode cX6_line 21 = .ok (.ifCond .eq 7, 3) := by decide +kernel
theorem dX6_line_24 : decode cX6_line 24 = .ok (.iconst 1, 1) := by decide +kernel
theorem dX6_line_25 : decode cX6_line 25 = .ok (.goto 4, 3) := by decide +kernel
theorem dX6_line_28 : decode cX6_line 28 = .ok (.iconst 0, 1) := by decide +kernel
theorem dX6_line_29 : decode cX6_line 29 = .ok (.istore 4, 2) := by decide +kernel
theorem dX6_line_31 : decode cX6_line 31 = .ok (.aload_n 0, 1) := by decide +kernel
theorem dX6_line_32 : decode cX6_line 32 = .ok (.iload 4, 2) := by decide +kernel
theorem dX6_line_34 : decode cX6_line 34 = .ok (.ifCond .ne 7, 3) := by decide +kernel
theorem dX6_line_37 : decode cX6_line 37 = .ok (.iconst 1, 1) := by decide +kernel
theorem dX6_line_38 : decode cX6_line 38 = .ok (.goto 25, 3) := by decide +kernel
theorem dX6_line_41 : decode cX6_line 41 = .ok (.aload_n 0, 1) := by decide +kernel
theorem dX6_line_42 : decode cX6_line 42 = .ok (.getfield 7, 3) := by decide +kernel
theorem dX6_line_45 : decode cX6_line 45 = .ok (.iconst 0, 1) := by decide +kernel
theorem dX6_line_46 : decode cX6_line 46 = .ok (.iaload, 1) := by decide +kernel
theorem dX6_line_47 : decode cX6_line 47 = .ok (.iconst 1, 1) := by decide +kernel
theorem dX6_line_48 : decode cX6_line 48 = .ok (.if_icmp .eq 10, 3) := by decide +kernel
theorem dX6_line_51 : decode cX6_line 51 = .ok (.aload_n 0, 1) := by decide +kernel
theorem dX6_line_52 : decode cX6_line 52 = .ok (.invokevirtual 35, 3) := by decide +kernel
theorem dX6_line_55 : decode cX6_line 55 = .ok (.ifCond .eq 7, 3) := by decide +kernel
theorem dX6_line_58 : decode cX6_line 58 = .ok (.iconst 2, 1) := by decide +kernel
theorem dX6_line_59 : decode cX6_line 59 = .ok (.goto 4, 3) := by decide +kernel
theorem dX6_line_62 : decode cX6_line 62 = .ok (.iconst 0, 1) := by decide +kernel
theorem dX6_line_63 : decode cX6_line 63 = .ok (.invokevirtual 39, 3) := by decide +kernel
theorem dX6_line_66 : decode cX6_line 66 = .ok (.ifCond .ne 5, 3) := by decide +kernel
theorem dX6_line_69 : decode cX6_line 69 = .ok (.iconst 0, 1) := by decide +kernel
theorem dX6_line_70 : decode cX6_line 70 = .ok (.ireturn, 1) := by decide +kernel
theorem dX6_line_71 : decode cX6_line 71 = .ok (.aload_n 0, 1) := by decide +kernel
theorem dX6_line_72 : decode cX6_line 72 = .ok (.getfield 7, 3) := by decide +kernel
theorem dX6_line_75 : decode cX6_line 75 = .ok (.bipush 41, 2) := by decide +kernel
theorem dX6_line_77 : decode cX6_line 77 = .ok (.iconst 0, 1) := by decide +kernel
theorem dX6_line_78 : decode cX6_line 78 = .ok (.iastore, 1) := by decide +kernel
theorem dX6_line_79 : decode cX6_line 79 = .ok (.aload_n 0, 1) := by decide +kernel
theorem dX6_line_80 : decode cX6_line 80 = .ok (.getfield 7, 3) := by decide +kernel
theorem dX6_line_83 : decode cX6_line 83 = .ok (.iload_n 1, 1) := by decide +kernel
theorem dX6_line_84 : decode cX6_line 84 = .ok (.iload_n 2, 1) := by decide +kernel
theorem dX6_line_85 : decode cX6_line 85 = .ok (.invokestatic 24, 3) := by decide +kernel
theorem dX6_line_88 : decode cX6_line 88 = .ok (.iaload, 1) := by decide +kernel
theorem dX6_line_89 : decode cX6_line 89 = .ok (.istore 5, 2) := by decide +kernel
theorem dX6_line_91 : decode cX6_line 91 = .ok (.aload_n 0, 1) := by decide +kernel
theorem dX6_line_92 : decode cX6_line 92 = .ok (.getfield 7, 3) := by decide +kernel
theorem dX6_line_95 : decode cX6_line 95 = .ok (.iload_n 1, 1) := by decide +kernel
theorem dX6_line_96 : decode cX6_line 96 = .ok (.iload_n 2, 1) := by decide +kernel
theorem dX6_line_97 : decode cX6_line 97 = .ok (.invokestatic 24, 3) := by decide +kernel
theorem dX6_line_100 : decode cX6_line 100 = .ok (.iload_n 3, 1) := by decide +kernel
theorem dX6_line_101 : decode cX6_line 101 = .ok (.iastore, 1) := by decide +kernel
theorem dX6_line_102 : decode cX6_line 102 = .ok (.iload 5, 2) := by decide +kernel
theorem dX6_line_104 : decode cX6_line 104 = .ok (.ireturn, 1) := by decide +kernel
theorem dX6_libero_0 : decode cX6_libero 0 = .ok (.iload_n 1, 1) := by decide +kernel
theorem dX6_libero_1 : decode cX6_libero 1 = .ok (.invokestatic 28, 3) := by decide +kernel
theorem dX6_libero_4 : decode cX6_libero 4 = .ok (.ifCond .eq 14, 3) := by decide +kernel
theorem dX6_libero_7 : decode cX6_libero 7 = .ok (.iload_n 2, 1) := by decide +kernel
theorem dX6_libero_8 : decode cX6_libero 8 = .ok (.invokestatic 32, 3) := by decide +kernel
theorem dX6_libero_11 : decode cX6_libero 11 = .ok (.ifCond .eq 7, 3) := by decide +kernel
theorem dX6_libero_14 : decode cX6_libero 14 = .ok (.iconst 1, 1) := by decide +kernel
theorem dX6_libero_15 : decode cX6_libero 15 = .ok (.goto 4, 3) := by decide +kernel
theorem dX6_libero_18 : decode cX6_libero 18 = .ok (.iconst 0, 1) := by decide +kernel
theorem dX6_libero_19 : decode cX6_libero 19 = .ok (.istore_n 3, 1) := by decide +kernel
theorem dX6_libero_20 : decode cX6_libero 20 = .ok (.aload_n 0, 1) := by decide +kernel
theorem dX6_libero_21 : decode cX6_libero 21 = .ok (.iload_n 3, 1) := by decide +kernel
theorem dX6_libero_22 : decode cX6_libero 22 = .ok (.ifCond .ne 7, 3) := by decide +kernel
theorem dX6_libero_25 : decode cX6_libero 25 = .ok (.iconst 1, 1) := by decide +kernel
theorem dX6_libero_26 : decode cX6_libero 26 = .ok (.goto 25, 3) := by decide +kernel
theorem dX6_libero_29 : decode cX6_libero 29 = .ok (.aload_n 0, 1) := by decide +kernel
theorem dX6_libero_30 : decode cX6_libero 30 = .ok (.getfield 7, 3) := by decide +kernel
theorem dX6_libero_33 : decode cX6_libero 33 = .ok (.iconst 0, 1) := by decide +kernel
theorem dX6_libero_34 : decode cX6_libero 34 = .ok (.iaload, 1) := by decide +kernel
theorem dX6_libero_35 : decode cX6_libero 35 = .ok (.iconst 1, 1) := by decide +kernel
theorem dX6_libero_36 : decode cX6_libero 36 = .ok (.if_icmp .eq 10, 3) := by decide +kernel
theorem dX6_libero_39 : decode cX6_libero 39 = .ok (.aload_n 0, 1) := by decide +kernel
theorem dX6_libero_40 : decode cX6_libero 40 = .ok (.invokevirtual 35, 3) := by decide +kernel
theorem dX6_libero_43 : decode cX6_libero 43 = .ok (.ifCond .eq 7, 3) := by decide +kernel
theorem dX6_libero_46 : decode cX6_libero 46 = .ok (.iconst 2, 1) := by decide +kernel
theorem dX6_libero_47 : decode cX6_libero 47 = .ok (.goto 4, 3) := by decide +kernel
theorem dX6_libero_50 : decode cX6_libero 50 = .ok (.iconst 0, 1) := by decide +kernel
theorem dX6_libero_51 : decode cX6_libero 51 = .ok (.invokevirtual 39, 3) := by decide +kernel
theorem dX6_libero_54 : decode cX6_libero 54 = .ok (.ifCond .ne 5, 3) := by decide +kernel
theorem dX6_libero_57 : decode cX6_libero 57 = .ok (.iconst 0, 1) := by decide +kernel
theorem dX6_libero_58 : decode cX6_libero 58 = .ok (.ireturn, 1) := by decide +kernel
theorem dX6_libero_59 : decode cX6_libero 59 = .ok (.aload_n 0, 1) := by decide +kernel
theorem dX6_libero_60 : decode cX6_libero 60 = .ok (.getfield 7, 3) := by decide +kernel
theorem dX6_libero_63 : decode cX6_libero 63 = .ok (.bipush 41, 2) := by decide +kernel
theorem dX6_libero_65 : decode cX6_libero 65 = .ok (.iconst 0, 1) := by decide +kernel
theorem dX6_libero_66 : decode cX6_libero 66 = .ok (.iastore, 1) := by decide +kernel
theorem dX6_libero_67 : decode cX6_libero 67 = .ok (.aload_n 0, 1) := by decide +kernel
theorem dX6_libero_68 : decode cX6_libero 68 = .ok (.getfield 7, 3) := by decide +kernel
theorem dX6_libero_71 : decode cX6_libero 71 = .ok (.bipush 26, 2) := by decide +kernel
theorem dX6_libero_73 : decode cX6_libero 73 = .ok (.iload_n 1, 1) := by decide +kernel
theorem dX6_libero_74 : decode cX6_libero 74 = .ok (.iadd, 1) := by decide +kernel
theorem dX6_libero_75 : decode cX6_libero 75 = .ok (.iaload, 1) := by decide +kernel
theorem dX6_libero_76 : decode cX6_libero 76 = .ok (.istore 4, 2) := by decide +kernel
theorem dX6_libero_78 : decode cX6_libero 78 = .ok (.aload_n 0, 1) := by decide +kernel
theorem dX6_libero_79 : decode cX6_libero 79 = .ok (.getfield 7, 3) := by decide +kernel
theorem dX6_libero_82 : decode cX6_libero 82 = .ok (.bipush 26, 2) := by decide +kernel
theorem dX6_libero_84 : decode cX6_libero 84 = .ok (.iload_n 1, 1) := by decide +kernel
theorem dX6_libero_85 : decode cX6_libero 85 = .ok (.iadd, 1) := by decide +kernel
theorem dX6_libero_86 : decode cX6_libero 86 = .ok (.iload_n 2, 1) := by decide +kernel
theorem dX6_libero_87 : decode cX6_libero 87 = .ok (.iastore, 1) := by decide +kernel
theorem dX6_libero_88 : decode cX6_libero 88 = .ok (.iload 4, 2) := by decide +kernel
theorem dX6_libero_90 : decode cX6_libero 90 = .ok (.ireturn, 1) := by decide +kernel
theorem dX6_isLinedUp_0 : decode cX6_isLinedUp 0 = .ok (.iconst 1, 1) := by decide +kernel
theorem dX6_isLinedUp_1 : decode cX6_isLinedUp 1 = .ok (.istore_n 2, 1) := by decide +kernel
theorem dX6_isLinedUp_2 : decode cX6_isLinedUp 2 = .ok (.iconst 1, 1) := by decide +kernel
theorem dX6_isLinedUp_3 : decode cX6_isLinedUp 3 = .ok (.istore_n 3, 1) := by decide +kernel
theorem dX6_isLinedUp_4 : decode cX6_isLinedUp 4 = .ok (.iload_n 3, 1) := by decide +kernel
theorem dX6_isLinedUp_5 : decode cX6_isLinedUp 5 = .ok (.bipush 6, 2) := by decide +kernel
theorem dX6_isLinedUp_7 : decode cX6_isLinedUp 7 = .ok (.if_icmp .gt 62, 3) := by decide +kernel
theorem dX6_isLinedUp_10 : decode cX6_isLinedUp 10 = .ok (.aload_n 0, 1) := by decide +kernel
theorem dX6_isLinedUp_11 : decode cX6_isLinedUp 11 = .ok (.getfield 7, 3) := by decide +kernel
theorem dX6_isLinedUp_14 : decode cX6_isLinedUp 14 = .ok (.iload_n 1, 1) := by decide +kernel
theorem dX6_isLinedUp_15 : decode cX6_isLinedUp 15 = .ok (.iload_n 3, 1) := by decide +kernel
theorem dX6_isLinedUp_16 : decode cX6_isLinedUp 16 = .ok (.invokestatic 24, 3) := by decide +kernel
theorem dX6_isLinedUp_19 : decode cX6_isLinedUp 19 = .ok (.iaload, 1) := by decide +kernel
theorem dX6_isLinedUp_20 : decode cX6_isLinedUp 20 = .ok (.istore 4, 2) := by decide +kernel
theorem dX6_isLinedUp_22 : decode cX6_isLinedUp 22 = .ok (.iload_n 2, 1) := by decide +kernel
theorem dX6_isLinedUp_23 : decode cX6_isLinedUp 23 = .ok (.ifCond .eq 38, 3) := by decide +kernel
theorem dX6_isLinedUp_26 : decode cX6_isLinedUp 26 = .ok (.iload 4, 2) := by decide +kernel
theorem dX6_isLinedUp_28 : decode cX6_isLinedUp 28 = .ok (.iconst (-1), 1) := by decide +kernel
theorem dX6_isLinedUp_29 : decode cX6_isLinedUp 29 = .ok (.if_icmp .eq 32, 3) := by decide +kernel
theorem dX6_isLinedUp_32 : decode cX6_isLinedUp 32 = .ok (.aload_n 0, 1) := by decide +kernel
theorem dX6_isLinedUp_33 : decode cX6_isLinedUp 33 = .ok (.iload_n 1, 1) := by decide +kernel
theorem dX6_isLinedUp_34 : decode cX6_isLinedUp 34 = .ok (.iload 4, 2) := by decide +kernel
theorem dX6_isLinedUp_36 : decode cX6_isLinedUp 36 = .ok (.invokevirtual 42, 3) := by decide +kernel
theorem dX6_isLinedUp_39 : decode cX6_isLinedUp 39 = .ok (.iload_n 3, 1) := by decide +kernel
theorem dX6_isLinedUp_40 : decode cX6_isLinedUp 40 = .ok (.if_icmp .ne 21, 3) := by decide +kernel
theorem dX6_isLinedUp_43 : decode cX6_isLinedUp 43 = .ok (.iload 4, 2) := by decide +kernel
theorem dX6_isLinedUp_45 : decode cX6_isLinedUp 45 = .ok (.aload_n 0, 1) := by decide +kernel
theorem dX6_isLinedUp_46 : decode cX6_isLinedUp 46 = .ok (.getfield 7, 3) := by decide +kernel
theorem dX6_isLinedUp_49 : decode cX6_isLinedUp 49 = .ok (.bipush 26, 2) := by decide +kernel
theorem dX6_isLinedUp_51 : decode cX6_isLinedUp 51 = .ok (.iload_n 1, 1) := by decide +kernel
theorem dX6_isLinedUp_52 : decode cX6_isLinedUp 52 = .ok (.iadd, 1) := by decide +kernel
theorem dX6_isLinedUp_53 : decode cX6_isLinedUp 53 = .ok (.iaload, 1) := by decide +kernel
theorem dX6_isLinedUp_54 : decode cX6_isLinedUp 54 = .ok (.if_icmp .eq 7, 3) := by decide +kernel
theorem dX6_isLinedUp_57 : decode cX6_isLinedUp 57 = .ok (.iconst 1, 1) := by decide +kernel
theorem dX6_isLinedUp_58 : decode cX6_isLinedUp 58 = .ok (.goto 4, 3) := by decide +kernel
theorem dX6_isLinedUp_61 : decode cX6_isLinedUp 61 = .ok (.iconst 0, 1) := by decide +kernel
theorem dX6_isLinedUp_62 : decode cX6_isLinedUp 62 = .ok (.istore_n 2, 1) := by decide +kernel
theorem dX6_isLinedUp_63 : decode cX6_isLinedUp 63 = .ok (.iinc 3 1, 3) := by decide +kernel
theorem dX6_isLinedUp_66 : decode cX6_isLinedUp 66 = .ok (.goto (-62), 3) := by decide +kernel
theorem dX6_isLinedUp_69 : decode cX6_isLinedUp 69 = .ok (.iload_n 2, 1) := by decide +kernel
theorem dX6_isLinedUp_70 : decode cX6_isLinedUp 70 = .ok (.ireturn, 1) := by decide +kernel
theorem dX6_begin_0 : decode cX6_begin 0 = .ok (.aload_n 0, 1) := by decide +kernel
theorem dX6_begin_1 : decode cX6_begin 1 = .ok (.getfield 7, 3) := by decide +kernel
theorem dX6_begin_4 : decode cX6_begin 4 = .ok (.iconst 0, 1) := by decide +kernel
theorem dX6_begin_5 : decode cX6_begin 5 = .ok (.iaload, 1) := by decide +kernel
theorem dX6_begin_6 : decode cX6_begin 6 = .ok (.ifCond .ne 30, 3) := by decide +kernel
theorem dX6_begin_9 : decode cX6_begin 9 = .ok (.aload_n 0, 1) := by decide +kernel
theorem dX6_begin_10 : decode cX6_begin 10 = .ok (.invokevirtual 35, 3) := by decide +kernel
theorem dX6_begin_13 : decode cX6_begin 13 = .ok (.ifCond .ne 23, 3) := by decide +kernel
theorem dX6_begin_16 : decode cX6_begin 16 = .ok (.aload_n 0, 1) := by decide +kernel
theorem dX6_begin_17 : decode cX6_begin 17 = .ok (.iconst 0, 1) := by decide +kernel
theorem dX6_begin_18 : decode cX6_begin 18 = .ok (.invokevirtual 45, 3) := by decide +kernel
theorem dX6_begin_21 : decode cX6_begin 21 = .ok (.ifCond .eq 15, 3) := by decide +kernel
theorem dX6_begin_24 : decode cX6_begin 24 = .ok (.aload_n 0, 1) := by decide +kernel
theorem dX6_begin_25 : decode cX6_begin 25 = .ok (.iconst 1, 1) := by decide +kernel
theorem dX6_begin_26 : decode cX6_begin 26 = .ok (.invokevirtual 45, 3) := by decide +kernel
theorem dX6_begin_29 : decode cX6_begin 29 = .ok (.ifCond .eq 7, 3) := by decide +kernel
theorem dX6_begin_32 : decode cX6_begin 32 = .ok (.iconst 1, 1) := by decide +kernel
theorem dX6_begin_33 : decode cX6_begin 33 = .ok (.goto 4, 3) := by decide +kernel
theorem dX6_begin_36 : decode cX6_begin 36 = .ok (.iconst 0, 1) := by decide +kernel
theorem dX6_begin_37 : decode cX6_begin 37 = .ok (.istore_n 2, 1) := by decide +kernel
theorem dX6_begin_38 : decode cX6_begin 38 = .ok (.aload_n 0, 1) := by decide +kernel
theorem dX6_begin_39 : decode cX6_begin 39 = .ok (.iload_n 1, 1) := by decide +kernel
theorem dX6_begin_40 : decode cX6_begin 40 = .ok (.invokestatic 28, 3) := by decide +kernel
theorem dX6_begin_43 : decode cX6_begin 43 = .ok (.ifCond .ne 7, 3) := by decide +kernel
theorem dX6_begin_46 : decode cX6_begin 46 = .ok (.iconst 1, 1) := by decide +kernel
theorem dX6_begin_47 : decode cX6_begin 47 = .ok (.goto 12, 3) := by decide +kernel
theorem dX6_begin_50 : decode cX6_begin 50 = .ok (.iload_n 2, 1) := by decide +kernel
theorem dX6_begin_51 : decode cX6_begin 51 = .ok (.ifCond .eq 7, 3) := by decide +kernel
theorem dX6_begin_54 : decode cX6_begin 54 = .ok (.iconst 0, 1) := by decide +kernel
theorem dX6_begin_55 : decode cX6_begin 55 = .ok (.goto 4, 3) := by decide +kernel
theorem dX6_begin_58 : decode cX6_begin 58 = .ok (.iconst 2, 1) := by decide +kernel
theorem dX6_begin_59 : decode cX6_begin 59 = .ok (.invokevirtual 39, 3) := by decide +kernel
theorem dX6_begin_62 : decode cX6_begin 62 = .ok (.ifCond .ne 5, 3) := by decide +kernel
theorem dX6_begin_65 : decode cX6_begin 65 = .ok (.iconst 0, 1) := by decide +kernel
theorem dX6_begin_66 : decode cX6_begin 66 = .ok (.ireturn, 1) := by decide +kernel
theorem dX6_begin_67 : decode cX6_begin 67 = .ok (.aload_n 0, 1) := by decide +kernel
theorem dX6_begin_68 : decode cX6_begin 68 = .ok (.getfield 7, 3) := by decide +kernel
theorem dX6_begin_71 : decode cX6_begin 71 = .ok (.bipush 41, 2) := by decide +kernel
theorem dX6_begin_73 : decode cX6_begin 73 = .ok (.iconst 0, 1) := by decide +kernel
theorem dX6_begin_74 : decode cX6_begin 74 = .ok (.iastore, 1) := by decide +kernel
theorem dX6_begin_75 : decode cX6_begin 75 = .ok (.aload_n 0, 1) := by decide +kernel
theorem dX6_begin_76 : decode cX6_begin 76 = .ok (.getfield 7, 3) := by decide +kernel
theorem dX6_begin_79 : decode cX6_begin 79 = .ok (.iconst 0, 1) := by decide +kernel
theorem dX6_begin_80 : decode cX6_begin 80 = .ok (.iconst 1, 1) := by decide +kernel
theorem dX6_begin_81 : decode cX6_begin 81 = .ok (.iastore, 1) := by decide +kernel
theorem dX6_begin_82 : decode cX6_begin 82 = .ok (.aload_n 0, 1) := by decide +kernel
theorem dX6_begin_83 : decode cX6_begin 83 = .ok (.getfield 7, 3) := by decide +kernel
theorem dX6_begin_86 : decode cX6_begin 86 = .ok (.iconst 1, 1) := by decide +kernel
theorem dX6_begin_87 : decode cX6_begin 87 = .ok (.iconst 0, 1) := by decide +kernel
theorem dX6_begin_88 : decode cX6_begin 88 = .ok (.iastore, 1) := by decide +kernel
theorem dX6_begin_89 : decode cX6_begin 89 = .ok (.aload_n 0, 1) := by decide +kernel
theorem dX6_begin_90 : decode cX6_begin 90 = .ok (.getfield 7, 3) := by decide +kernel
theorem dX6_begin_93 : decode cX6_begin 93 = .ok (.iconst 2, 1) := by decide +kernel
theorem dX6_begin_94 : decode cX6_begin 94 = .ok (.iload_n 1, 1) := by decide +kernel
theorem dX6_begin_95 : decode cX6_begin 95 = .ok (.iastore, 1) := by decide +kernel
theorem dX6_begin_96 : decode cX6_begin 96 = .ok (.aload_n 0, 1) := by decide +kernel
theorem dX6_begin_97 : decode cX6_begin 97 = .ok (.getfield 7, 3) := by decide +kernel
theorem dX6_begin_100 : decode cX6_begin 100 = .ok (.iconst 3, 1) := by decide +kernel
theorem dX6_begin_101 : decode cX6_begin 101 = .ok (.iconst 0, 1) := by decide +kernel
theorem dX6_begin_102 : decode cX6_begin 102 = .ok (.iastore, 1) := by decide +kernel
theorem dX6_begin_103 : decode cX6_begin 103 = .ok (.aload_n 0, 1) := by decide +kernel
theorem dX6_begin_104 : decode cX6_begin 104 = .ok (.getfield 7, 3) := by decide +kernel
theorem dX6_begin_107 : decode cX6_begin 107 = .ok (.bipush 9, 2) := by decide +kernel
theorem dX6_begin_109 : decode cX6_begin 109 = .ok (.iconst (-1), 1) := by decide +kernel
theorem dX6_begin_110 : decode cX6_begin 110 = .ok (.iastore, 1) := by decide +kernel
theorem dX6_begin_111 : decode cX6_begin 111 = .ok (.iconst 0, 1) := by decide +kernel
theorem dX6_begin_112 : decode cX6_begin 112 = .ok (.istore_n 3, 1) := by decide +kernel
theorem dX6_begin_113 : decode cX6_begin 113 = .ok (.iload_n 3, 1) := by decide +kernel
theorem dX6_begin_114 : decode cX6_begin 114 = .ok (.iconst 2, 1) := by decide +kernel
theorem dX6_begin_115 : decode cX6_begin 115 = .ok (.if_icmp .ge 79, 3) := by decide +kernel
theorem dX6_begin_118 : decode cX6_begin 118 = .ok (.aload_n 0, 1) := by decide +kernel
theorem dX6_begin_119 : decode cX6_begin 119 = .ok (.getfield 7, 3) := by decide +kernel
theorem dX6_begin_122 : decode cX6_begin 122 = .ok (.bipush 10, 2) := by decide +kernel
theorem dX6_begin_124 : decode cX6_begin 124 = .ok (.iload_n 3, 1) := by decide +kernel
theorem dX6_begin_125 : decode cX6_begin 125 = .ok (.iadd, 1) := by decide +kernel
theorem dX6_begin_126 : decode cX6_begin 126 = .ok (.iconst 0, 1) := by decide +kernel
theorem dX6_begin_127 : decode cX6_begin 127 = .ok (.iastore, 1) := by decide +kernel
theorem dX6_begin_128 : decode cX6_begin 128 = .ok (.aload_n 0, 1) := by decide +kernel
theorem dX6_begin_129 : decode cX6_begin 129 = .ok (.getfield 7, 3) := by decide +kernel
theorem dX6_begin_132 : decode cX6_begin 132 = .ok (.bipush 28, 2) := by decide +kernel
theorem dX6_begin_134 : decode cX6_begin 134 = .ok (.iload_n 3, 1) := by decide +kernel
theorem dX6_begin_135 : decode cX6_begin 135 = .ok (.iadd, 1) := by decide +kernel
theorem dX6_begin_136 : decode cX6_begin 136 = .ok (.iconst (-1), 1) := by decide +kernel
theorem dX6_begin_137 : decode cX6_begin 137 = .ok (.iastore, 1) := by decide +kernel
theorem dX6_begin_138 : decode cX6_begin 138 = .ok (.aload_n 0, 1) := by decide +kernel
theorem dX6_begin_139 : decode cX6_begin 139 = .ok (.getfield 7, 3) := by decide +kernel
theorem dX6_begin_142 : decode cX6_begin 142 = .ok (.bipush 30, 2) := by decide +kernel
theorem dX6_begin_144 : decode cX6_begin 144 = .ok (.iload_n 3, 1) := by decide +kernel
theorem dX6_begin_145 : decode cX6_begin 145 = .ok (.iadd, 1) := by decide +kernel
theorem dX6_begin_146 : decode cX6_begin 146 = .ok (.iconst 0, 1) := by decide +kernel
theorem dX6_begin_147 : decode cX6_begin 147 = .ok (.iastore, 1) := by decide +kernel
theorem dX6_begin_148 : decode cX6_begin 148 = .ok (.aload_n 0, 1) := by decide +kernel
theorem dX6_begin_149 : decode cX6_begin 149 = .ok (.getfield 7, 3) := by decide +kernel
theorem dX6_begin_152 : decode cX6_begin 152 = .ok (.bipush 32, 2) := by decide +kernel
theorem dX6_begin_154 : decode cX6_begin 154 = .ok (.iload_n 3, 1) := by decide +kernel
theorem dX6_begin_155 : decode cX6_begin 155 = .ok (.iadd, 1) := by decide +kernel
theorem dX6_begin_156 : decode cX6_begin 156 = .ok (.iconst 0, 1) := by decide +kernel
theorem dX6_begin_157 : decode cX6_begin 157 = .ok (.iastore, 1) := by decide +kernel
theorem dX6_begin_158 : decode cX6_begin 158 = .ok (.aload_n 0, 1) := by decide +kernel
theorem dX6_begin_159 : decode cX6_begin 159 = .ok (.getfield 7, 3) := by decide +kernel
theorem dX6_begin_162 : decode cX6_begin 162 = .ok (.bipush 34, 2) := by decide +kernel
theorem dX6_begin_164 : decode cX6_begin 164 = .ok (.iload_n 3, 1) := by decide +kernel
theorem dX6_begin_165 : decode cX6_begin 165 = .ok (.iadd, 1) := by decide +kernel
theorem dX6_begin_166 : decode cX6_begin 166 = .ok (.iconst 2, 1) := by decide +kernel
theorem dX6_begin_167 : decode cX6_begin 167 = .ok (.iastore, 1) := by decide +kernel
theorem dX6_begin_168 : decode cX6_begin 168 = .ok (.aload_n 0, 1) := by decide +kernel
theorem dX6_begin_169 : decode cX6_begin 169 = .ok (.getfield 7, 3) := by decide +kernel
theorem dX6_begin_172 : decode cX6_begin 172 = .ok (.bipush 36, 2) := by decide +kernel
theorem dX6_begin_174 : decode cX6_begin 174 = .ok (.iload_n 3, 1) := by decide +kernel
theorem dX6_begin_175 : decode cX6_begin 175 = .ok (.iadd, 1) := by decide +kernel
theorem dX6_begin_176 : decode cX6_begin 176 = .ok (.iconst 0, 1) := by decide +kernel
theorem dX6_begin_177 : decode cX6_begin 177 = .ok (.iastore, 1) := by decide +kernel
theorem dX6_begin_178 : decode cX6_begin 178 = .ok (.aload_n 0, 1) := by decide +kernel
theorem dX6_begin_179 : decode cX6_begin 179 = .ok (.getfield 7, 3) := by decide +kernel
theorem dX6_begin_182 : decode cX6_begin 182 = .ok (.bipush 78, 2) := by decide +kernel
theorem dX6_begin_184 : decode cX6_begin 184 = .ok (.iload_n 3, 1) := by decide +kernel
theorem dX6_begin_185 : decode cX6_begin 185 = .ok (.iadd, 1) := by decide +kernel
theorem dX6_begin_186 : decode cX6_begin 186 = .ok (.iconst 0, 1) := by decide +kernel
theorem dX6_begin_187 : decode cX6_begin 187 = .ok (.iastore, 1) := by decide +kernel
theorem dX6_begin_188 : decode cX6_begin 188 = .ok (.iinc 3 1, 3) := by decide +kernel
theorem dX6_begin_191 : decode cX6_begin 191 = .ok (.goto (-78), 3) := by decide +kernel
theorem dX6_begin_194 : decode cX6_begin 194 = .ok (.iconst 0, 1) := by decide +kernel
theorem dX6_begin_195 : decode cX6_begin 195 = .ok (.istore_n 3, 1) := by decide +kernel
theorem dX6_begin_196 : decode cX6_begin 196 = .ok (.iload_n 3, 1) := by decide +kernel
theorem dX6_begin_197 : decode cX6_begin 197 = .ok (.bipush 12, 2) := by decide +kernel
theorem dX6_begin_199 : decode cX6_begin 199 = .ok (.if_icmp .ge 19, 3) := by decide +kernel
theorem dX6_begin_202 : decode cX6_begin 202 = .ok (.aload_n 0, 1) := by decide +kernel
theorem dX6_begin_203 : decode cX6_begin 203 = .ok (.getfield 7, 3) := by decide +kernel
theorem dX6_begin_206 : decode cX6_begin 206 = .ok (.bipush 80, 2) := by decide +kernel
theorem dX6_begin_208 : decode cX6_begin 208 = .ok (.iload_n 3, 1) := by decide +kernel
theorem dX6_begin_209 : decode cX6_begin 209 = .ok (.iadd, 1) := by decide +kernel
theorem dX6_begin_210 : decode cX6_begin 210 = .ok (.iconst 0, 1) := by decide +kernel
theorem dX6_begin_211 : decode cX6_begin 211 = .ok (.iastore, 1) := by decide +kernel
theorem dX6_begin_212 : decode cX6_begin 212 = .ok (.iinc 3 1, 3) := by decide +kernel
theorem dX6_begin_215 : decode cX6_begin 215 = .ok (.goto (-19), 3) := by decide +kernel
theorem dX6_begin_218 : decode cX6_begin 218 = .ok (.aload_n 0, 1) := by decide +kernel
theorem dX6_begin_219 : decode cX6_begin 219 = .ok (.getfield 7, 3) := by decide +kernel
theorem dX6_begin_222 : decode cX6_begin 222 = .ok (.bipush 12, 2) := by decide +kernel
theorem dX6_begin_224 : decode cX6_begin 224 = .ok (.iaload, 1) := by decide +kernel
theorem dX6_begin_225 : decode cX6_begin 225 = .ok (.aload_n 0, 1) := by decide +kernel
theorem dX6_begin_226 : decode cX6_begin 226 = .ok (.getfield 7, 3) := by decide +kernel
theorem dX6_begin_229 : decode cX6_begin 229 = .ok (.bipush 13, 2) := by decide +kernel
theorem dX6_begin_231 : decode cX6_begin 231 = .ok (.iaload, 1) := by decide +kernel
theorem dX6_begin_232 : decode cX6_begin 232 = .ok (.iadd, 1) := by decide +kernel
theorem dX6_begin_233 : decode cX6_begin 233 = .ok (.iconst 1, 1) := by decide +kernel
theorem dX6_begin_234 : decode cX6_begin 234 = .ok (.iadd, 1) := by decide +kernel
theorem dX6_begin_235 : decode cX6_begin 235 = .ok (.ireturn, 1) := by decide +kernel
theorem dX6_rotates_0 : decode cX6_rotates 0 = .ok (.aload_n 0, 1) := by decide +kernel
theorem dX6_rotates_1 : decode cX6_rotates 1 = .ok (.getfield 7, 3) := by decide +kernel
theorem dX6_rotates_4 : decode cX6_rotates 4 = .ok (.iload_n 1, 1) := by decide +kernel
theorem dX6_rotates_5 : decode cX6_rotates 5 = .ok (.iconst 1, 1) := by decide +kernel
theorem dX6_rotates_6 : decode cX6_rotates 6 = .ok (.invokestatic 24, 3) := by decide +kernel
theorem dX6_rotates_9 : decode cX6_rotates 9 = .ok (.iaload, 1) := by decide +kernel
theorem dX6_rotates_10 : decode cX6_rotates 10 = .ok (.istore_n 2, 1) := by decide +kernel
theorem dX6_rotates_11 : decode cX6_rotates 11 = .ok (.iconst 1, 1) := by decide +kernel
theorem dX6_rotates_12 : decode cX6_rotates 12 = .ok (.istore_n 3, 1) := by decide +kernel
theorem dX6_rotates_13 : decode cX6_rotates 13 = .ok (.iload_n 3, 1) := by decide +kernel
theorem dX6_rotates_14 : decode cX6_rotates 14 = .ok (.bipush 6, 2) := by decide +kernel
theorem dX6_rotates_16 : decode cX6_rotates 16 = .ok (.if_icmp .ge 31, 3) := by decide +kernel
theorem dX6_rotates_19 : decode cX6_rotates 19 = .ok (.aload_n 0, 1) := by decide +kernel
theorem dX6_rotates_20 : decode cX6_rotates 20 = .ok (.getfield 7, 3) := by decide +kernel
theorem dX6_rotates_23 : decode cX6_rotates 23 = .ok (.iload_n 1, 1) := by decide +kernel
theorem dX6_rotates_24 : decode cX6_rotates 24 = .ok (.iload_n 3, 1) := by decide +kernel
theorem dX6_rotates_25 : decode cX6_rotates 25 = .ok (.invokestatic 24, 3) := by decide +kernel
theorem dX6_rotates_28 : decode cX6_rotates 28 = .ok (.aload_n 0, 1) := by decide +kernel
theorem dX6_rotates_29 : decode cX6_rotates 29 = .ok (.getfield 7, 3) := by decide +kernel
theorem dX6_rotates_32 : decode cX6_rotates 32 = .ok (.iload_n 1, 1) := by decide +kernel
theorem dX6_rotates_33 : decode cX6_rotates 33 = .ok (.iload_n 3, 1) := by decide +kernel
theorem dX6_rotates_34 : decode cX6_rotates 34 = .ok (.iconst 1, 1) := by decide +kernel
theorem dX6_rotates_35 : decode cX6_rotates 35 = .ok (.iadd, 1) := by decide +kernel
theorem dX6_rotates_36 : decode cX6_rotates 36 = .ok (.invokestatic 24, 3) := by decide +kernel
theorem dX6_rotates_39 : decode cX6_rotates 39 = .ok (.iaload, 1) := by decide +kernel
theorem dX6_rotates_40 : decode cX6_rotates 40 = .ok (.iastore, 1) := by decide +kernel
theorem dX6_rotates_41 : decode cX6_rotates 41 = .ok (.iinc 3 1, 3) := by decide +kernel
theorem dX6_rotates_44 : decode cX6_rotates 44 = .ok (.goto (-31), 3) := by decide +kernel
theorem dX6_rotates_47 : decode cX6_rotates 47 = .ok (.aload_n 0, 1) := by decide +kernel
theorem dX6_rotates_48 : decode cX6_rotates 48 = .ok (.getfield 7, 3) := by decide +kernel
theorem dX6_rotates_51 : decode cX6_rotates 51 = .ok (.iload_n 1, 1) := by decide +kernel
theorem dX6_rotates_52 : decode cX6_rotates 52 = .ok (.bipush 6, 2) := by decide +kernel
theorem dX6_rotates_54 : decode cX6_rotates 54 = .ok (.invokestatic 24, 3) := by decide +kernel
theorem dX6_rotates_57 : decode cX6_rotates 57 = .ok (.iload_n 2, 1) := by decide +kernel
theorem dX6_rotates_58 : decode cX6_rotates 58 = .ok (.iastore, 1) := by decide +kernel
theorem dX6_rotates_59 : decode cX6_rotates 59 = .ok (.aload_n 0, 1) := by decide +kernel
theorem dX6_rotates_60 : decode cX6_rotates 60 = .ok (.getfield 7, 3) := by decide +kernel
theorem dX6_rotates_63 : decode cX6_rotates 63 = .ok (.bipush 36, 2) := by decide +kernel
theorem dX6_rotates_65 : decode cX6_rotates 65 = .ok (.iload_n 1, 1) := by decide +kernel
theorem dX6_rotates_66 : decode cX6_rotates 66 = .ok (.iadd, 1) := by decide +kernel
theorem dX6_rotates_67 : decode cX6_rotates 67 = .ok (.dup2, 1) := by decide +kernel
theorem dX6_rotates_68 : decode cX6_rotates 68 = .ok (.iaload, 1) := by decide +kernel
theorem dX6_rotates_69 : decode cX6_rotates 69 = .ok (.iconst 1, 1) := by decide +kernel
theorem dX6_rotates_70 : decode cX6_rotates 70 = .ok (.iadd, 1) := by decide +kernel
theorem dX6_rotates_71 : decode cX6_rotates 71 = .ok (.iastore, 1) := by decide +kernel
theorem dX6_rotates_72 : decode cX6_rotates 72 = .ok (.aload_n 0, 1) := by decide +kernel
theorem dX6_rotates_73 : decode cX6_rotates 73 = .ok (.getfield 7, 3) := by decide +kernel
theorem dX6_rotates_76 : decode cX6_rotates 76 = .ok (.bipush 28, 2) := by decide +kernel
theorem dX6_rotates_78 : decode cX6_rotates 78 = .ok (.iload_n 1, 1) := by decide +kernel
theorem dX6_rotates_79 : decode cX6_rotates 79 = .ok (.iadd, 1) := by decide +kernel
theorem dX6_rotates_80 : decode cX6_rotates 80 = .ok (.iaload, 1) := by decide +kernel
theorem dX6_rotates_81 : decode cX6_rotates 81 = .ok (.iconst (-1), 1) := by decide +kernel
theorem dX6_rotates_82 : decode cX6_rotates 82 = .ok (.if_icmp .eq 54, 3) := by decide +kernel
theorem dX6_rotates_85 : decode cX6_rotates 85 = .ok (.aload_n 0, 1) := by decide +kernel
theorem dX6_rotates_86 : decode cX6_rotates 86 = .ok (.getfield 7, 3) := by decide +kernel
theorem dX6_rotates_89 : decode cX6_rotates 89 = .ok (.iload_n 1, 1) := by decide +kernel
theorem dX6_rotates_90 : decode cX6_rotates 90 = .ok (.iconst 4, 1) := by decide +kernel
theorem dX6_rotates_91 : decode cX6_rotates 91 = .ok (.invokestatic 24, 3) := by decide +kernel
theorem dX6_rotates_94 : decode cX6_rotates 94 = .ok (.iaload, 1) := by decide +kernel
theorem dX6_rotates_95 : decode cX6_rotates 95 = .ok (.aload_n 0, 1) := by decide +kernel
theorem dX6_rotates_96 : decode cX6_rotates 96 = .ok (.getfield 7, 3) := by decide +kernel
theorem dX6_rotates_99 : decode cX6_rotates 99 = .ok (.bipush 26, 2) := by decide +kernel
theorem dX6_rotates_101 : decode cX6_rotates 101 = .ok (.iload_n 1, 1) := by decide +kernel
theorem dX6_rotates_102 : decode cX6_rotates 102 = .ok (.iadd, 1) := by decide +kernel
theorem dX6_rotates_103 : decode cX6_rotates 103 = .ok (.iaload, 1) := by decide +kernel
theorem dX6_rotates_104 : decode cX6_rotates 104 = .ok (.if_icmp .ne 32, 3) := by decide +kernel
theorem dX6_rotates_107 : decode cX6_rotates 107 = .ok (.aload_n 0, 1) := by decide +kernel
theorem dX6_rotates_108 : decode cX6_rotates 108 = .ok (.getfield 7, 3) := by decide +kernel
theorem dX6_rotates_111 : decode cX6_rotates 111 = .ok (.iload_n 1, 1) := by decide +kernel
theorem dX6_rotates_112 : decode cX6_rotates 112 = .ok (.iconst 4, 1) := by decide +kernel
theorem dX6_rotates_113 : decode cX6_rotates 113 = .ok (.invokestatic 24, 3) := by decide +kernel
theorem dX6_rotates_116 : decode cX6_rotates 116 = .ok (.aload_n 0, 1) := by decide +kernel
theorem dX6_rotates_117 : decode cX6_rotates 117 = .ok (.getfield 7, 3) := by decide +kernel
theorem dX6_rotates_120 : decode cX6_rotates 120 = .ok (.bipush 28, 2) := by decide +kernel
theorem dX6_rotates_122 : decode cX6_rotates 122 = .ok (.iload_n 1, 1) := by decide +kernel
theorem dX6_rotates_123 : decode cX6_rotates 123 = .ok (.iadd, 1) := by decide +kernel
theorem dX6_rotates_124 : decode cX6_rotates 124 = .ok (.iaload, 1) := by decide +kernel
theorem dX6_rotates_125 : decode cX6_rotates 125 = .ok (.iastore, 1) := by decide +kernel
theorem dX6_rotates_126 : decode cX6_rotates 126 = .ok (.aload_n 0, 1) := by decide +kernel
theorem dX6_rotates_127 : decode cX6_rotates 127 = .ok (.getfield 7, 3) := by decide +kernel
theorem dX6_rotates_130 : decode cX6_rotates 130 = .ok (.bipush 28, 2) := by decide +kernel
theorem dX6_rotates_132 : decode cX6_rotates 132 = .ok (.iload_n 1, 1) := by decide +kernel
theorem dX6_rotates_133 : decode cX6_rotates 133 = .ok (.iadd, 1) := by decide +kernel
theorem dX6_rotates_134 : decode cX6_rotates 134 = .ok (.iconst (-1), 1) := by decide +kernel
theorem dX6_rotates_135 : decode cX6_rotates 135 = .ok (.iastore, 1) := by decide +kernel
theorem dX6_rotates_136 : decode cX6_rotates 136 = .ok (.return_, 1) := by decide +kernel
theorem dX6_scores_0 : decode cX6_scores 0 = .ok (.aload_n 0, 1) := by decide +kernel
theorem dX6_scores_1 : decode cX6_scores 1 = .ok (.getfield 7, 3) := by decide +kernel
theorem dX6_scores_4 : decode cX6_scores 4 = .ok (.bipush 10, 2) := by decide +kernel
theorem dX6_scores_6 : decode cX6_scores 6 = .ok (.iload_n 1, 1) := by decide +kernel
theorem dX6_scores_7 : decode cX6_scores 7 = .ok (.iadd, 1) := by decide +kernel
theorem dX6_scores_8 : decode cX6_scores 8 = .ok (.dup2, 1) := by decide +kernel
theorem dX6_scores_9 : decode cX6_scores 9 = .ok (.iaload, 1) := by decide +kernel
theorem dX6_scores_10 : decode cX6_scores 10 = .ok (.iconst 1, 1) := by decide +kernel
theorem dX6_scores_11 : decode cX6_scores 11 = .ok (.iadd, 1) := by decide +kernel
theorem dX6_scores_12 : decode cX6_scores 12 = .ok (.iastore, 1) := by decide +kernel
theorem dX6_scores_13 : decode cX6_scores 13 = .ok (.aload_n 0, 1) := by decide +kernel
theorem dX6_scores_14 : decode cX6_scores 14 = .ok (.getfield 7, 3) := by decide +kernel
theorem dX6_scores_17 : decode cX6_scores 17 = .ok (.iconst 2, 1) := by decide +kernel
theorem dX6_scores_18 : decode cX6_scores 18 = .ok (.iaload, 1) := by decide +kernel
theorem dX6_scores_19 : decode cX6_scores 19 = .ok (.iload_n 1, 1) := by decide +kernel
theorem dX6_scores_20 : decode cX6_scores 20 = .ok (.if_icmp .eq 23, 3) := by decide +kernel
theorem dX6_scores_23 : decode cX6_scores 23 = .ok (.aload_n 0, 1) := by decide +kernel
theorem dX6_scores_24 : decode cX6_scores 24 = .ok (.getfield 7, 3) := by decide +kernel
theorem dX6_scores_27 : decode cX6_scores 27 = .ok (.iconst 2, 1) := by decide +kernel
theorem dX6_scores_28 : decode cX6_scores 28 = .ok (.iload_n 1, 1) := by decide +kernel
theorem dX6_scores_29 : decode cX6_scores 29 = .ok (.iastore, 1) := by decide +kernel
theorem dX6_scores_30 : decode cX6_scores 30 = .ok (.aload_n 0, 1) := by decide +kernel
theorem dX6_scores_31 : decode cX6_scores 31 = .ok (.getfield 7, 3) := by decide +kernel
theorem dX6_scores_34 : decode cX6_scores 34 = .ok (.bipush 9, 2) := by decide +kernel
theorem dX6_scores_36 : decode cX6_scores 36 = .ok (.iconst (-1), 1) := by decide +kernel
theorem dX6_scores_37 : decode cX6_scores 37 = .ok (.iastore, 1) := by decide +kernel
theorem dX6_scores_38 : decode cX6_scores 38 = .ok (.aload_n 0, 1) := by decide +kernel
theorem dX6_scores_39 : decode cX6_scores 39 = .ok (.iload_n 1, 1) := by decide +kernel
theorem dX6_scores_40 : decode cX6_scores 40 = .ok (.invokevirtual 48, 3) := by decide +kernel
theorem dX6_scores_43 : decode cX6_scores 43 = .ok (.aload_n 0, 1) := by decide +kernel
theorem dX6_scores_44 : decode cX6_scores 44 = .ok (.getfield 7, 3) := by decide +kernel
theorem dX6_scores_47 : decode cX6_scores 47 = .ok (.bipush 12, 2) := by decide +kernel
theorem dX6_scores_49 : decode cX6_scores 49 = .ok (.iaload, 1) := by decide +kernel
theorem dX6_scores_50 : decode cX6_scores 50 = .ok (.aload_n 0, 1) := by decide +kernel
theorem dX6_scores_51 : decode cX6_scores 51 = .ok (.getfield 7, 3) := by decide +kernel
theorem dX6_scores_54 : decode cX6_scores 54 = .ok (.bipush 13, 2) := by decide +kernel
theorem dX6_scores_56 : decode cX6_scores 56 = .ok (.iaload, 1) := by decide +kernel
theorem dX6_scores_57 : decode cX6_scores 57 = .ok (.iadd, 1) := by decide +kernel
theorem dX6_scores_58 : decode cX6_scores 58 = .ok (.iconst 4, 1) := by decide +kernel
theorem dX6_scores_59 : decode cX6_scores 59 = .ok (.if_icmp .ne 8, 3) := by decide +kernel
theorem dX6_scores_62 : decode cX6_scores 62 = .ok (.bipush 15, 2) := by decide +kernel
theorem dX6_scores_64 : decode cX6_scores 64 = .ok (.goto 5, 3) := by decide +kernel
theorem dX6_scores_67 : decode cX6_scores 67 = .ok (.bipush 25, 2) := by decide +kernel
theorem dX6_scores_69 : decode cX6_scores 69 = .ok (.istore_n 2, 1) := by decide +kernel
theorem dX6_scores_70 : decode cX6_scores 70 = .ok (.aload_n 0, 1) := by decide +kernel
theorem dX6_scores_71 : decode cX6_scores 71 = .ok (.getfield 7, 3) := by decide +kernel
theorem dX6_scores_74 : decode cX6_scores 74 = .ok (.bipush 10, 2) := by decide +kernel
theorem dX6_scores_76 : decode cX6_scores 76 = .ok (.iload_n 1, 1) := by decide +kernel
theorem dX6_scores_77 : decode cX6_scores 77 = .ok (.iadd, 1) := by decide +kernel
theorem dX6_scores_78 : decode cX6_scores 78 = .ok (.iaload, 1) := by decide +kernel
theorem dX6_scores_79 : decode cX6_scores 79 = .ok (.iload_n 2, 1) := by decide +kernel
theorem dX6_scores_80 : decode cX6_scores 80 = .ok (.if_icmp .lt 103, 3) := by decide +kernel
theorem dX6_scores_83 : decode cX6_scores 83 = .ok (.aload_n 0, 1) := by decide +kernel
theorem dX6_scores_84 : decode cX6_scores 84 = .ok (.getfield 7, 3) := by decide +kernel
theorem dX6_scores_87 : decode cX6_scores 87 = .ok (.bipush 10, 2) := by decide +kernel
theorem dX6_scores_89 : decode cX6_scores 89 = .ok (.iload_n 1, 1) := by decide +kernel
theorem dX6_scores_90 : decode cX6_scores 90 = .ok (.iadd, 1) := by decide +kernel
theorem dX6_scores_91 : decode cX6_scores 91 = .ok (.iaload, 1) := by decide +kernel
theorem dX6_scores_92 : decode cX6_scores 92 = .ok (.aload_n 0, 1) := by decide +kernel
theorem dX6_scores_93 : decode cX6_scores 93 = .ok (.getfield 7, 3) := by decide +kernel
theorem dX6_scores_96 : decode cX6_scores 96 = .ok (.bipush 11, 2) := by decide +kernel
theorem dX6_scores_98 : decode cX6_scores 98 = .ok (.iload_n 1, 1) := by decide +kernel
theorem dX6_scores_99 : decode cX6_scores 99 = .ok (.isub, 1) := by decide +kernel
theorem dX6_scores_100 : decode cX6_scores 100 = .ok (.iaload, 1) := by decide +kernel
theorem dX6_scores_101 : decode cX6_scores 101 = .ok (.iconst 2, 1) := by decide +kernel
theorem dX6_scores_102 : decode cX6_scores 102 = .ok (.iadd, 1) := by decide +kernel
theorem dX6_scores_103 : decode cX6_scores 103 = .ok (.if_icmp .lt 80, 3) := by decide +kernel
theorem dX6_scores_106 : decode cX6_scores 106 = .ok (.aload_n 0, 1) := by decide +kernel
theorem dX6_scores_107 : decode cX6_scores 107 = .ok (.getfield 7, 3) := by decide +kernel
theorem dX6_scores_110 : decode cX6_scores 110 = .ok (.bipush 12, 2) := by decide +kernel
theorem dX6_scores_112 : decode cX6_scores 112 = .ok (.iload_n 1, 1) := by decide +kernel
theorem dX6_scores_113 : decode cX6_scores 113 = .ok (.iadd, 1) := by decide +kernel
theorem dX6_scores_114 : decode cX6_scores 114 = .ok (.dup2, 1) := by decide +kernel
theorem dX6_scores_115 : decode cX6_scores 115 = .ok (.iaload, 1) := by decide +kernel
theorem dX6_scores_116 : decode cX6_scores 116 = .ok (.iconst 1, 1) := by decide +kernel
theorem dX6_scores_117 : decode cX6_scores 117 = .ok (.iadd, 1) := by decide +kernel
theorem dX6_scores_118 : decode cX6_scores 118 = .ok (.iastore, 1) := by decide +kernel
theorem dX6_scores_119 : decode cX6_scores 119 = .ok (.aload_n 0, 1) := by decide +kernel
theorem dX6_scores_120 : decode cX6_scores 120 = .ok (.getfield 7, 3) := by decide +kernel
theorem dX6_scores_123 : decode cX6_scores 123 = .ok (.iconst 0, 1) := by decide +kernel
theorem dX6_scores_124 : decode cX6_scores 124 = .ok (.iconst 0, 1) := by decide +kernel
theorem dX6_scores_125 : decode cX6_scores 125 = .ok (.iastore, 1) := by decide +kernel
theorem dX6_scores_126 : decode cX6_scores 126 = .ok (.iconst 0, 1) := by decide +kernel
theorem dX6_scores_127 : decode cX6_scores 127 = .ok (.istore_n 3, 1) := by decide +kernel
theorem dX6_scores_128 : decode cX6_scores 128 = .ok (.iload_n 3, 1) := by decide +kernel
theorem dX6_scores_129 : decode cX6_scores 129 = .ok (.bipush 12, 2) := by decide +kernel
theorem dX6_scores_131 : decode cX6_scores 131 = .ok (.if_icmp .ge 19, 3) := by decide +kernel
theorem dX6_scores_134 : decode cX6_scores 134 = .ok (.aload_n 0, 1) := by decide +kernel
theorem dX6_scores_135 : decode cX6_scores 135 = .ok (.getfield 7, 3) := by decide +kernel
theorem dX6_scores_138 : decode cX6_scores 138 = .ok (.bipush 14, 2) := by decide +kernel
theorem dX6_scores_140 : decode cX6_scores 140 = .ok (.iload_n 3, 1) := by decide +kernel
theorem dX6_scores_141 : decode cX6_scores 141 = .ok (.iadd, 1) := by decide +kernel
theorem dX6_scores_142 : decode cX6_scores 142 = .ok (.iconst (-1), 1) := by decide +kernel
theorem dX6_scores_143 : decode cX6_scores 143 = .ok (.iastore, 1) := by decide +kernel
theorem dX6_scores_144 : decode cX6_scores 144 = .ok (.iinc 3 1, 3) := by decide +kernel
theorem dX6_scores_147 : decode cX6_scores 147 = .ok (.goto (-19), 3) := by decide +kernel
theorem dX6_scores_150 : decode cX6_scores 150 = .ok (.iconst 0, 1) := by decide +kernel
theorem dX6_scores_151 : decode cX6_scores 151 = .ok (.istore_n 3, 1) := by decide +kernel
theorem dX6_scores_152 : decode cX6_scores 152 = .ok (.iload_n 3, 1) := by decide +kernel
theorem dX6_scores_153 : decode cX6_scores 153 = .ok (.iconst 2, 1) := by decide +kernel
theorem dX6_scores_154 : decode cX6_scores 154 = .ok (.if_icmp .ge 29, 3) := by decide +kernel
theorem dX6_scores_157 : decode cX6_scores 157 = .ok (.aload_n 0, 1) := by decide +kernel
theorem dX6_scores_158 : decode cX6_scores 158 = .ok (.getfield 7, 3) := by decide +kernel
theorem dX6_scores_161 : decode cX6_scores 161 = .ok (.bipush 26, 2) := by decide +kernel
theorem dX6_scores_163 : decode cX6_scores 163 = .ok (.iload_n 3, 1) := by decide +kernel
theorem dX6_scores_164 : decode cX6_scores 164 = .ok (.iadd, 1) := by decide +kernel
theorem dX6_scores_165 : decode cX6_scores 165 = .ok (.iconst (-1), 1) := by decide +kernel
theorem dX6_scores_166 : decode cX6_scores 166 = .ok (.iastore, 1) := by decide +kernel
theorem dX6_scores_167 : decode cX6_scores 167 = .ok (.aload_n 0, 1) := by decide +kernel
theorem dX6_scores_168 : decode cX6_scores 168 = .ok (.getfield 7, 3) := by decide +kernel
theorem dX6_scores_171 : decode cX6_scores 171 = .ok (.bipush 28, 2) := by decide +kernel
theorem dX6_scores_173 : decode cX6_scores 173 = .ok (.iload_n 3, 1) := by decide +kernel
theorem dX6_scores_174 : decode cX6_scores 174 = .ok (.iadd, 1) := by decide +kernel
theorem dX6_scores_175 : decode cX6_scores 175 = .ok (.iconst (-1), 1) := by decide +kernel
theorem dX6_scores_176 : decode cX6_scores 176 = .ok (.iastore, 1) := by decide +kernel
theorem dX6_scores_177 : decode cX6_scores 177 = .ok (.iinc 3 1, 3) := by decide +kernel
theorem dX6_scores_180 : decode cX6_scores 180 = .ok (.goto (-28), 3) := by decide +kernel
theorem dX6_scores_183 : decode cX6_scores 183 = .ok (.return_, 1) := by decide +kernel
theorem dX6_wins_0 : decode cX6_wins 0 = .ok (.iconst 1, 1) := by decide +kernel
theorem dX6_wins_1 : decode cX6_wins 1 = .ok (.iload_n 1, 1) := by decide +kernel
theorem dX6_wins_2 : decode cX6_wins 2 = .ok (.isub, 1) := by decide +kernel
theorem dX6_wins_3 : decode cX6_wins 3 = .ok (.istore_n 3, 1) := by decide +kernel
theorem dX6_wins_4 : decode cX6_wins 4 = .ok (.aload_n 0, 1) := by decide +kernel
theorem dX6_wins_5 : decode cX6_wins 5 = .ok (.getfield 7, 3) := by decide +kernel
theorem dX6_wins_8 : decode cX6_wins 8 = .ok (.bipush 80, 2) := by decide +kernel
theorem dX6_wins_10 : decode cX6_wins 10 = .ok (.bipush 6, 2) := by decide +kernel
theorem dX6_wins_12 : decode cX6_wins 12 = .ok (.iload_n 3, 1) := by decide +kernel
theorem dX6_wins_13 : decode cX6_wins 13 = .ok (.imul, 1) := by decide +kernel
theorem dX6_wins_14 : decode cX6_wins 14 = .ok (.iadd, 1) := by decide +kernel
theorem dX6_wins_15 : decode cX6_wins 15 = .ok (.aload_n 0, 1) := by decide +kernel
theorem dX6_wins_16 : decode cX6_wins 16 = .ok (.getfield 7, 3) := by decide +kernel
theorem dX6_wins_19 : decode cX6_wins 19 = .ok (.bipush 36, 2) := by decide +kernel
theorem dX6_wins_21 : decode cX6_wins 21 = .ok (.iload_n 3, 1) := by decide +kernel
theorem dX6_wins_22 : decode cX6_wins 22 = .ok (.iadd, 1) := by decide +kernel
theorem dX6_wins_23 : decode cX6_wins 23 = .ok (.iaload, 1) := by decide +kernel
theorem dX6_wins_24 : decode cX6_wins 24 = .ok (.bipush 6, 2) := by decide +kernel
theorem dX6_wins_26 : decode cX6_wins 26 = .ok (.irem, 1) := by decide +kernel
theorem dX6_wins_27 : decode cX6_wins 27 = .ok (.iadd, 1) := by decide +kernel
theorem dX6_wins_28 : decode cX6_wins 28 = .ok (.dup2, 1) := by decide +kernel
theorem dX6_wins_29 : decode cX6_wins 29 = .ok (.iaload, 1) := by decide +kernel
theorem dX6_wins_30 : decode cX6_wins 30 = .ok (.iconst 1, 1) := by decide +kernel
theorem dX6_wins_31 : decode cX6_wins 31 = .ok (.iadd, 1) := by decide +kernel
theorem dX6_wins_32 : decode cX6_wins 32 = .ok (.iastore, 1) := by decide +kernel
theorem dX6_wins_33 : decode cX6_wins 33 = .ok (.aload_n 0, 1) := by decide +kernel
theorem dX6_wins_34 : decode cX6_wins 34 = .ok (.getfield 7, 3) := by decide +kernel
theorem dX6_wins_37 : decode cX6_wins 37 = .ok (.iconst 1, 1) := by decide +kernel
theorem dX6_wins_38 : decode cX6_wins 38 = .ok (.iconst 0, 1) := by decide +kernel
theorem dX6_wins_39 : decode cX6_wins 39 = .ok (.iastore, 1) := by decide +kernel
theorem dX6_wins_40 : decode cX6_wins 40 = .ok (.aload_n 0, 1) := by decide +kernel
theorem dX6_wins_41 : decode cX6_wins 41 = .ok (.getfield 7, 3) := by decide +kernel
theorem dX6_wins_44 : decode cX6_wins 44 = .ok (.iconst 3, 1) := by decide +kernel
theorem dX6_wins_45 : decode cX6_wins 45 = .ok (.iload_n 2, 1) := by decide +kernel
theorem dX6_wins_46 : decode cX6_wins 46 = .ok (.iastore, 1) := by decide +kernel
theorem dX6_wins_47 : decode cX6_wins 47 = .ok (.aload_n 0, 1) := by decide +kernel
theorem dX6_wins_48 : decode cX6_wins 48 = .ok (.getfield 7, 3) := by decide +kernel
theorem dX6_wins_51 : decode cX6_wins 51 = .ok (.bipush 40, 2) := by decide +kernel
theorem dX6_wins_53 : decode cX6_wins 53 = .ok (.iload_n 3, 1) := by decide +kernel
theorem dX6_wins_54 : decode cX6_wins 54 = .ok (.iastore, 1) := by decide +kernel
theorem dX6_wins_55 : decode cX6_wins 55 = .ok (.aload_n 0, 1) := by decide +kernel
theorem dX6_wins_56 : decode cX6_wins 56 = .ok (.getfield 7, 3) := by decide +kernel
theorem dX6_wins_59 : decode cX6_wins 59 = .ok (.bipush 30, 2) := by decide +kernel
theorem dX6_wins_61 : decode cX6_wins 61 = .ok (.iconst 0, 1) := by decide +kernel
theorem dX6_wins_62 : decode cX6_wins 62 = .ok (.iastore, 1) := by decide +kernel
theorem dX6_wins_63 : decode cX6_wins 63 = .ok (.aload_n 0, 1) := by decide +kernel
theorem dX6_wins_64 : decode cX6_wins 64 = .ok (.getfield 7, 3) := by decide +kernel
theorem dX6_wins_67 : decode cX6_wins 67 = .ok (.bipush 31, 2) := by decide +kernel
theorem dX6_wins_69 : decode cX6_wins 69 = .ok (.iconst 0, 1) := by decide +kernel
theorem dX6_wins_70 : decode cX6_wins 70 = .ok (.iastore, 1) := by decide +kernel
theorem dX6_wins_71 : decode cX6_wins 71 = .ok (.aload_n 0, 1) := by decide +kernel
theorem dX6_wins_72 : decode cX6_wins 72 = .ok (.iload_n 1, 1) := by decide +kernel
theorem dX6_wins_73 : decode cX6_wins 73 = .ok (.invokevirtual 52, 3) := by decide +kernel
theorem dX6_wins_76 : decode cX6_wins 76 = .ok (.return_, 1) := by decide +kernel
theorem dX6_ends_0 : decode cX6_ends 0 = .ok (.iconst 0, 1) := by decide +kernel
theorem dX6_ends_1 : decode cX6_ends 1 = .ok (.istore_n 3, 1) := by decide +kernel
theorem dX6_ends_2 : decode cX6_ends 2 = .ok (.iload_n 3, 1) := by decide +kernel
theorem dX6_ends_3 : decode cX6_ends 3 = .ok (.bipush 92, 2) := by decide +kernel
theorem dX6_ends_5 : decode cX6_ends 5 = .ok (.if_icmp .ge 21, 3) := by decide +kernel
theorem dX6_ends_8 : decode cX6_ends 8 = .ok (.aload_n 0, 1) := by decide +kernel
theorem dX6_ends_9 : decode cX6_ends 9 = .ok (.getfield 13, 3) := by decide +kernel
theorem dX6_ends_12 : decode cX6_ends 12 = .ok (.iload_n 3, 1) := by decide +kernel
theorem dX6_ends_13 : decode cX6_ends 13 = .ok (.aload_n 0, 1) := by decide +kernel
theorem dX6_ends_14 : decode cX6_ends 14 = .ok (.getfield 7, 3) := by decide +kernel
theorem dX6_ends_17 : decode cX6_ends 17 = .ok (.iload_n 3, 1) := by decide +kernel
theorem dX6_ends_18 : decode cX6_ends 18 = .ok (.iaload, 1) := by decide +kernel
theorem dX6_ends_19 : decode cX6_ends 19 = .ok (.iastore, 1) := by decide +kernel
theorem dX6_ends_20 : decode cX6_ends 20 = .ok (.iinc 3 1, 3) := by decide +kernel
theorem dX6_ends_23 : decode cX6_ends 23 = .ok (.goto (-21), 3) := by decide +kernel
theorem dX6_ends_26 : decode cX6_ends 26 = .ok (.aload_n 0, 1) := by decide +kernel
theorem dX6_ends_27 : decode cX6_ends 27 = .ok (.iload_n 1, 1) := by decide +kernel
theorem dX6_ends_28 : decode cX6_ends 28 = .ok (.iload_n 2, 1) := by decide +kernel
theorem dX6_ends_29 : decode cX6_ends 29 = .ok (.invokevirtual 55, 3) := by decide +kernel
theorem dX6_ends_32 : decode cX6_ends 32 = .ok (.aload_n 0, 1) := by decide +kernel
theorem dX6_ends_33 : decode cX6_ends 33 = .ok (.getfield 7, 3) := by decide +kernel
theorem dX6_ends_36 : decode cX6_ends 36 = .ok (.bipush 41, 2) := by decide +kernel
theorem dX6_ends_38 : decode cX6_ends 38 = .ok (.iconst 1, 1) := by decide +kernel
theorem dX6_ends_39 : decode cX6_ends 39 = .ok (.iastore, 1) := by decide +kernel
theorem dX6_ends_40 : decode cX6_ends 40 = .ok (.return_, 1) := by decide +kernel
theorem dX6_serve_0 : decode cX6_serve 0 = .ok (.iload_n 1, 1) := by decide +kernel
theorem dX6_serve_1 : decode cX6_serve 1 = .ok (.invokestatic 32, 3) := by decide +kernel
theorem dX6_serve_4 : decode cX6_serve 4 = .ok (.istore_n 2, 1) := by decide +kernel
theorem dX6_serve_5 : decode cX6_serve 5 = .ok (.iload_n 2, 1) := by decide +kernel
theorem dX6_serve_6 : decode cX6_serve 6 = .ok (.ifCond .eq 40, 3) := by decide +kernel
theorem dX6_serve_9 : decode cX6_serve 9 = .ok (.aload_n 0, 1) := by decide +kernel
theorem dX6_serve_10 : decode cX6_serve 10 = .ok (.getfield 7, 3) := by decide +kernel
theorem dX6_serve_13 : decode cX6_serve 13 = .ok (.iconst 0, 1) := by decide +kernel
theorem dX6_serve_14 : decode cX6_serve 14 = .ok (.iaload, 1) := by decide +kernel
theorem dX6_serve_15 : decode cX6_serve 15 = .ok (.iconst 1, 1) := by decide +kernel
theorem dX6_serve_16 : decode cX6_serve 16 = .ok (.if_icmp .ne 30, 3) := by decide +kernel
theorem dX6_serve_19 : decode cX6_serve 19 = .ok (.aload_n 0, 1) := by decide +kernel
theorem dX6_serve_20 : decode cX6_serve 20 = .ok (.getfield 7, 3) := by decide +kernel
theorem dX6_serve_23 : decode cX6_serve 23 = .ok (.iconst 1, 1) := by decide +kernel
theorem dX6_serve_24 : decode cX6_serve 24 = .ok (.iaload, 1) := by decide +kernel
theorem dX6_serve_25 : decode cX6_serve 25 = .ok (.ifCond .ne 21, 3) := by decide +kernel
theorem dX6_serve_28 : decode cX6_serve 28 = .ok (.aload_n 0, 1) := by decide +kernel
theorem dX6_serve_29 : decode cX6_serve 29 = .ok (.aload_n 0, 1) := by decide +kernel
theorem dX6_serve_30 : decode cX6_serve 30 = .ok (.getfield 7, 3) := by decide +kernel
theorem dX6_serve_33 : decode cX6_serve 33 = .ok (.iconst 2, 1) := by decide +kernel
theorem dX6_serve_34 : decode cX6_serve 34 = .ok (.iaload, 1) := by decide +kernel
theorem dX6_serve_35 : decode cX6_serve 35 = .ok (.iload_n 1, 1) := by decide +kernel
theorem dX6_serve_36 : decode cX6_serve 36 = .ok (.invokevirtual 42, 3) := by decide +kernel
theorem dX6_serve_39 : decode cX6_serve 39 = .ok (.ifCond .le 7, 3) := by decide +kernel
theorem dX6_serve_42 : decode cX6_serve 42 = .ok (.iconst 1, 1) := by decide +kernel
theorem dX6_serve_43 : decode cX6_serve 43 = .ok (.goto 4, 3) := by decide +kernel
theorem dX6_serve_46 : decode cX6_serve 46 = .ok (.iconst 0, 1) := by decide +kernel
theorem dX6_serve_47 : decode cX6_serve 47 = .ok (.istore_n 3, 1) := by decide +kernel
theorem dX6_serve_48 : decode cX6_serve 48 = .ok (.aload_n 0, 1) := by decide +kernel
theorem dX6_serve_49 : decode cX6_serve 49 = .ok (.iload_n 2, 1) := by decide +kernel
theorem dX6_serve_50 : decode cX6_serve 50 = .ok (.ifCond .ne 7, 3) := by decide +kernel
theorem dX6_serve_53 : decode cX6_serve 53 = .ok (.iconst 1, 1) := by decide +kernel
theorem dX6_serve_54 : decode cX6_serve 54 = .ok (.goto 12, 3) := by decide +kernel
theorem dX6_serve_57 : decode cX6_serve 57 = .ok (.iload_n 3, 1) := by decide +kernel
theorem dX6_serve_58 : decode cX6_serve 58 = .ok (.ifCond .eq 7, 3) := by decide +kernel
theorem dX6_serve_61 : decode cX6_serve 61 = .ok (.iconst 0, 1) := by decide +kernel
theorem dX6_serve_62 : decode cX6_serve 62 = .ok (.goto 4, 3) := by decide +kernel
theorem dX6_serve_65 : decode cX6_serve 65 = .ok (.iconst 2, 1) := by decide +kernel
theorem dX6_serve_66 : decode cX6_serve 66 = .ok (.invokevirtual 39, 3) := by decide +kernel
theorem dX6_serve_69 : decode cX6_serve 69 = .ok (.ifCond .ne 5, 3) := by decide +kernel
theorem dX6_serve_72 : decode cX6_serve 72 = .ok (.iconst 0, 1) := by decide +kernel
theorem dX6_serve_73 : decode cX6_serve 73 = .ok (.ireturn, 1) := by decide +kernel
theorem dX6_serve_74 : decode cX6_serve 74 = .ok (.aload_n 0, 1) := by decide +kernel
theorem dX6_serve_75 : decode cX6_serve 75 = .ok (.aload_n 0, 1) := by decide +kernel
theorem dX6_serve_76 : decode cX6_serve 76 = .ok (.getfield 7, 3) := by decide +kernel
theorem dX6_serve_79 : decode cX6_serve 79 = .ok (.iconst 2, 1) := by decide +kernel
theorem dX6_serve_80 : decode cX6_serve 80 = .ok (.iaload, 1) := by decide +kernel
theorem dX6_serve_81 : decode cX6_serve 81 = .ok (.iload_n 1, 1) := by decide +kernel
theorem dX6_serve_82 : decode cX6_serve 82 = .ok (.invokevirtual 42, 3) := by decide +kernel
theorem dX6_serve_85 : decode cX6_serve 85 = .ok (.iconst 1, 1) := by decide +kernel
theorem dX6_serve_86 : decode cX6_serve 86 = .ok (.if_icmp .ne 7, 3) := by decide +kernel
theorem dX6_serve_89 : decode cX6_serve 89 = .ok (.iconst 1, 1) := by decide +kernel
theorem dX6_serve_90 : decode cX6_serve 90 = .ok (.goto 4, 3) := by decide +kernel
theorem dX6_serve_93 : decode cX6_serve 93 = .ok (.iconst 0, 1) := by decide +kernel
theorem dX6_serve_94 : decode cX6_serve 94 = .ok (.istore 4, 2) := by decide +kernel
theorem dX6_serve_96 : decode cX6_serve 96 = .ok (.aload_n 0, 1) := by decide +kernel
theorem dX6_serve_97 : decode cX6_serve 97 = .ok (.getfield 7, 3) := by decide +kernel
theorem dX6_serve_100 : decode cX6_serve 100 = .ok (.bipush 9, 2) := by decide +kernel
theorem dX6_serve_102 : decode cX6_serve 102 = .ok (.iload 4, 2) := by decide +kernel
theorem dX6_serve_104 : decode cX6_serve 104 = .ok (.ifCond .ne 31, 3) := by decide +kernel
theorem dX6_serve_107 : decode cX6_serve 107 = .ok (.aload_n 0, 1) := by decide +kernel
theorem dX6_serve_108 : decode cX6_serve 108 = .ok (.getfield 7, 3) := by decide +kernel
theorem dX6_serve_111 : decode cX6_serve 111 = .ok (.bipush 9, 2) := by decide +kernel
theorem dX6_serve_113 : decode cX6_serve 113 = .ok (.iaload, 1) := by decide +kernel
theorem dX6_serve_114 : decode cX6_serve 114 = .ok (.iconst (-1), 1) := by decide +kernel
theorem dX6_serve_115 : decode cX6_serve 115 = .ok (.if_icmp .ne 20, 3) := by decide +kernel
theorem dX6_serve_118 : decode cX6_serve 118 = .ok (.aload_n 0, 1) := by decide +kernel
theorem dX6_serve_119 : decode cX6_serve 119 = .ok (.getfield 7, 3) := by decide +kernel
theorem dX6_serve_122 : decode cX6_serve 122 = .ok (.bipush 10, 2) := by decide +kernel
theorem dX6_serve_124 : decode cX6_serve 124 = .ok (.aload_n 0, 1) := by decide +kernel
theorem dX6_serve_125 : decode cX6_serve 125 = .ok (.getfield 7, 3) := by decide +kernel
theorem dX6_serve_128 : decode cX6_serve 128 = .ok (.iconst 2, 1) := by decide +kernel
theorem dX6_serve_129 : decode cX6_serve 129 = .ok (.iaload, 1) := by decide +kernel
theorem dX6_serve_130 : decode cX6_serve 130 = .ok (.iadd, 1) := by decide +kernel
theorem dX6_serve_131 : decode cX6_serve 131 = .ok (.iaload, 1) := by decide +kernel
theorem dX6_serve_132 : decode cX6_serve 132 = .ok (.goto 10, 3) := by decide +kernel
theorem dX6_serve_135 : decode cX6_serve 135 = .ok (.aload_n 0, 1) := by decide +kernel
theorem dX6_serve_136 : decode cX6_serve 136 = .ok (.getfield 7, 3) := by decide +kernel
theorem dX6_serve_139 : decode cX6_serve 139 = .ok (.bipush 9, 2) := by decide +kernel
theorem dX6_serve_141 : decode cX6_serve 141 = .ok (.iaload, 1) := by decide +kernel
theorem dX6_serve_142 : decode cX6_serve 142 = .ok (.iastore, 1) := by decide +kernel
theorem dX6_serve_143 : decode cX6_serve 143 = .ok (.aload_n 0, 1) := by decide +kernel
theorem dX6_serve_144 : decode cX6_serve 144 = .ok (.getfield 7, 3) := by decide +kernel
theorem dX6_serve_147 : decode cX6_serve 147 = .ok (.bipush 41, 2) := by decide +kernel
theorem dX6_serve_149 : decode cX6_serve 149 = .ok (.iconst 0, 1) := by decide +kernel
theorem dX6_serve_150 : decode cX6_serve 150 = .ok (.iastore, 1) := by decide +kernel
theorem dX6_serve_151 : decode cX6_serve 151 = .ok (.aload_n 0, 1) := by decide +kernel
theorem dX6_serve_152 : decode cX6_serve 152 = .ok (.getfield 7, 3) := by decide +kernel
theorem dX6_serve_155 : decode cX6_serve 155 = .ok (.iconst 1, 1) := by decide +kernel
theorem dX6_serve_156 : decode cX6_serve 156 = .ok (.iconst 1, 1) := by decide +kernel
theorem dX6_serve_157 : decode cX6_serve 157 = .ok (.iastore, 1) := by decide +kernel
theorem dX6_serve_158 : decode cX6_serve 158 = .ok (.aload_n 0, 1) := by decide +kernel
theorem dX6_serve_159 : decode cX6_serve 159 = .ok (.getfield 7, 3) := by decide +kernel
theorem dX6_serve_162 : decode cX6_serve 162 = .ok (.iconst 4, 1) := by decide +kernel
theorem dX6_serve_163 : decode cX6_serve 163 = .ok (.aload_n 0, 1) := by decide +kernel
theorem dX6_serve_164 : decode cX6_serve 164 = .ok (.getfield 7, 3) := by decide +kernel
theorem dX6_serve_167 : decode cX6_serve 167 = .ok (.iconst 2, 1) := by decide +kernel
theorem dX6_serve_168 : decode cX6_serve 168 = .ok (.iaload, 1) := by decide +kernel
theorem dX6_serve_169 : decode cX6_serve 169 = .ok (.iastore, 1) := by decide +kernel
theorem dX6_serve_170 : decode cX6_serve 170 = .ok (.aload_n 0, 1) := by decide +kernel
theorem dX6_serve_171 : decode cX6_serve 171 = .ok (.getfield 7, 3) := by decide +kernel
theorem dX6_serve_174 : decode cX6_serve 174 = .ok (.iconst 5, 1) := by decide +kernel
theorem dX6_serve_175 : decode cX6_serve 175 = .ok (.iload_n 1, 1) := by decide +kernel
theorem dX6_serve_176 : decode cX6_serve 176 = .ok (.iastore, 1) := by decide +kernel
theorem dX6_serve_177 : decode cX6_serve 177 = .ok (.aload_n 0, 1) := by decide +kernel
theorem dX6_serve_178 : decode cX6_serve 178 = .ok (.getfield 7, 3) := by decide +kernel
theorem dX6_serve_181 : decode cX6_serve 181 = .ok (.bipush 6, 2) := by decide +kernel
theorem dX6_serve_183 : decode cX6_serve 183 = .ok (.iconst 0, 1) := by decide +kernel
theorem dX6_serve_184 : decode cX6_serve 184 = .ok (.iastore, 1) := by decide +kernel
theorem dX6_serve_185 : decode cX6_serve 185 = .ok (.aload_n 0, 1) := by decide +kernel
theorem dX6_serve_186 : decode cX6_serve 186 = .ok (.getfield 7, 3) := by decide +kernel
theorem dX6_serve_189 : decode cX6_serve 189 = .ok (.bipush 7, 2) := by decide +kernel
theorem dX6_serve_191 : decode cX6_serve 191 = .ok (.iconst 0, 1) := by decide +kernel
theorem dX6_serve_192 : decode cX6_serve 192 = .ok (.iastore, 1) := by decide +kernel
theorem dX6_serve_193 : decode cX6_serve 193 = .ok (.aload_n 0, 1) := by decide +kernel
theorem dX6_serve_194 : decode cX6_serve 194 = .ok (.getfield 7, 3) := by decide +kernel
theorem dX6_serve_197 : decode cX6_serve 197 = .ok (.bipush 8, 2) := by decide +kernel
theorem dX6_serve_199 : decode cX6_serve 199 = .ok (.iconst 1, 1) := by decide +kernel
theorem dX6_serve_200 : decode cX6_serve 200 = .ok (.iastore, 1) := by decide +kernel
theorem dX6_serve_201 : decode cX6_serve 201 = .ok (.aload_n 0, 1) := by decide +kernel
theorem dX6_serve_202 : decode cX6_serve 202 = .ok (.getfield 7, 3) := by decide +kernel
theorem dX6_serve_205 : decode cX6_serve 205 = .ok (.bipush 38, 2) := by decide +kernel
theorem dX6_serve_207 : decode cX6_serve 207 = .ok (.iconst 0, 1) := by decide +kernel
theorem dX6_serve_208 : decode cX6_serve 208 = .ok (.iastore, 1) := by decide +kernel
theorem dX6_serve_209 : decode cX6_serve 209 = .ok (.aload_n 0, 1) := by decide +kernel
theorem dX6_serve_210 : decode cX6_serve 210 = .ok (.getfield 7, 3) := by decide +kernel
theorem dX6_serve_213 : decode cX6_serve 213 = .ok (.bipush 39, 2) := by decide +kernel
theorem dX6_serve_215 : decode cX6_serve 215 = .ok (.iconst 0, 1) := by decide +kernel
theorem dX6_serve_216 : decode cX6_serve 216 = .ok (.iastore, 1) := by decide +kernel
theorem dX6_serve_217 : decode cX6_serve 217 = .ok (.iload 4, 2) := by decide +kernel
theorem dX6_serve_219 : decode cX6_serve 219 = .ok (.ireturn, 1) := by decide +kernel
theorem dX6_fault_0 : decode cX6_fault 0 = .ok (.aload_n 0, 1) := by decide +kernel
theorem dX6_fault_1 : decode cX6_fault 1 = .ok (.iload_n 1, 1) := by decide +kernel
theorem dX6_fault_2 : decode cX6_fault 2 = .ok (.iload_n 2, 1) := by decide +kernel
theorem dX6_fault_3 : decode cX6_fault 3 = .ok (.invokevirtual 42, 3) := by decide +kernel
theorem dX6_fault_6 : decode cX6_fault 6 = .ok (.invokestatic 59, 3) := by decide +kernel
theorem dX6_fault_9 : decode cX6_fault 9 = .ok (.istore 5, 2) := by decide +kernel
theorem dX6_fault_11 : decode cX6_fault 11 = .ok (.aload_n 0, 1) := by decide +kernel
theorem dX6_fault_12 : decode cX6_fault 12 = .ok (.getfield 7, 3) := by decide +kernel
theorem dX6_fault_15 : decode cX6_fault 15 = .ok (.iconst 4, 1) := by decide +kernel
theorem dX6_fault_16 : decode cX6_fault 16 = .ok (.iaload, 1) := by decide +kernel
theorem dX6_fault_17 : decode cX6_fault 17 = .ok (.iload_n 1, 1) := by decide +kernel
theorem dX6_fault_18 : decode cX6_fault 18 = .ok (.if_icmp .ne 17, 3) := by decide +kernel
theorem dX6_fault_21 : decode cX6_fault 21 = .ok (.aload_n 0, 1) := by decide +kernel
theorem dX6_fault_22 : decode cX6_fault 22 = .ok (.getfield 7, 3) := by decide +kernel
theorem dX6_fault_25 : decode cX6_fault 25 = .ok (.iconst 5, 1) := by decide +kernel
theorem dX6_fault_26 : decode cX6_fault 26 = .ok (.iaload, 1) := by decide +kernel
theorem dX6_fault_27 : decode cX6_fault 27 = .ok (.iload_n 2, 1) := by decide +kernel
theorem dX6_fault_28 : decode cX6_fault 28 = .ok (.if_icmp .ne 7, 3) := by decide +kernel
theorem dX6_fault_31 : decode cX6_fault 31 = .ok (.iconst 1, 1) := by decide +kernel
theorem dX6_fault_32 : decode cX6_fault 32 = .ok (.goto 4, 3) := by decide +kernel
theorem dX6_fault_35 : decode cX6_fault 35 = .ok (.iconst 0, 1) := by decide +kernel
theorem dX6_fault_36 : decode cX6_fault 36 = .ok (.istore 6, 2) := by decide +kernel
theorem dX6_fault_38 : decode cX6_fault 38 = .ok (.aload_n 0, 1) := by decide +kernel
theorem dX6_fault_39 : decode cX6_fault 39 = .ok (.getfield 7, 3) := by decide +kernel
theorem dX6_fault_42 : decode cX6_fault 42 = .ok (.iconst 4, 1) := by decide +kernel
theorem dX6_fault_43 : decode cX6_fault 43 = .ok (.iaload, 1) := by decide +kernel
theorem dX6_fault_44 : decode cX6_fault 44 = .ok (.iload_n 1, 1) := by decide +kernel
theorem dX6_fault_45 : decode cX6_fault 45 = .ok (.if_icmp .ne 13, 3) := by decide +kernel
theorem dX6_fault_48 : decode cX6_fault 48 = .ok (.aload_n 0, 1) := by decide +kernel
theorem dX6_fault_49 : decode cX6_fault 49 = .ok (.getfield 7, 3) := by decide +kernel
theorem dX6_fault_52 : decode cX6_fault 52 = .ok (.bipush 7, 2) := by decide +kernel
theorem dX6_fault_54 : decode cX6_fault 54 = .ok (.iaload, 1) := by decide +kernel
theorem dX6_fault_55 : decode cX6_fault 55 = .ok (.goto 4, 3) := by decide +kernel
theorem dX6_fault_58 : decode cX6_fault 58 = .ok (.iconst 0, 1) := by decide +kernel
theorem dX6_fault_59 : decode cX6_fault 59 = .ok (.istore 7, 2) := by decide +kernel
theorem dX6_fault_61 : decode cX6_fault 61 = .ok (.aload_n 0, 1) := by decide +kernel
theorem dX6_fault_62 : decode cX6_fault 62 = .ok (.getfield 7, 3) := by decide +kernel
theorem dX6_fault_65 : decode cX6_fault 65 = .ok (.bipush 8, 2) := by decide +kernel
theorem dX6_fault_67 : decode cX6_fault 67 = .ok (.iaload, 1) := by decide +kernel
theorem dX6_fault_68 : decode cX6_fault 68 = .ok (.iconst 1, 1) := by decide +kernel
theorem dX6_fault_69 : decode cX6_fault 69 = .ok (.if_icmp .ne 17, 3) := by decide +kernel
theorem dX6_fault_72 : decode cX6_fault 72 = .ok (.iload_n 1, 1) := by decide +kernel
theorem dX6_fault_73 : decode cX6_fault 73 = .ok (.aload_n 0, 1) := by decide +kernel
theorem dX6_fault_74 : decode cX6_fault 74 = .ok (.getfield 7, 3) := by decide +kernel
theorem dX6_fault_77 : decode cX6_fault 77 = .ok (.iconst 2, 1) := by decide +kernel
theorem dX6_fault_78 : decode cX6_fault 78 = .ok (.iaload, 1) := by decide +kernel
theorem dX6_fault_79 : decode cX6_fault 79 = .ok (.if_icmp .ne 7, 3) := by decide +kernel
theorem dX6_fault_82 : decode cX6_fault 82 = .ok (.iconst 1, 1) := by decide +kernel
theorem dX6_fault_83 : decode cX6_fault 83 = .ok (.goto 85, 3) := by decide +kernel
theorem dX6_fault_86 : decode cX6_fault 86 = .ok (.iload 6, 2) := by decide +kernel
theorem dX6_fault_88 : decode cX6_fault 88 = .ok (.ifCond .eq 18, 3) := by decide +kernel
theorem dX6_fault_91 : decode cX6_fault 91 = .ok (.aload_n 0, 1) := by decide +kernel
theorem dX6_fault_92 : decode cX6_fault 92 = .ok (.getfield 7, 3) := by decide +kernel
theorem dX6_fault_95 : decode cX6_fault 95 = .ok (.bipush 6, 2) := by decide +kernel
theorem dX6_fault_97 : decode cX6_fault 97 = .ok (.iaload, 1) := by decide +kernel
theorem dX6_fault_98 : decode cX6_fault 98 = .ok (.iconst 2, 1) := by decide +kernel
theorem dX6_fault_99 : decode cX6_fault 99 = .ok (.if_icmp .eq 7, 3) := by decide +kernel
theorem dX6_fault_102 : decode cX6_fault 102 = .ok (.iconst 2, 1) := by decide +kernel
theorem dX6_fault_103 : decode cX6_fault 103 = .ok (.goto 65, 3) := by decide +kernel
theorem dX6_fault_106 : decode cX6_fault 106 = .ok (.iload_n 3, 1) := by decide +kernel
theorem dX6_fault_107 : decode cX6_fault 107 = .ok (.iconst 2, 1) := by decide +kernel
theorem dX6_fault_108 : decode cX6_fault 108 = .ok (.if_icmp .eq 13, 3) := by decide +kernel
theorem dX6_fault_111 : decode cX6_fault 111 = .ok (.iload 7, 2) := by decide +kernel
theorem dX6_fault_113 : decode cX6_fault 113 = .ok (.iconst 3, 1) := by decide +kernel
theorem dX6_fault_114 : decode cX6_fault 114 = .ok (.if_icmp .ne 7, 3) := by decide +kernel
theorem dX6_fault_117 : decode cX6_fault 117 = .ok (.iconst 3, 1) := by decide +kernel
theorem dX6_fault_118 : decode cX6_fault 118 = .ok (.goto 50, 3) := by decide +kernel
theorem dX6_fault_121 : decode cX6_fault 121 = .ok (.iload 5, 2) := by decide +kernel
theorem dX6_fault_123 : decode cX6_fault 123 = .ok (.ifCond .eq 22, 3) := by decide +kernel
theorem dX6_fault_126 : decode cX6_fault 126 = .ok (.iload_n 3, 1) := by decide +kernel
theorem dX6_fault_127 : decode cX6_fault 127 = .ok (.iconst 2, 1) := by decide +kernel
theorem dX6_fault_128 : decode cX6_fault 128 = .ok (.if_icmp .eq 13, 3) := by decide +kernel
theorem dX6_fault_131 : decode cX6_fault 131 = .ok (.iload_n 3, 1) := by decide +kernel
theorem dX6_fault_132 : decode cX6_fault 132 = .ok (.iconst 1, 1) := by decide +kernel
theorem dX6_fault_133 : decode cX6_fault 133 = .ok (.if_icmp .ne 12, 3) := by decide +kernel
theorem dX6_fault_136 : decode cX6_fault 136 = .ok (.iload 4, 2) := by decide +kernel
theorem dX6_fault_138 : decode cX6_fault 138 = .ok (.ifCond .eq 7, 3) := by decide +kernel
theorem dX6_fault_141 : decode cX6_fault 141 = .ok (.iconst 4, 1) := by decide +kernel
theorem dX6_fault_142 : decode cX6_fault 142 = .ok (.goto 26, 3) := by decide +kernel
theorem dX6_fault_145 : decode cX6_fault 145 = .ok (.iload_n 3, 1) := by decide +kernel
theorem dX6_fault_146 : decode cX6_fault 146 = .ok (.iconst 1, 1) := by decide +kernel
theorem dX6_fault_147 : decode cX6_fault 147 = .ok (.if_icmp .ne 20, 3) := by decide +kernel
theorem dX6_fault_150 : decode cX6_fault 150 = .ok (.iload_n 2, 1) := by decide +kernel
theorem dX6_fault_151 : decode cX6_fault 151 = .ok (.aload_n 0, 1) := by decide +kernel
theorem dX6_fault_152 : decode cX6_fault 152 = .ok (.getfield 7, 3) := by decide +kernel
theorem dX6_fault_155 : decode cX6_fault 155 = .ok (.bipush 26, 2) := by decide +kernel
theorem dX6_fault_157 : decode cX6_fault 157 = .ok (.iload_n 1, 1) := by decide +kernel
theorem dX6_fault_158 : decode cX6_fault 158 = .ok (.iadd, 1) := by decide +kernel
theorem dX6_fault_159 : decode cX6_fault 159 = .ok (.iaload, 1) := by decide +kernel
theorem dX6_fault_160 : decode cX6_fault 160 = .ok (.if_icmp .ne 7, 3) := by decide +kernel
theorem dX6_fault_163 : decode cX6_fault 163 = .ok (.iconst 5, 1) := by decide +kernel
theorem dX6_fault_164 : decode cX6_fault 164 = .ok (.goto 4, 3) := by decide +kernel
theorem dX6_fault_167 : decode cX6_fault 167 = .ok (.iconst 0, 1) := by decide +kernel
theorem dX6_fault_168 : decode cX6_fault 168 = .ok (.ireturn, 1) := by decide +kernel
theorem dX6_touch_0 : decode cX6_touch 0 = .ok (.iload_n 1, 1) := by decide +kernel
theorem dX6_touch_1 : decode cX6_touch 1 = .ok (.invokestatic 28, 3) := by decide +kernel
theorem dX6_touch_4 : decode cX6_touch 4 = .ok (.ifCond .eq 14, 3) := by decide +kernel
theorem dX6_touch_7 : decode cX6_touch 7 = .ok (.iload_n 2, 1) := by decide +kernel
theorem dX6_touch_8 : decode cX6_touch 8 = .ok (.invokestatic 32, 3) := by decide +kernel
theorem dX6_touch_11 : decode cX6_touch 11 = .ok (.ifCond .eq 7, 3) := by decide +kernel
theorem dX6_touch_14 : decode cX6_touch 14 = .ok (.iconst 1, 1) := by decide +kernel
theorem dX6_touch_15 : decode cX6_touch 15 = .ok (.goto 4, 3) := by decide +kernel
theorem dX6_touch_18 : decode cX6_touch 18 = .ok (.iconst 0, 1) := by decide +kernel
theorem dX6_touch_19 : decode cX6_touch 19 = .ok (.istore 5, 2) := by decide +kernel
theorem dX6_touch_21 : decode cX6_touch 21 = .ok (.iload_n 3, 1) := by decide +kernel
theorem dX6_touch_22 : decode cX6_touch 22 = .ok (.iconst 0, 1) := by decide +kernel
theorem dX6_touch_23 : decode cX6_touch 23 = .ok (.iconst 2, 1) := by decide +kernel
theorem dX6_touch_24 : decode cX6_touch 24 = .ok (.invokestatic 20, 3) := by decide +kernel
theorem dX6_touch_27 : decode cX6_touch 27 = .ok (.istore 6, 2) := by decide +kernel
theorem dX6_touch_29 : decode cX6_touch 29 = .ok (.aload_n 0, 1) := by decide +kernel
theorem dX6_touch_30 : decode cX6_touch 30 = .ok (.iload 5, 2) := by decide +kernel
theorem dX6_touch_32 : decode cX6_touch 32 = .ok (.ifCond .ne 7, 3) := by decide +kernel
theorem dX6_touch_35 : decode cX6_touch 35 = .ok (.iconst 1, 1) := by decide +kernel
theorem dX6_touch_36 : decode cX6_touch 36 = .ok (.goto 35, 3) := by decide +kernel
theorem dX6_touch_39 : decode cX6_touch 39 = .ok (.iload 6, 2) := by decide +kernel
theorem dX6_touch_41 : decode cX6_touch 41 = .ok (.ifCond .ne 7, 3) := by decide +kernel
theorem dX6_touch_44 : decode cX6_touch 44 = .ok (.iconst 2, 1) := by decide +kernel
theorem dX6_touch_45 : decode cX6_touch 45 = .ok (.goto 26, 3) := by decide +kernel
theorem dX6_touch_48 : decode cX6_touch 48 = .ok (.aload_n 0, 1) := by decide +kernel
theorem dX6_touch_49 : decode cX6_touch 49 = .ok (.getfield 7, 3) := by decide +kernel
theorem dX6_touch_52 : decode cX6_touch 52 = .ok (.iconst 1, 1) := by decide +kernel
theorem dX6_touch_53 : decode cX6_touch 53 = .ok (.iaload, 1) := by decide +kernel
theorem dX6_touch_54 : decode cX6_touch 54 = .ok (.ifCond .eq 12, 3) := by decide +kernel
theorem dX6_touch_57 : decode cX6_touch 57 = .ok (.aload_n 0, 1) := by decide +kernel
theorem dX6_touch_58 : decode cX6_touch 58 = .ok (.iload_n 1, 1) := by decide +kernel
theorem dX6_touch_59 : decode cX6_touch 59 = .ok (.iload_n 2, 1) := by decide +kernel
theorem dX6_touch_60 : decode cX6_touch 60 = .ok (.invokevirtual 42, 3) := by decide +kernel
theorem dX6_touch_63 : decode cX6_touch 63 = .ok (.ifCond .ne 7, 3) := by decide +kernel
theorem dX6_touch_66 : decode cX6_touch 66 = .ok (.iconst 3, 1) := by decide +kernel
theorem dX6_touch_67 : decode cX6_touch 67 = .ok (.goto 4, 3) := by decide +kernel
theorem dX6_touch_70 : decode cX6_touch 70 = .ok (.iconst 0, 1) := by decide +kernel
theorem dX6_touch_71 : decode cX6_touch 71 = .ok (.invokevirtual 39, 3) := by decide +kernel
theorem dX6_touch_74 : decode cX6_touch 74 = .ok (.ifCond .ne 5, 3) := by decide +kernel
theorem dX6_touch_77 : decode cX6_touch 77 = .ok (.iconst 0, 1) := by decide +kernel
theorem dX6_touch_78 : decode cX6_touch 78 = .ok (.ireturn, 1) := by decide +kernel
theorem dX6_touch_79 : decode cX6_touch 79 = .ok (.aload_n 0, 1) := by decide +kernel
theorem dX6_touch_80 : decode cX6_touch 80 = .ok (.iload_n 1, 1) := by decide +kernel
theorem dX6_touch_81 : decode cX6_touch 81 = .ok (.iload_n 2, 1) := by decide +kernel
theorem dX6_touch_82 : decode cX6_touch 82 = .ok (.iload_n 3, 1) := by decide +kernel
theorem dX6_touch_83 : decode cX6_touch 83 = .ok (.iload 4, 2) := by decide +kernel
theorem dX6_touch_85 : decode cX6_touch 85 = .ok (.invokevirtual 62, 3) := by decide +kernel
theorem dX6_touch_88 : decode cX6_touch 88 = .ok (.istore 7, 2) := by decide +kernel
theorem dX6_touch_90 : decode cX6_touch 90 = .ok (.aload_n 0, 1) := by decide +kernel
theorem dX6_touch_91 : decode cX6_touch 91 = .ok (.getfield 7, 3) := by decide +kernel
theorem dX6_touch_94 : decode cX6_touch 94 = .ok (.iconst 4, 1) := by decide +kernel
theorem dX6_touch_95 : decode cX6_touch 95 = .ok (.iaload, 1) := by decide +kernel
theorem dX6_touch_96 : decode cX6_touch 96 = .ok (.iload_n 1, 1) := by decide +kernel
theorem dX6_touch_97 : decode cX6_touch 97 = .ok (.if_icmp .ne 13, 3) := by decide +kernel
theorem dX6_touch_100 : decode cX6_touch 100 = .ok (.aload_n 0, 1) := by decide +kernel
theorem dX6_touch_101 : decode cX6_touch 101 = .ok (.getfield 7, 3) := by decide +kernel
theorem dX6_touch_104 : decode cX6_touch 104 = .ok (.bipush 7, 2) := by decide +kernel
theorem dX6_touch_106 : decode cX6_touch 106 = .ok (.iaload, 1) := by decide +kernel
theorem dX6_touch_107 : decode cX6_touch 107 = .ok (.goto 4, 3) := by decide +kernel
theorem dX6_touch_110 : decode cX6_touch 110 = .ok (.iconst 0, 1) := by decide +kernel
theorem dX6_touch_111 : decode cX6_touch 111 = .ok (.istore 8, 2) := by decide +kernel
theorem dX6_touch_113 : decode cX6_touch 113 = .ok (.aload_n 0, 1) := by decide +kernel
theorem dX6_touch_114 : decode cX6_touch 114 = .ok (.getfield 7, 3) := by decide +kernel
theorem dX6_touch_117 : decode cX6_touch 117 = .ok (.bipush 7, 2) := by decide +kernel
theorem dX6_touch_119 : decode cX6_touch 119 = .ok (.iload_n 3, 1) := by decide +kernel
theorem dX6_touch_120 : decode cX6_touch 120 = .ok (.iconst 2, 1) := by decide +kernel
theorem dX6_touch_121 : decode cX6_touch 121 = .ok (.if_icmp .ne 7, 3) := by decide +kernel
theorem dX6_touch_124 : decode cX6_touch 124 = .ok (.iconst 0, 1) := by decide +kernel
theorem dX6_touch_125 : decode cX6_touch 125 = .ok (.goto 7, 3) := by decide +kernel
theorem dX6_touch_128 : decode cX6_touch 128 = .ok (.iload 8, 2) := by decide +kernel
theorem dX6_touch_130 : decode cX6_touch 130 = .ok (.iconst 1, 1) := by decide +kernel
theorem dX6_touch_131 : decode cX6_touch 131 = .ok (.iadd, 1) := by decide +kernel
theorem dX6_touch_132 : decode cX6_touch 132 = .ok (.iastore, 1) := by decide +kernel
theorem dX6_touch_133 : decode cX6_touch 133 = .ok (.aload_n 0, 1) := by decide +kernel
theorem dX6_touch_134 : decode cX6_touch 134 = .ok (.getfield 7, 3) := by decide +kernel
theorem dX6_touch_137 : decode cX6_touch 137 = .ok (.iconst 4, 1) := by decide +kernel
theorem dX6_touch_138 : decode cX6_touch 138 = .ok (.iload_n 1, 1) := by decide +kernel
theorem dX6_touch_139 : decode cX6_touch 139 = .ok (.iastore, 1) := by decide +kernel
theorem dX6_touch_140 : decode cX6_touch 140 = .ok (.aload_n 0, 1) := by decide +kernel
theorem dX6_touch_141 : decode cX6_touch 141 = .ok (.getfield 7, 3) := by decide +kernel
theorem dX6_touch_144 : decode cX6_touch 144 = .ok (.iconst 5, 1) := by decide +kernel
theorem dX6_touch_145 : decode cX6_touch 145 = .ok (.iload_n 2, 1) := by decide +kernel
theorem dX6_touch_146 : decode cX6_touch 146 = .ok (.iastore, 1) := by decide +kernel
theorem dX6_touch_147 : decode cX6_touch 147 = .ok (.aload_n 0, 1) := by decide +kernel
theorem dX6_touch_148 : decode cX6_touch 148 = .ok (.getfield 7, 3) := by decide +kernel
theorem dX6_touch_151 : decode cX6_touch 151 = .ok (.bipush 6, 2) := by decide +kernel
theorem dX6_touch_153 : decode cX6_touch 153 = .ok (.iload_n 3, 1) := by decide +kernel
theorem dX6_touch_154 : decode cX6_touch 154 = .ok (.iastore, 1) := by decide +kernel
theorem dX6_touch_155 : decode cX6_touch 155 = .ok (.aload_n 0, 1) := by decide +kernel
theorem dX6_touch_156 : decode cX6_touch 156 = .ok (.getfield 7, 3) := by decide +kernel
theorem dX6_touch_159 : decode cX6_touch 159 = .ok (.bipush 8, 2) := by decide +kernel
theorem dX6_touch_161 : decode cX6_touch 161 = .ok (.iconst 0, 1) := by decide +kernel
theorem dX6_touch_162 : decode cX6_touch 162 = .ok (.iastore, 1) := by decide +kernel
theorem dX6_touch_163 : decode cX6_touch 163 = .ok (.iload 7, 2) := by decide +kernel
theorem dX6_touch_165 : decode cX6_touch 165 = .ok (.ifCond .le 12, 3) := by decide +kernel
theorem dX6_touch_168 : decode cX6_touch 168 = .ok (.aload_n 0, 1) := by decide +kernel
theorem dX6_touch_169 : decode cX6_touch 169 = .ok (.iconst 1, 1) := by decide +kernel
theorem dX6_touch_170 : decode cX6_touch 170 = .ok (.iload_n 1, 1) := by decide +kernel
theorem dX6_touch_171 : decode cX6_touch 171 = .ok (.isub, 1) := by decide +kernel
theorem dX6_touch_172 : decode cX6_touch 172 = .ok (.iload 7, 2) := by decide +kernel
theorem dX6_touch_174 : decode cX6_touch 174 = .ok (.invokevirtual 66, 3) := by decide +kernel
theorem dX6_touch_177 : decode cX6_touch 177 = .ok (.iload 7, 2) := by decide +kernel
theorem dX6_touch_179 : decode cX6_touch 179 = .ok (.ireturn, 1) := by decide +kernel
theorem dX6_fall_0 : decode cX6_fall 0 = .ok (.iload_n 1, 1) := by decide +kernel
theorem dX6_fall_1 : decode cX6_fall 1 = .ok (.iconst (-1), 1) := by decide +kernel
theorem dX6_fall_2 : decode cX6_fall 2 = .ok (.if_icmp .eq 10, 3) := by decide +kernel
theorem dX6_fall_5 : decode cX6_fall 5 = .ok (.iload_n 1, 1) := by decide +kernel
theorem dX6_fall_6 : decode cX6_fall 6 = .ok (.invokestatic 28, 3) := by decide +kernel
theorem dX6_fall_9 : decode cX6_fall 9 = .ok (.ifCond .eq 7, 3) := by decide +kernel
theorem dX6_fall_12 : decode cX6_fall 12 = .ok (.iconst 1, 1) := by decide +kernel
theorem dX6_fall_13 : decode cX6_fall 13 = .ok (.goto 4, 3) := by decide +kernel
theorem dX6_fall_16 : decode cX6_fall 16 = .ok (.iconst 0, 1) := by decide +kernel
theorem dX6_fall_17 : decode cX6_fall 17 = .ok (.istore_n 2, 1) := by decide +kernel
theorem dX6_fall_18 : decode cX6_fall 18 = .ok (.aload_n 0, 1) := by decide +kernel
theorem dX6_fall_19 : decode cX6_fall 19 = .ok (.iload_n 2, 1) := by decide +kernel
theorem dX6_fall_20 : decode cX6_fall 20 = .ok (.ifCond .ne 7, 3) := by decide +kernel
theorem dX6_fall_23 : decode cX6_fall 23 = .ok (.iconst 1, 1) := by decide +kernel
theorem dX6_fall_24 : decode cX6_fall 24 = .ok (.goto 18, 3) := by decide +kernel
theorem dX6_fall_27 : decode cX6_fall 27 = .ok (.aload_n 0, 1) := by decide +kernel
theorem dX6_fall_28 : decode cX6_fall 28 = .ok (.getfield 7, 3) := by decide +kernel
theorem dX6_fall_31 : decode cX6_fall 31 = .ok (.iconst 1, 1) := by decide +kernel
theorem dX6_fall_32 : decode cX6_fall 32 = .ok (.iaload, 1) := by decide +kernel
theorem dX6_fall_33 : decode cX6_fall 33 = .ok (.iconst 1, 1) := by decide +kernel
theorem dX6_fall_34 : decode cX6_fall 34 = .ok (.if_icmp .ne 7, 3) := by decide +kernel
theorem dX6_fall_37 : decode cX6_fall 37 = .ok (.iconst 0, 1) := by decide +kernel
theorem dX6_fall_38 : decode cX6_fall 38 = .ok (.goto 4, 3) := by decide +kernel
theorem dX6_fall_41 : decode cX6_fall 41 = .ok (.iconst 2, 1) := by decide +kernel
theorem dX6_fall_42 : decode cX6_fall 42 = .ok (.invokevirtual 39, 3) := by decide +kernel
theorem dX6_fall_45 : decode cX6_fall 45 = .ok (.ifCond .ne 5, 3) := by decide +kernel
theorem dX6_fall_48 : decode cX6_fall 48 = .ok (.iconst 0, 1) := by decide +kernel
theorem dX6_fall_49 : decode cX6_fall 49 = .ok (.ireturn, 1) := by decide +kernel
theorem dX6_fall_50 : decode cX6_fall 50 = .ok (.iconst 1, 1) := by decide +kernel
theorem dX6_fall_51 : decode cX6_fall 51 = .ok (.iload_n 1, 1) := by decide +kernel
theorem dX6_fall_52 : decode cX6_fall 52 = .ok (.iconst (-1), 1) := by decide +kernel
theorem dX6_fall_53 : decode cX6_fall 53 = .ok (.if_icmp .ne 12, 3) := by decide +kernel
theorem dX6_fall_56 : decode cX6_fall 56 = .ok (.aload_n 0, 1) := by decide +kernel
theorem dX6_fall_57 : decode cX6_fall 57 = .ok (.getfield 7, 3) := by decide +kernel
theorem dX6_fall_60 : decode cX6_fall 60 = .ok (.iconst 4, 1) := by decide +kernel
theorem dX6_fall_61 : decode cX6_fall 61 = .ok (.iaload, 1) := by decide +kernel
theorem dX6_fall_62 : decode cX6_fall 62 = .ok (.goto 4, 3) := by decide +kernel
theorem dX6_fall_65 : decode cX6_fall 65 = .ok (.iload_n 1, 1) := by decide +kernel
theorem dX6_fall_66 : decode cX6_fall 66 = .ok (.isub, 1) := by decide +kernel
theorem dX6_fall_67 : decode cX6_fall 67 = .ok (.istore_n 3, 1) := by decide +kernel
theorem dX6_fall_68 : decode cX6_fall 68 = .ok (.aload_n 0, 1) := by decide +kernel
theorem dX6_fall_69 : decode cX6_fall 69 = .ok (.iload_n 3, 1) := by decide +kernel
theorem dX6_fall_70 : decode cX6_fall 70 = .ok (.iload_n 1, 1) := by decide +kernel
theorem dX6_fall_71 : decode cX6_fall 71 = .ok (.iconst (-1), 1) := by decide +kernel
theorem dX6_fall_72 : decode cX6_fall 72 = .ok (.if_icmp .ne 8, 3) := by decide +kernel
theorem dX6_fall_75 : decode cX6_fall 75 = .ok (.bipush 7, 2) := by decide +kernel
theorem dX6_fall_77 : decode cX6_fall 77 = .ok (.goto 5, 3) := by decide +kernel
theorem dX6_fall_80 : decode cX6_fall 80 = .ok (.bipush 6, 2) := by decide +kernel
theorem dX6_fall_82 : decode cX6_fall 82 = .ok (.invokevirtual 66, 3) := by decide +kernel
theorem dX6_fall_85 : decode cX6_fall 85 = .ok (.iload_n 3, 1) := by decide +kernel
theorem dX6_fall_86 : decode cX6_fall 86 = .ok (.ireturn, 1) := by decide +kernel
theorem dX6_net_0 : decode cX6_net 0 = .ok (.aload_n 0, 1) := by decide +kernel
theorem dX6_net_1 : decode cX6_net 1 = .ok (.iload_n 1, 1) := by decide +kernel
theorem dX6_net_2 : decode cX6_net 2 = .ok (.invokestatic 28, 3) := by decide +kernel
theorem dX6_net_5 : decode cX6_net 5 = .ok (.ifCond .ne 7, 3) := by decide +kernel
theorem dX6_net_8 : decode cX6_net 8 = .ok (.iconst 1, 1) := by decide +kernel
theorem dX6_net_9 : decode cX6_net 9 = .ok (.goto 18, 3) := by decide +kernel
theorem dX6_net_12 : decode cX6_net 12 = .ok (.aload_n 0, 1) := by decide +kernel
theorem dX6_net_13 : decode cX6_net 13 = .ok (.getfield 7, 3) := by decide +kernel
theorem dX6_net_16 : decode cX6_net 16 = .ok (.iconst 1, 1) := by decide +kernel
theorem dX6_net_17 : decode cX6_net 17 = .ok (.iaload, 1) := by decide +kernel
theorem dX6_net_18 : decode cX6_net 18 = .ok (.iconst 1, 1) := by decide +kernel
theorem dX6_net_19 : decode cX6_net 19 = .ok (.if_icmp .ne 7, 3) := by decide +kernel
theorem dX6_net_22 : decode cX6_net 22 = .ok (.iconst 0, 1) := by decide +kernel
theorem dX6_net_23 : decode cX6_net 23 = .ok (.goto 4, 3) := by decide +kernel
theorem dX6_net_26 : decode cX6_net 26 = .ok (.iconst 2, 1) := by decide +kernel
theorem dX6_net_27 : decode cX6_net 27 = .ok (.invokevirtual 39, 3) := by decide +kernel
theorem dX6_net_30 : decode cX6_net 30 = .ok (.ifCond .ne 5, 3) := by decide +kernel
theorem dX6_net_33 : decode cX6_net 33 = .ok (.iconst 0, 1) := by decide +kernel
theorem dX6_net_34 : decode cX6_net 34 = .ok (.ireturn, 1) := by decide +kernel
theorem dX6_net_35 : decode cX6_net 35 = .ok (.iload_n 2, 1) := by decide +kernel
theorem dX6_net_36 : decode cX6_net 36 = .ok (.ifCond .eq 15, 3) := by decide +kernel
theorem dX6_net_39 : decode cX6_net 39 = .ok (.aload_n 0, 1) := by decide +kernel
theorem dX6_net_40 : decode cX6_net 40 = .ok (.iconst 1, 1) := by decide +kernel
theorem dX6_net_41 : decode cX6_net 41 = .ok (.iload_n 1, 1) := by decide +kernel
theorem dX6_net_42 : decode cX6_net 42 = .ok (.isub, 1) := by decide +kernel
theorem dX6_net_43 : decode cX6_net 43 = .ok (.bipush 8, 2) := by decide +kernel
theorem dX6_net_45 : decode cX6_net 45 = .ok (.invokevirtual 66, 3) := by decide +kernel
theorem dX6_net_48 : decode cX6_net 48 = .ok (.goto 13, 3) := by decide +kernel
theorem dX6_net_51 : decode cX6_net 51 = .ok (.aload_n 0, 1) := by decide +kernel
theorem dX6_net_52 : decode cX6_net 52 = .ok (.getfield 7, 3) := by decide +kernel
theorem dX6_net_55 : decode cX6_net 55 = .ok (.bipush 38, 2) := by decide +kernel
theorem dX6_net_57 : decode cX6_net 57 = .ok (.iload_n 1, 1) := by decide +kernel
theorem dX6_net_58 : decode cX6_net 58 = .ok (.iadd, 1) := by decide +kernel
theorem dX6_net_59 : decode cX6_net 59 = .ok (.iconst 1, 1) := by decide +kernel
theorem dX6_net_60 : decode cX6_net 60 = .ok (.iastore, 1) := by decide +kernel
theorem dX6_net_61 : decode cX6_net 61 = .ok (.iload_n 2, 1) := by decide +kernel
theorem dX6_net_62 : decode cX6_net 62 = .ok (.ireturn, 1) := by decide +kernel
theorem dX6_find_0 : decode cX6_find 0 = .ok (.aload_n 0, 1) := by decide +kernel
theorem dX6_find_1 : decode cX6_find 1 = .ok (.getfield 7, 3) := by decide +kernel
theorem dX6_find_4 : decode cX6_find 4 = .ok (.iconst 0, 1) := by decide +kernel
theorem dX6_find_5 : decode cX6_find 5 = .ok (.iaload, 1) := by decide +kernel
theorem dX6_find_6 : decode cX6_find 6 = .ok (.iconst 1, 1) := by decide +kernel
theorem dX6_find_7 : decode cX6_find 7 = .ok (.if_icmp .ne 27, 3) := by decide +kernel
theorem dX6_find_10 : decode cX6_find 10 = .ok (.aload_n 0, 1) := by decide +kernel
theorem dX6_find_11 : decode cX6_find 11 = .ok (.getfield 7, 3) := by decide +kernel
theorem dX6_find_14 : decode cX6_find 14 = .ok (.iconst 1, 1) := by decide +kernel
theorem dX6_find_15 : decode cX6_find 15 = .ok (.iaload, 1) := by decide +kernel
theorem dX6_find_16 : decode cX6_find 16 = .ok (.ifCond .ne 18, 3) := by decide +kernel
theorem dX6_find_19 : decode cX6_find 19 = .ok (.aload_n 0, 1) := by decide +kernel
theorem dX6_find_20 : decode cX6_find 20 = .ok (.getfield 7, 3) := by decide +kernel
theorem dX6_find_23 : decode cX6_find 23 = .ok (.bipush 9, 2) := by decide +kernel
theorem dX6_find_25 : decode cX6_find 25 = .ok (.iaload, 1) := by decide +kernel
theorem dX6_find_26 : decode cX6_find 26 = .ok (.iconst (-1), 1) := by decide +kernel
theorem dX6_find_27 : decode cX6_find 27 = .ok (.if_icmp .eq 7, 3) := by decide +kernel
theorem dX6_find_30 : decode cX6_find 30 = .ok (.iconst 1, 1) := by decide +kernel
theorem dX6_find_31 : decode cX6_find 31 = .ok (.goto 4, 3) := by decide +kernel
theorem dX6_find_34 : decode cX6_find 34 = .ok (.iconst 0, 1) := by decide +kernel
theorem dX6_find_35 : decode cX6_find 35 = .ok (.istore_n 1, 1) := by decide +kernel
theorem dX6_find_36 : decode cX6_find 36 = .ok (.aload_n 0, 1) := by decide +kernel
theorem dX6_find_37 : decode cX6_find 37 = .ok (.iload_n 1, 1) := by decide +kernel
theorem dX6_find_38 : decode cX6_find 38 = .ok (.ifCond .eq 7, 3) := by decide +kernel
theorem dX6_find_41 : decode cX6_find 41 = .ok (.iconst 0, 1) := by decide +kernel
theorem dX6_find_42 : decode cX6_find 42 = .ok (.goto 4, 3) := by decide +kernel
theorem dX6_find_45 : decode cX6_find 45 = .ok (.iconst 1, 1) := by decide +kernel
theorem dX6_find_46 : decode cX6_find 46 = .ok (.invokevirtual 39, 3) := by decide +kernel
theorem dX6_find_49 : decode cX6_find 49 = .ok (.ifCond .ne 5, 3) := by decide +kernel
theorem dX6_find_52 : decode cX6_find 52 = .ok (.iconst 0, 1) := by decide +kernel
theorem dX6_find_53 : decode cX6_find 53 = .ok (.ireturn, 1) := by decide +kernel
theorem dX6_find_54 : decode cX6_find 54 = .ok (.aload_n 0, 1) := by decide +kernel
theorem dX6_find_55 : decode cX6_find 55 = .ok (.getfield 7, 3) := by decide +kernel
theorem dX6_find_58 : decode cX6_find 58 = .ok (.bipush 41, 2) := by decide +kernel
theorem dX6_find_60 : decode cX6_find 60 = .ok (.iconst 0, 1) := by decide +kernel
theorem dX6_find_61 : decode cX6_find 61 = .ok (.iastore, 1) := by decide +kernel
theorem dX6_find_62 : decode cX6_find 62 = .ok (.aload_n 0, 1) := by decide +kernel
theorem dX6_find_63 : decode cX6_find 63 = .ok (.getfield 7, 3) := by decide +kernel
theorem dX6_find_66 : decode cX6_find 66 = .ok (.iconst 2, 1) := by decide +kernel
theorem dX6_find_67 : decode cX6_find 67 = .ok (.iaload, 1) := by decide +kernel
theorem dX6_find_68 : decode cX6_find 68 = .ok (.istore_n 2, 1) := by decide +kernel
theorem dX6_find_69 : decode cX6_find 69 = .ok (.aload_n 0, 1) := by decide +kernel
theorem dX6_find_70 : decode cX6_find 70 = .ok (.getfield 7, 3) := by decide +kernel
theorem dX6_find_73 : decode cX6_find 73 = .ok (.bipush 10, 2) := by decide +kernel
theorem dX6_find_75 : decode cX6_find 75 = .ok (.iload_n 2, 1) := by decide +kernel
theorem dX6_find_76 : decode cX6_find 76 = .ok (.iadd, 1) := by decide +kernel
theorem dX6_find_77 : decode cX6_find 77 = .ok (.iaload, 1) := by decide +kernel
theorem dX6_find_78 : decode cX6_find 78 = .ok (.aload_n 0, 1) := by decide +kernel
theorem dX6_find_79 : decode cX6_find 79 = .ok (.getfield 7, 3) := by decide +kernel
theorem dX6_find_82 : decode cX6_find 82 = .ok (.bipush 9, 2) := by decide +kernel
theorem dX6_find_84 : decode cX6_find 84 = .ok (.iaload, 1) := by decide +kernel
theorem dX6_find_85 : decode cX6_find 85 = .ok (.isub, 1) := by decide +kernel
theorem dX6_find_86 : decode cX6_find 86 = .ok (.istore_n 3, 1) := by decide +kernel
theorem dX6_find_87 : decode cX6_find 87 = .ok (.aload_n 0, 1) := by decide +kernel
theorem dX6_find_88 : decode cX6_find 88 = .ok (.getfield 7, 3) := by decide +kernel
theorem dX6_find_91 : decode cX6_find 91 = .ok (.bipush 10, 2) := by decide +kernel
theorem dX6_find_93 : decode cX6_find 93 = .ok (.iload_n 2, 1) := by decide +kernel
theorem dX6_find_94 : decode cX6_find 94 = .ok (.iadd, 1) := by decide +kernel
theorem dX6_find_95 : decode cX6_find 95 = .ok (.dup2, 1) := by decide +kernel
theorem dX6_find_96 : decode cX6_find 96 = .ok (.iaload, 1) := by decide +kernel
theorem dX6_find_97 : decode cX6_find 97 = .ok (.iload_n 3, 1) := by decide +kernel
theorem dX6_find_98 : decode cX6_find 98 = .ok (.isub, 1) := by decide +kernel
theorem dX6_find_99 : decode cX6_find 99 = .ok (.iastore, 1) := by decide +kernel
theorem dX6_find_100 : decode cX6_find 100 = .ok (.aload_n 0, 1) := by decide +kernel
theorem dX6_find_101 : decode cX6_find 101 = .ok (.getfield 7, 3) := by decide +kernel
theorem dX6_find_104 : decode cX6_find 104 = .ok (.iconst 3, 1) := by decide +kernel
theorem dX6_find_105 : decode cX6_find 105 = .ok (.bipush 9, 2) := by decide +kernel
theorem dX6_find_107 : decode cX6_find 107 = .ok (.iastore, 1) := by decide +kernel
theorem dX6_find_108 : decode cX6_find 108 = .ok (.aload_n 0, 1) := by decide +kernel
theorem dX6_find_109 : decode cX6_find 109 = .ok (.iconst 1, 1) := by decide +kernel
theorem dX6_find_110 : decode cX6_find 110 = .ok (.iload_n 2, 1) := by decide +kernel
theorem dX6_find_111 : decode cX6_find 111 = .ok (.isub, 1) := by decide +kernel
theorem dX6_find_112 : decode cX6_find 112 = .ok (.invokevirtual 52, 3) := by decide +kernel
theorem dX6_find_115 : decode cX6_find 115 = .ok (.iload_n 3, 1) := by decide +kernel
theorem dX6_find_116 : decode cX6_find 116 = .ok (.ireturn, 1) := by decide +kernel
theorem dX6_exchange_0 : decode cX6_exchange 0 = .ok (.iload_n 1, 1) := by decide +kernel
theorem dX6_exchange_1 : decode cX6_exchange 1 = .ok (.invokestatic 28, 3) := by decide +kernel
theorem dX6_exchange_4 : decode cX6_exchange 4 = .ok (.ifCond .eq 14, 3) := by decide +kernel
theorem dX6_exchange_7 : decode cX6_exchange 7 = .ok (.iload_n 2, 1) := by decide +kernel
theorem dX6_exchange_8 : decode cX6_exchange 8 = .ok (.invokestatic 32, 3) := by decide +kernel
theorem dX6_exchange_11 : decode cX6_exchange 11 = .ok (.ifCond .eq 7, 3) := by decide +kernel
theorem dX6_exchange_14 : decode cX6_exchange 14 = .ok (.iconst 1, 1) := by decide +kernel
theorem dX6_exchange_15 : decode cX6_exchange 15 = .ok (.goto 4, 3) := by decide +kernel
theorem dX6_exchange_18 : decode cX6_exchange 18 = .ok (.iconst 0, 1) := by decide +kernel
theorem dX6_exchange_19 : decode cX6_exchange 19 = .ok (.istore_n 3, 1) := by decide +kernel
theorem dX6_exchange_20 : decode cX6_exchange 20 = .ok (.iload_n 3, 1) := by decide +kernel
theorem dX6_exchange_21 : decode cX6_exchange 21 = .ok (.ifCond .eq 51, 3) := by decide +kernel
theorem dX6_exchange_24 : decode cX6_exchange 24 = .ok (.aload_n 0, 1) := by decide +kernel
theorem dX6_exchange_25 : decode cX6_exchange 25 = .ok (.getfield 7, 3) := by decide +kernel
theorem dX6_exchange_28 : decode cX6_exchange 28 = .ok (.iconst 0, 1) := by decide +kernel
theorem dX6_exchange_29 : decode cX6_exchange 29 = .ok (.iaload, 1) := by decide +kernel
theorem dX6_exchange_30 : decode cX6_exchange 30 = .ok (.iconst 1, 1) := by decide +kernel
theorem dX6_exchange_31 : decode cX6_exchange 31 = .ok (.if_icmp .ne 41, 3) := by decide +kernel
theorem dX6_exchange_34 : decode cX6_exchange 34 = .ok (.aload_n 0, 1) := by decide +kernel
theorem dX6_exchange_35 : decode cX6_exchange 35 = .ok (.getfield 7, 3) := by decide +kernel
theorem dX6_exchange_38 : decode cX6_exchange 38 = .ok (.iconst 1, 1) := by decide +kernel
theorem dX6_exchange_39 : decode cX6_exchange 39 = .ok (.iaload, 1) := by decide +kernel
theorem dX6_exchange_40 : decode cX6_exchange 40 = .ok (.ifCond .ne 32, 3) := by decide +kernel
theorem dX6_exchange_43 : decode cX6_exchange 43 = .ok (.aload_n 0, 1) := by decide +kernel
theorem dX6_exchange_44 : decode cX6_exchange 44 = .ok (.getfield 7, 3) := by decide +kernel
theorem dX6_exchange_47 : decode cX6_exchange 47 = .ok (.bipush 30, 2) := by decide +kernel
theorem dX6_exchange_49 : decode cX6_exchange 49 = .ok (.iload_n 1, 1) := by decide +kernel
theorem dX6_exchange_50 : decode cX6_exchange 50 = .ok (.iadd, 1) := by decide +kernel
theorem dX6_exchange_51 : decode cX6_exchange 51 = .ok (.iaload, 1) := by decide +kernel
theorem dX6_exchange_52 : decode cX6_exchange 52 = .ok (.ifCond .ne 20, 3) := by decide +kernel
theorem dX6_exchange_55 : decode cX6_exchange 55 = .ok (.aload_n 0, 1) := by decide +kernel
theorem dX6_exchange_56 : decode cX6_exchange 56 = .ok (.getfield 7, 3) := by decide +kernel
theorem dX6_exchange_59 : decode cX6_exchange 59 = .ok (.bipush 26, 2) := by decide +kernel
theorem dX6_exchange_61 : decode cX6_exchange 61 = .ok (.iload_n 1, 1) := by decide +kernel
theorem dX6_exchange_62 : decode cX6_exchange 62 = .ok (.iadd, 1) := by decide +kernel
theorem dX6_exchange_63 : decode cX6_exchange 63 = .ok (.iaload, 1) := by decide +kernel
theorem dX6_exchange_64 : decode cX6_exchange 64 = .ok (.iconst (-1), 1) := by decide +kernel
theorem dX6_exchange_65 : decode cX6_exchange 65 = .ok (.if_icmp .eq 7, 3) := by decide +kernel
theorem dX6_exchange_68 : decode cX6_exchange 68 = .ok (.iconst 1, 1) := by decide +kernel
theorem dX6_exchange_69 : decode cX6_exchange 69 = .ok (.goto 4, 3) := by decide +kernel
theorem dX6_exchange_72 : decode cX6_exchange 72 = .ok (.iconst 0, 1) := by decide +kernel
theorem dX6_exchange_73 : decode cX6_exchange 73 = .ok (.istore 4, 2) := by decide +kernel
theorem dX6_exchange_75 : decode cX6_exchange 75 = .ok (.iload_n 3, 1) := by decide +kernel
theorem dX6_exchange_76 : decode cX6_exchange 76 = .ok (.ifCond .eq 20, 3) := by decide +kernel
theorem dX6_exchange_79 : decode cX6_exchange 79 = .ok (.aload_n 0, 1) := by decide +kernel
theorem dX6_exchange_80 : decode cX6_exchange 80 = .ok (.getfield 7, 3) := by decide +kernel
theorem dX6_exchange_83 : decode cX6_exchange 83 = .ok (.bipush 28, 2) := by decide +kernel
theorem dX6_exchange_85 : decode cX6_exchange 85 = .ok (.iload_n 1, 1) := by decide +kernel
theorem dX6_exchange_86 : decode cX6_exchange 86 = .ok (.iadd, 1) := by decide +kernel
theorem dX6_exchange_87 : decode cX6_exchange 87 = .ok (.iaload, 1) := by decide +kernel
theorem dX6_exchange_88 : decode cX6_exchange 88 = .ok (.iconst (-1), 1) := by decide +kernel
theorem dX6_exchange_89 : decode cX6_exchange 89 = .ok (.if_icmp .eq 7, 3) := by decide +kernel
theorem dX6_exchange_92 : decode cX6_exchange 92 = .ok (.iconst 1, 1) := by decide +kernel
theorem dX6_exchange_93 : decode cX6_exchange 93 = .ok (.goto 4, 3) := by decide +kernel
theorem dX6_exchange_96 : decode cX6_exchange 96 = .ok (.iconst 0, 1) := by decide +kernel
theorem dX6_exchange_97 : decode cX6_exchange 97 = .ok (.istore 5, 2) := by decide +kernel
theorem dX6_exchange_99 : decode cX6_exchange 99 = .ok (.iload 4, 2) := by decide +kernel
theorem dX6_exchange_101 : decode cX6_exchange 101 = .ok (.ifCond .eq 40, 3) := by decide +kernel
theorem dX6_exchange_104 : decode cX6_exchange 104 = .ok (.iload 5, 2) := by decide +kernel
theorem dX6_exchange_106 : decode cX6_exchange 106 = .ok (.ifCond .eq 19, 3) := by decide +kernel
theorem dX6_exchange_109 : decode cX6_exchange 109 = .ok (.iload_n 2, 1) := by decide +kernel
theorem dX6_exchange_110 : decode cX6_exchange 110 = .ok (.aload_n 0, 1) := by decide +kernel
theorem dX6_exchange_111 : decode cX6_exchange 111 = .ok (.getfield 7, 3) := by decide +kernel
theorem dX6_exchange_114 : decode cX6_exchange 114 = .ok (.bipush 28, 2) := by decide +kernel
theorem dX6_exchange_116 : decode cX6_exchange 116 = .ok (.iload_n 1, 1) := by decide +kernel
theorem dX6_exchange_117 : decode cX6_exchange 117 = .ok (.iadd, 1) := by decide +kernel
theorem dX6_exchange_118 : decode cX6_exchange 118 = .ok (.iaload, 1) := by decide +kernel
theorem dX6_exchange_119 : decode cX6_exchange 119 = .ok (.if_icmp .ne 22, 3) := by decide +kernel
theorem dX6_exchange_122 : decode cX6_exchange 122 = .ok (.goto 15, 3) := by decide +kernel
theorem dX6_exchange_125 : decode cX6_exchange 125 = .ok (.aload_n 0, 1) := by decide +kernel
theorem dX6_exchange_126 : decode cX6_exchange 126 = .ok (.iload_n 1, 1) := by decide +kernel
theorem dX6_exchange_127 : decode cX6_exchange 127 = .ok (.iload_n 2, 1) := by decide +kernel
theorem dX6_exchange_128 : decode cX6_exchange 128 = .ok (.invokevirtual 42, 3) := by decide +kernel
theorem dX6_exchange_131 : decode cX6_exchange 131 = .ok (.invokestatic 59, 3) := by decide +kernel
theorem dX6_exchange_134 : decode cX6_exchange 134 = .ok (.ifCond .eq 7, 3) := by decide +kernel
theorem dX6_exchange_137 : decode cX6_exchange 137 = .ok (.iconst 1, 1) := by decide +kernel
theorem dX6_exchange_138 : decode cX6_exchange 138 = .ok (.goto 4, 3) := by decide +kernel
theorem dX6_exchange_141 : decode cX6_exchange 141 = .ok (.iconst 0, 1) := by decide +kernel
theorem dX6_exchange_142 : decode cX6_exchange 142 = .ok (.istore 6, 2) := by decide +kernel
theorem dX6_exchange_144 : decode cX6_exchange 144 = .ok (.aload_n 0, 1) := by decide +kernel
theorem dX6_exchange_145 : decode cX6_exchange 145 = .ok (.iload_n 3, 1) := by decide +kernel
theorem dX6_exchange_146 : decode cX6_exchange 146 = .ok (.ifCond .ne 7, 3) := by decide +kernel
theorem dX6_exchange_149 : decode cX6_exchange 149 = .ok (.iconst 1, 1) := by decide +kernel
theorem dX6_exchange_150 : decode cX6_exchange 150 = .ok (.goto 13, 3) := by decide +kernel
theorem dX6_exchange_153 : decode cX6_exchange 153 = .ok (.iload 6, 2) := by decide +kernel
theorem dX6_exchange_155 : decode cX6_exchange 155 = .ok (.ifCond .eq 7, 3) := by decide +kernel
theorem dX6_exchange_158 : decode cX6_exchange 158 = .ok (.iconst 0, 1) := by decide +kernel
theorem dX6_exchange_159 : decode cX6_exchange 159 = .ok (.goto 4, 3) := by decide +kernel
theorem dX6_exchange_162 : decode cX6_exchange 162 = .ok (.iconst 2, 1) := by decide +kernel
theorem dX6_exchange_163 : decode cX6_exchange 163 = .ok (.invokevirtual 39, 3) := by decide +kernel
theorem dX6_exchange_166 : decode cX6_exchange 166 = .ok (.ifCond .ne 5, 3) := by decide +kernel
theorem dX6_exchange_169 : decode cX6_exchange 169 = .ok (.iconst 0, 1) := by decide +kernel
theorem dX6_exchange_170 : decode cX6_exchange 170 = .ok (.ireturn, 1) := by decide +kernel
theorem dX6_exchange_171 : decode cX6_exchange 171 = .ok (.aload_n 0, 1) := by decide +kernel
theorem dX6_exchange_172 : decode cX6_exchange 172 = .ok (.getfield 7, 3) := by decide +kernel
theorem dX6_exchange_175 : decode cX6_exchange 175 = .ok (.bipush 41, 2) := by decide +kernel
theorem dX6_exchange_177 : decode cX6_exchange 177 = .ok (.iconst 0, 1) := by decide +kernel
theorem dX6_exchange_178 : decode cX6_exchange 178 = .ok (.iastore, 1) := by decide +kernel
theorem dX6_exchange_179 : decode cX6_exchange 179 = .ok (.aload_n 0, 1) := by decide +kernel
theorem dX6_exchange_180 : decode cX6_exchange 180 = .ok (.getfield 7, 3) := by decide +kernel
theorem dX6_exchange_183 : decode cX6_exchange 183 = .ok (.bipush 30, 2) := by decide +kernel
theorem dX6_exchange_185 : decode cX6_exchange 185 = .ok (.iload_n 1, 1) := by decide +kernel
theorem dX6_exchange_186 : decode cX6_exchange 186 = .ok (.iadd, 1) := by decide +kernel
theorem dX6_exchange_187 : decode cX6_exchange 187 = .ok (.iconst 1, 1) := by decide +kernel
theorem dX6_exchange_188 : decode cX6_exchange 188 = .ok (.iastore, 1) := by decide +kernel
theorem dX6_exchange_189 : decode cX6_exchange 189 = .ok (.aload_n 0, 1) := by decide +kernel
theorem dX6_exchange_190 : decode cX6_exchange 190 = .ok (.getfield 7, 3) := by decide +kernel
theorem dX6_exchange_193 : decode cX6_exchange 193 = .ok (.bipush 26, 2) := by decide +kernel
theorem dX6_exchange_195 : decode cX6_exchange 195 = .ok (.iload_n 1, 1) := by decide +kernel
theorem dX6_exchange_196 : decode cX6_exchange 196 = .ok (.iadd, 1) := by decide +kernel
theorem dX6_exchange_197 : decode cX6_exchange 197 = .ok (.iaload, 1) := by decide +kernel
theorem dX6_exchange_198 : decode cX6_exchange 198 = .ok (.istore 7, 2) := by decide +kernel
theorem dX6_exchange_200 : decode cX6_exchange 200 = .ok (.iload 5, 2) := by decide +kernel
theorem dX6_exchange_202 : decode cX6_exchange 202 = .ok (.ifCond .eq 33, 3) := by decide +kernel
theorem dX6_exchange_205 : decode cX6_exchange 205 = .ok (.aload_n 0, 1) := by decide +kernel
theorem dX6_exchange_206 : decode cX6_exchange 206 = .ok (.getfield 7, 3) := by decide +kernel
theorem dX6_exchange_209 : decode cX6_exchange 209 = .ok (.iload_n 1, 1) := by decide +kernel
theorem dX6_exchange_210 : decode cX6_exchange 210 = .ok (.aload_n 0, 1) := by decide +kernel
theorem dX6_exchange_211 : decode cX6_exchange 211 = .ok (.iload_n 1, 1) := by decide +kernel
theorem dX6_exchange_212 : decode cX6_exchange 212 = .ok (.iload 7, 2) := by decide +kernel
theorem dX6_exchange_214 : decode cX6_exchange 214 = .ok (.invokevirtual 42, 3) := by decide +kernel
theorem dX6_exchange_217 : decode cX6_exchange 217 = .ok (.invokestatic 24, 3) := by decide +kernel
theorem dX6_exchange_220 : decode cX6_exchange 220 = .ok (.iload_n 2, 1) := by decide +kernel
theorem dX6_exchange_221 : decode cX6_exchange 221 = .ok (.iastore, 1) := by decide +kernel
theorem dX6_exchange_222 : decode cX6_exchange 222 = .ok (.aload_n 0, 1) := by decide +kernel
theorem dX6_exchange_223 : decode cX6_exchange 223 = .ok (.getfield 7, 3) := by decide +kernel
theorem dX6_exchange_226 : decode cX6_exchange 226 = .ok (.bipush 28, 2) := by decide +kernel
theorem dX6_exchange_228 : decode cX6_exchange 228 = .ok (.iload_n 1, 1) := by decide +kernel
theorem dX6_exchange_229 : decode cX6_exchange 229 = .ok (.iadd, 1) := by decide +kernel
theorem dX6_exchange_230 : decode cX6_exchange 230 = .ok (.iconst (-1), 1) := by decide +kernel
theorem dX6_exchange_231 : decode cX6_exchange 231 = .ok (.iastore, 1) := by decide +kernel
theorem dX6_exchange_232 : decode cX6_exchange 232 = .ok (.goto 30, 3) := by decide +kernel
theorem dX6_exchange_235 : decode cX6_exchange 235 = .ok (.aload_n 0, 1) := by decide +kernel
theorem dX6_exchange_236 : decode cX6_exchange 236 = .ok (.getfield 7, 3) := by decide +kernel
theorem dX6_exchange_239 : decode cX6_exchange 239 = .ok (.iload_n 1, 1) := by decide +kernel
theorem dX6_exchange_240 : decode cX6_exchange 240 = .ok (.aload_n 0, 1) := by decide +kernel
theorem dX6_exchange_241 : decode cX6_exchange 241 = .ok (.iload_n 1, 1) := by decide +kernel
theorem dX6_exchange_242 : decode cX6_exchange 242 = .ok (.iload_n 2, 1) := by decide +kernel
theorem dX6_exchange_243 : decode cX6_exchange 243 = .ok (.invokevirtual 42, 3) := by decide +kernel
theorem dX6_exchange_246 : decode cX6_exchange 246 = .ok (.invokestatic 24, 3) := by decide +kernel
theorem dX6_exchange_249 : decode cX6_exchange 249 = .ok (.iload 7, 2) := by decide +kernel
theorem dX6_exchange_251 : decode cX6_exchange 251 = .ok (.iastore, 1) := by decide +kernel
theorem dX6_exchange_252 : decode cX6_exchange 252 = .ok (.aload_n 0, 1) := by decide +kernel
theorem dX6_exchange_253 : decode cX6_exchange 253 = .ok (.getfield 7, 3) := by decide +kernel
theorem dX6_exchange_256 : decode cX6_exchange 256 = .ok (.bipush 28, 2) := by decide +kernel
theorem dX6_exchange_258 : decode cX6_exchange 258 = .ok (.iload_n 1, 1) := by decide +kernel
theorem dX6_exchange_259 : decode cX6_exchange 259 = .ok (.iadd, 1) := by decide +kernel
theorem dX6_exchange_260 : decode cX6_exchange 260 = .ok (.iload_n 2, 1) := by decide +kernel
theorem dX6_exchange_261 : decode cX6_exchange 261 = .ok (.iastore, 1) := by decide +kernel
theorem dX6_exchange_262 : decode cX6_exchange 262 = .ok (.iload 5, 2) := by decide +kernel
theorem dX6_exchange_264 : decode cX6_exchange 264 = .ok (.ifCond .ne 7, 3) := by decide +kernel
theorem dX6_exchange_267 : decode cX6_exchange 267 = .ok (.iconst 1, 1) := by decide +kernel
theorem dX6_exchange_268 : decode cX6_exchange 268 = .ok (.goto 4, 3) := by decide +kernel
theorem dX6_exchange_271 : decode cX6_exchange 271 = .ok (.iconst 0, 1) := by decide +kernel
theorem dX6_exchange_272 : decode cX6_exchange 272 = .ok (.ireturn, 1) := by decide +kernel
theorem dX6_pair_0 : decode cX6_pair 0 = .ok (.iconst (-1), 1) := by decide +kernel
theorem dX6_pair_1 : decode cX6_pair 1 = .ok (.istore_n 3, 1) := by decide +kernel
theorem dX6_pair_2 : decode cX6_pair 2 = .ok (.iconst 0, 1) := by decide +kernel
theorem dX6_pair_3 : decode cX6_pair 3 = .ok (.istore 4, 2) := by decide +kernel
theorem dX6_pair_5 : decode cX6_pair 5 = .ok (.iload 4, 2) := by decide +kernel
theorem dX6_pair_7 : decode cX6_pair 7 = .ok (.aload_n 0, 1) := by decide +kernel
theorem dX6_pair_8 : decode cX6_pair 8 = .ok (.getfield 7, 3) := by decide +kernel
theorem dX6_pair_11 : decode cX6_pair 11 = .ok (.bipush 78, 2) := by decide +kernel
theorem dX6_pair_13 : decode cX6_pair 13 = .ok (.iload_n 1, 1) := by decide +kernel
theorem dX6_pair_14 : decode cX6_pair 14 = .ok (.iadd, 1) := by decide +kernel
theorem dX6_pair_15 : decode cX6_pair 15 = .ok (.iaload, 1) := by decide +kernel
theorem dX6_pair_16 : decode cX6_pair 16 = .ok (.if_icmp .ge 54, 3) := by decide +kernel
theorem dX6_pair_19 : decode cX6_pair 19 = .ok (.bipush 42, 2) := by decide +kernel
theorem dX6_pair_21 : decode cX6_pair 21 = .ok (.bipush 18, 2) := by decide +kernel
theorem dX6_pair_23 : decode cX6_pair 23 = .ok (.iload_n 1, 1) := by decide +kernel
theorem dX6_pair_24 : decode cX6_pair 24 = .ok (.imul, 1) := by decide +kernel
theorem dX6_pair_25 : decode cX6_pair 25 = .ok (.iadd, 1) := by decide +kernel
theorem dX6_pair_26 : decode cX6_pair 26 = .ok (.iconst 3, 1) := by decide +kernel
theorem dX6_pair_27 : decode cX6_pair 27 = .ok (.iload 4, 2) := by decide +kernel
theorem dX6_pair_29 : decode cX6_pair 29 = .ok (.imul, 1) := by decide +kernel
theorem dX6_pair_30 : decode cX6_pair 30 = .ok (.iadd, 1) := by decide +kernel
theorem dX6_pair_31 : decode cX6_pair 31 = .ok (.istore 5, 2) := by decide +kernel
theorem dX6_pair_33 : decode cX6_pair 33 = .ok (.aload_n 0, 1) := by decide +kernel
theorem dX6_pair_34 : decode cX6_pair 34 = .ok (.getfield 7, 3) := by decide +kernel
theorem dX6_pair_37 : decode cX6_pair 37 = .ok (.iload 5, 2) := by decide +kernel
theorem dX6_pair_39 : decode cX6_pair 39 = .ok (.iaload, 1) := by decide +kernel
theorem dX6_pair_40 : decode cX6_pair 40 = .ok (.iload_n 2, 1) := by decide +kernel
theorem dX6_pair_41 : decode cX6_pair 41 = .ok (.if_icmp .eq 16, 3) := by decide +kernel
theorem dX6_pair_44 : decode cX6_pair 44 = .ok (.aload_n 0, 1) := by decide +kernel
theorem dX6_pair_45 : decode cX6_pair 45 = .ok (.getfield 7, 3) := by decide +kernel
theorem dX6_pair_48 : decode cX6_pair 48 = .ok (.iload 5, 2) := by decide +kernel
theorem dX6_pair_50 : decode cX6_pair 50 = .ok (.iconst 1, 1) := by decide +kernel
theorem dX6_pair_51 : decode cX6_pair 51 = .ok (.iadd, 1) := by decide +kernel
theorem dX6_pair_52 : decode cX6_pair 52 = .ok (.iaload, 1) := by decide +kernel
theorem dX6_pair_53 : decode cX6_pair 53 = .ok (.iload_n 2, 1) := by decide +kernel
theorem dX6_pair_54 : decode cX6_pair 54 = .ok (.if_icmp .ne 8, 3) := by decide +kernel
theorem dX6_pair_57 : decode cX6_pair 57 = .ok (.iload 5, 2) := by decide +kernel
theorem dX6_pair_59 : decode cX6_pair 59 = .ok (.goto 4, 3) := by decide +kernel
theorem dX6_pair_62 : decode cX6_pair 62 = .ok (.iload_n 3, 1) := by decide +kernel
theorem dX6_pair_63 : decode cX6_pair 63 = .ok (.istore_n 3, 1) := by decide +kernel
theorem dX6_pair_64 : decode cX6_pair 64 = .ok (.iinc 4 1, 3) := by decide +kernel
theorem dX6_pair_67 : decode cX6_pair 67 = .ok (.goto (-62), 3) := by decide +kernel
theorem dX6_pair_70 : decode cX6_pair 70 = .ok (.iload_n 3, 1) := by decide +kernel
theorem dX6_pair_71 : decode cX6_pair 71 = .ok (.ireturn, 1) := by decide +kernel
theorem dX6_substitute_0 : decode cX6_substitute 0 = .ok (.iload_n 1, 1) := by decide +kernel
theorem dX6_substitute_1 : decode cX6_substitute 1 = .ok (.invokestatic 28, 3) := by decide +kernel
theorem dX6_substitute_4 : decode cX6_substitute 4 = .ok (.ifCond .eq 21, 3) := by decide +kernel
theorem dX6_substitute_7 : decode cX6_substitute 7 = .ok (.iload_n 2, 1) := by decide +kernel
theorem dX6_substitute_8 : decode cX6_substitute 8 = .ok (.invokestatic 32, 3) := by decide +kernel
theorem dX6_substitute_11 : decode cX6_substitute 11 = .ok (.ifCond .eq 14, 3) := by decide +kernel
theorem dX6_substitute_14 : decode cX6_substitute 14 = .ok (.iload_n 3, 1) := by decide +kernel
theorem dX6_substitute_15 : decode cX6_substitute 15 = .ok (.invokestatic 32, 3) := by decide +kernel
theorem dX6_substitute_18 : decode cX6_substitute 18 = .ok (.ifCond .eq 7, 3) := by decide +kernel
theorem dX6_substitute_21 : decode cX6_substitute 21 = .ok (.iconst 1, 1) := by decide +kernel
theorem dX6_substitute_22 : decode cX6_substitute 22 = .ok (.goto 4, 3) := by decide +kernel
theorem dX6_substitute_25 : decode cX6_substitute 25 = .ok (.iconst 0, 1) := by decide +kernel
theorem dX6_substitute_26 : decode cX6_substitute 26 = .ok (.istore 4, 2) := by decide +kernel
theorem dX6_substitute_28 : decode cX6_substitute 28 = .ok (.iload 4, 2) := by decide +kernel
theorem dX6_substitute_30 : decode cX6_substitute 30 = .ok (.ifCond .eq 40, 3) := by decide +kernel
theorem dX6_substitute_33 : decode cX6_substitute 33 = .ok (.aload_n 0, 1) := by decide +kernel
theorem dX6_substitute_34 : decode cX6_substitute 34 = .ok (.getfield 7, 3) := by decide +kernel
theorem dX6_substitute_37 : decode cX6_substitute 37 = .ok (.iconst 0, 1) := by decide +kernel
theorem dX6_substitute_38 : decode cX6_substitute 38 = .ok (.iaload, 1) := by decide +kernel
theorem dX6_substitute_39 : decode cX6_substitute 39 = .ok (.iconst 1, 1) := by decide +kernel
theorem dX6_substitute_40 : decode cX6_substitute 40 = .ok (.if_icmp .ne 30, 3) := by decide +kernel
theorem dX6_substitute_43 : decode cX6_substitute 43 = .ok (.aload_n 0, 1) := by decide +kernel
theorem dX6_substitute_44 : decode cX6_substitute 44 = .ok (.getfield 7, 3) := by decide +kernel
theorem dX6_substitute_47 : decode cX6_substitute 47 = .ok (.iconst 1, 1) := by decide +kernel
theorem dX6_substitute_48 : decode cX6_substitute 48 = .ok (.iaload, 1) := by decide +kernel
theorem dX6_substitute_49 : decode cX6_substitute 49 = .ok (.ifCond .ne 21, 3) := by decide +kernel
theorem dX6_substitute_52 : decode cX6_substitute 52 = .ok (.aload_n 0, 1) := by decide +kernel
theorem dX6_substitute_53 : decode cX6_substitute 53 = .ok (.getfield 7, 3) := by decide +kernel
theorem dX6_substitute_56 : decode cX6_substitute 56 = .ok (.bipush 32, 2) := by decide +kernel
theorem dX6_substitute_58 : decode cX6_substitute 58 = .ok (.iload_n 1, 1) := by decide +kernel
theorem dX6_substitute_59 : decode cX6_substitute 59 = .ok (.iadd, 1) := by decide +kernel
theorem dX6_substitute_60 : decode cX6_substitute 60 = .ok (.iaload, 1) := by decide +kernel
theorem dX6_substitute_61 : decode cX6_substitute 61 = .ok (.bipush 6, 2) := by decide +kernel
theorem dX6_substitute_63 : decode cX6_substitute 63 = .ok (.if_icmp .ge 7, 3) := by decide +kernel
theorem dX6_substitute_66 : decode cX6_substitute 66 = .ok (.iconst 1, 1) := by decide +kernel
theorem dX6_substitute_67 : decode cX6_substitute 67 = .ok (.goto 4, 3) := by decide +kernel
theorem dX6_substitute_70 : decode cX6_substitute 70 = .ok (.iconst 0, 1) := by decide +kernel
theorem dX6_substitute_71 : decode cX6_substitute 71 = .ok (.istore 5, 2) := by decide +kernel
theorem dX6_substitute_73 : decode cX6_substitute 73 = .ok (.iload 5, 2) := by decide +kernel
theorem dX6_substitute_75 : decode cX6_substitute 75 = .ok (.ifCond .eq 64, 3) := by decide +kernel
theorem dX6_substitute_78 : decode cX6_substitute 78 = .ok (.aload_n 0, 1) := by decide +kernel
theorem dX6_substitute_79 : decode cX6_substitute 79 = .ok (.iload_n 1, 1) := by decide +kernel
theorem dX6_substitute_80 : decode cX6_substitute 80 = .ok (.iload_n 2, 1) := by decide +kernel
theorem dX6_substitute_81 : decode cX6_substitute 81 = .ok (.invokevirtual 42, 3) := by decide +kernel
theorem dX6_substitute_84 : decode cX6_substitute 84 = .ok (.ifCond .le 55, 3) := by decide +kernel
theorem dX6_substitute_87 : decode cX6_substitute 87 = .ok (.iload_n 2, 1) := by decide +kernel
theorem dX6_substitute_88 : decode cX6_substitute 88 = .ok (.aload_n 0, 1) := by decide +kernel
theorem dX6_substitute_89 : decode cX6_substitute 89 = .ok (.getfield 7, 3) := by decide +kernel
theorem dX6_substitute_92 : decode cX6_substitute 92 = .ok (.bipush 26, 2) := by decide +kernel
theorem dX6_substitute_94 : decode cX6_substitute 94 = .ok (.iload_n 1, 1) := by decide +kernel
theorem dX6_substitute_95 : decode cX6_substitute 95 = .ok (.iadd, 1) := by decide +kernel
theorem dX6_substitute_96 : decode cX6_substitute 96 = .ok (.iaload, 1) := by decide +kernel
theorem dX6_substitute_97 : decode cX6_substitute 97 = .ok (.if_icmp .eq 42, 3) := by decide +kernel
theorem dX6_substitute_100 : decode cX6_substitute 100 = .ok (.aload_n 0, 1) := by decide +kernel
theorem dX6_substitute_101 : decode cX6_substitute 101 = .ok (.iload_n 1, 1) := by decide +kernel
theorem dX6_substitute_102 : decode cX6_substitute 102 = .ok (.iload_n 3, 1) := by decide +kernel
theorem dX6_substitute_103 : decode cX6_substitute 103 = .ok (.invokevirtual 42, 3) := by decide +kernel
theorem dX6_substitute_106 : decode cX6_substitute 106 = .ok (.ifCond .ne 33, 3) := by decide +kernel
theorem dX6_substitute_109 : decode cX6_substitute 109 = .ok (.iload_n 3, 1) := by decide +kernel
theorem dX6_substitute_110 : decode cX6_substitute 110 = .ok (.aload_n 0, 1) := by decide +kernel
theorem dX6_substitute_111 : decode cX6_substitute 111 = .ok (.getfield 7, 3) := by decide +kernel
theorem dX6_substitute_114 : decode cX6_substitute 114 = .ok (.bipush 26, 2) := by decide +kernel
theorem dX6_substitute_116 : decode cX6_substitute 116 = .ok (.iload_n 1, 1) := by decide +kernel
theorem dX6_substitute_117 : decode cX6_substitute 117 = .ok (.iadd, 1) := by decide +kernel
theorem dX6_substitute_118 : decode cX6_substitute 118 = .ok (.iaload, 1) := by decide +kernel
theorem dX6_substitute_119 : decode cX6_substitute 119 = .ok (.if_icmp .eq 20, 3) := by decide +kernel
theorem dX6_substitute_122 : decode cX6_substitute 122 = .ok (.iload_n 3, 1) := by decide +kernel
theorem dX6_substitute_123 : decode cX6_substitute 123 = .ok (.aload_n 0, 1) := by decide +kernel
theorem dX6_substitute_124 : decode cX6_substitute 124 = .ok (.getfield 7, 3) := by decide +kernel
theorem dX6_substitute_127 : decode cX6_substitute 127 = .ok (.bipush 28, 2) := by decide +kernel
theorem dX6_substitute_129 : decode cX6_substitute 129 = .ok (.iload_n 1, 1) := by decide +kernel
theorem dX6_substitute_130 : decode cX6_substitute 130 = .ok (.iadd, 1) := by decide +kernel
theorem dX6_substitute_131 : decode cX6_substitute 131 = .ok (.iaload, 1) := by decide +kernel
theorem dX6_substitute_132 : decode cX6_substitute 132 = .ok (.if_icmp .eq 7, 3) := by decide +kernel
theorem dX6_substitute_135 : decode cX6_substitute 135 = .ok (.iconst 1, 1) := by decide +kernel
theorem dX6_substitute_136 : decode cX6_substitute 136 = .ok (.goto 4, 3) := by decide +kernel
theorem dX6_substitute_139 : decode cX6_substitute 139 = .ok (.iconst 0, 1) := by decide +kernel
theorem dX6_substitute_140 : decode cX6_substitute 140 = .ok (.istore 6, 2) := by decide +kernel
theorem dX6_substitute_142 : decode cX6_substitute 142 = .ok (.iload 6, 2) := by decide +kernel
theorem dX6_substitute_144 : decode cX6_substitute 144 = .ok (.ifCond .eq 12, 3) := by decide +kernel
theorem dX6_substitute_147 : decode cX6_substitute 147 = .ok (.aload_n 0, 1) := by decide +kernel
theorem dX6_substitute_148 : decode cX6_substitute 148 = .ok (.iload_n 1, 1) := by decide +kernel
theorem dX6_substitute_149 : decode cX6_substitute 149 = .ok (.iload_n 2, 1) := by decide +kernel
theorem dX6_substitute_150 : decode cX6_substitute 150 = .ok (.invokevirtual 69, 3) := by decide +kernel
theorem dX6_substitute_153 : decode cX6_substitute 153 = .ok (.goto 4, 3) := by decide +kernel
theorem dX6_substitute_156 : decode cX6_substitute 156 = .ok (.iconst (-1), 1) := by decide +kernel
theorem dX6_substitute_157 : decode cX6_substitute 157 = .ok (.istore 7, 2) := by decide +kernel
theorem dX6_substitute_159 : decode cX6_substitute 159 = .ok (.iload 6, 2) := by decide +kernel
theorem dX6_substitute_161 : decode cX6_substitute 161 = .ok (.ifCond .eq 12, 3) := by decide +kernel
theorem dX6_substitute_164 : decode cX6_substitute 164 = .ok (.aload_n 0, 1) := by decide +kernel
theorem dX6_substitute_165 : decode cX6_substitute 165 = .ok (.iload_n 1, 1) := by decide +kernel
theorem dX6_substitute_166 : decode cX6_substitute 166 = .ok (.iload_n 3, 1) := by decide +kernel
theorem dX6_substitute_167 : decode cX6_substitute 167 = .ok (.invokevirtual 69, 3) := by decide +kernel
theorem dX6_substitute_170 : decode cX6_substitute 170 = .ok (.goto 4, 3) := by decide +kernel
theorem dX6_substitute_173 : decode cX6_substitute 173 = .ok (.iconst (-1), 1) := by decide +kernel
theorem dX6_substitute_174 : decode cX6_substitute 174 = .ok (.istore 8, 2) := by decide +kernel
theorem dX6_substitute_176 : decode cX6_substitute 176 = .ok (.iload 7, 2) := by decide +kernel
theorem dX6_substitute_178 : decode cX6_substitute 178 = .ok (.iconst (-1), 1) := by decide +kernel
theorem dX6_substitute_179 : decode cX6_substitute 179 = .ok (.if_icmp .eq 40, 3) := by decide +kernel
theorem dX6_substitute_182 : decode cX6_substitute 182 = .ok (.iload 7, 2) := by decide +kernel
theorem dX6_substitute_184 : decode cX6_substitute 184 = .ok (.iload 8, 2) := by decide +kernel
theorem dX6_substitute_186 : decode cX6_substitute 186 = .ok (.if_icmp .ne 33, 3) := by decide +kernel
theorem dX6_substitute_189 : decode cX6_substitute 189 = .ok (.aload_n 0, 1) := by decide +kernel
theorem dX6_substitute_190 : decode cX6_substitute 190 = .ok (.getfield 7, 3) := by decide +kernel
theorem dX6_substitute_193 : decode cX6_substitute 193 = .ok (.iload 7, 2) := by decide +kernel
theorem dX6_substitute_195 : decode cX6_substitute 195 = .ok (.iconst 2, 1) := by decide +kernel
theorem dX6_substitute_196 : decode cX6_substitute 196 = .ok (.iadd, 1) := by decide +kernel
theorem dX6_substitute_197 : decode cX6_substitute 197 = .ok (.iaload, 1) := by decide +kernel
theorem dX6_substitute_198 : decode cX6_substitute 198 = .ok (.iconst 1, 1) := by decide +kernel
theorem dX6_substitute_199 : decode cX6_substitute 199 = .ok (.if_icmp .ne 20, 3) := by decide +kernel
theorem dX6_substitute_202 : decode cX6_substitute 202 = .ok (.aload_n 0, 1) := by decide +kernel
theorem dX6_substitute_203 : decode cX6_substitute 203 = .ok (.getfield 7, 3) := by decide +kernel
theorem dX6_substitute_206 : decode cX6_substitute 206 = .ok (.iload 7, 2) := by decide +kernel
theorem dX6_substitute_208 : decode cX6_substitute 208 = .ok (.iconst 1, 1) := by decide +kernel
theorem dX6_substitute_209 : decode cX6_substitute 209 = .ok (.iadd, 1) := by decide +kernel
theorem dX6_substitute_210 : decode cX6_substitute 210 = .ok (.iaload, 1) := by decide +kernel
theorem dX6_substitute_211 : decode cX6_substitute 211 = .ok (.iload_n 2, 1) := by decide +kernel
theorem dX6_substitute_212 : decode cX6_substitute 212 = .ok (.if_icmp .ne 7, 3) := by decide +kernel
theorem dX6_substitute_215 : decode cX6_substitute 215 = .ok (.iconst 1, 1) := by decide +kernel
theorem dX6_substitute_216 : decode cX6_substitute 216 = .ok (.goto 4, 3) := by decide +kernel
theorem dX6_substitute_219 : decode cX6_substitute 219 = .ok (.iconst 0, 1) := by decide +kernel
theorem dX6_substitute_220 : decode cX6_substitute 220 = .ok (.istore 9, 2) := by decide +kernel
theorem dX6_substitute_222 : decode cX6_substitute 222 = .ok (.aload_n 0, 1) := by decide +kernel
theorem dX6_substitute_223 : decode cX6_substitute 223 = .ok (.iload 4, 2) := by decide +kernel
theorem dX6_substitute_225 : decode cX6_substitute 225 = .ok (.ifCond .ne 7, 3) := by decide +kernel
theorem dX6_substitute_228 : decode cX6_substitute 228 = .ok (.iconst 1, 1) := by decide +kernel
theorem dX6_substitute_229 : decode cX6_substitute 229 = .ok (.goto 30, 3) := by decide +kernel
theorem dX6_substitute_232 : decode cX6_substitute 232 = .ok (.iload 6, 2) := by decide +kernel
theorem dX6_substitute_234 : decode cX6_substitute 234 = .ok (.ifCond .eq 24, 3) := by decide +kernel
theorem dX6_substitute_237 : decode cX6_substitute 237 = .ok (.iload 9, 2) := by decide +kernel
theorem dX6_substitute_239 : decode cX6_substitute 239 = .ok (.ifCond .ne 15, 3) := by decide +kernel
theorem dX6_substitute_242 : decode cX6_substitute 242 = .ok (.iload 7, 2) := by decide +kernel
theorem dX6_substitute_244 : decode cX6_substitute 244 = .ok (.iconst (-1), 1) := by decide +kernel
theorem dX6_substitute_245 : decode cX6_substitute 245 = .ok (.if_icmp .ne 13, 3) := by decide +kernel
theorem dX6_substitute_248 : decode cX6_substitute 248 = .ok (.iload 8, 2) := by decide +kernel
theorem dX6_substitute_250 : decode cX6_substitute 250 = .ok (.iconst (-1), 1) := by decide +kernel
theorem dX6_substitute_251 : decode cX6_substitute 251 = .ok (.if_icmp .ne 7, 3) := by decide +kernel
theorem dX6_substitute_254 : decode cX6_substitute 254 = .ok (.iconst 0, 1) := by decide +kernel
theorem dX6_substitute_255 : decode cX6_substitute 255 = .ok (.goto 4, 3) := by decide +kernel
theorem dX6_substitute_258 : decode cX6_substitute 258 = .ok (.iconst 2, 1) := by decide +kernel
theorem dX6_substitute_259 : decode cX6_substitute 259 = .ok (.invokevirtual 39, 3) := by decide +kernel
theorem dX6_substitute_262 : decode cX6_substitute 262 = .ok (.ifCond .ne 5, 3) := by decide +kernel
theorem dX6_substitute_265 : decode cX6_substitute 265 = .ok (.iconst 0, 1) := by decide +kernel
theorem dX6_substitute_266 : decode cX6_substitute 266 = .ok (.ireturn, 1) := by decide +kernel
theorem dX6_substitute_267 : decode cX6_substitute 267 = .ok (.aload_n 0, 1) := by decide +kernel
theorem dX6_substitute_268 : decode cX6_substitute 268 = .ok (.getfield 7, 3) := by decide +kernel
theorem dX6_substitute_271 : decode cX6_substitute 271 = .ok (.bipush 41, 2) := by decide +kernel
theorem dX6_substitute_273 : decode cX6_substitute 273 = .ok (.iconst 0, 1) := by decide +kernel
theorem dX6_substitute_274 : decode cX6_substitute 274 = .ok (.iastore, 1) := by decide +kernel
theorem dX6_substitute_275 : decode cX6_substitute 275 = .ok (.iload 9, 2) := by decide +kernel
theorem dX6_substitute_277 : decode cX6_substitute 277 = .ok (.ifCond .eq 16, 3) := by decide +kernel
theorem dX6_substitute_280 : decode cX6_substitute 280 = .ok (.aload_n 0, 1) := by decide +kernel
theorem dX6_substitute_281 : decode cX6_substitute 281 = .ok (.getfield 7, 3) := by decide +kernel
theorem dX6_substitute_284 : decode cX6_substitute 284 = .ok (.iload 7, 2) := by decide +kernel
theorem dX6_substitute_286 : decode cX6_substitute 286 = .ok (.iconst 2, 1) := by decide +kernel
theorem dX6_substitute_287 : decode cX6_substitute 287 = .ok (.iadd, 1) := by decide +kernel
theorem dX6_substitute_288 : decode cX6_substitute 288 = .ok (.iconst 2, 1) := by decide +kernel
theorem dX6_substitute_289 : decode cX6_substitute 289 = .ok (.iastore, 1) := by decide +kernel
theorem dX6_substitute_290 : decode cX6_substitute 290 = .ok (.goto 65, 3) := by decide +kernel
theorem dX6_substitute_293 : decode cX6_substitute 293 = .ok (.bipush 42, 2) := by decide +kernel
theorem dX6_substitute_295 : decode cX6_substitute 295 = .ok (.bipush 18, 2) := by decide +kernel
theorem dX6_substitute_297 : decode cX6_substitute 297 = .ok (.iload_n 1, 1) := by decide +kernel
theorem dX6_substitute_298 : decode cX6_substitute 298 = .ok (.imul, 1) := by decide +kernel
theorem dX6_substitute_299 : decode cX6_substitute 299 = .ok (.iadd, 1) := by decide +kernel
theorem dX6_substitute_300 : decode cX6_substitute 300 = .ok (.iconst 3, 1) := by decide +kernel
theorem dX6_substitute_301 : decode cX6_substitute 301 = .ok (.aload_n 0, 1) := by decide +kernel
theorem dX6_substitute_302 : decode cX6_substitute 302 = .ok (.getfield 7, 3) := by decide +kernel
theorem dX6_substitute_305 : decode cX6_substitute 305 = .ok (.bipush 78, 2) := by decide +kernel
theorem dX6_substitute_307 : decode cX6_substitute 307 = .ok (.iload_n 1, 1) := by decide +kernel
theorem dX6_substitute_308 : decode cX6_substitute 308 = .ok (.iadd, 1) := by decide +kernel
theorem dX6_substitute_309 : decode cX6_substitute 309 = .ok (.iaload, 1) := by decide +kernel
theorem dX6_substitute_310 : decode cX6_substitute 310 = .ok (.imul, 1) := by decide +kernel
theorem dX6_substitute_311 : decode cX6_substitute 311 = .ok (.iadd, 1) := by decide +kernel
theorem dX6_substitute_312 : decode cX6_substitute 312 = .ok (.istore 10, 2) := by decide +kernel
theorem dX6_substitute_314 : decode cX6_substitute 314 = .ok (.aload_n 0, 1) := by decide +kernel
theorem dX6_substitute_315 : decode cX6_substitute 315 = .ok (.getfield 7, 3) := by decide +kernel
theorem dX6_substitute_318 : decode cX6_substitute 318 = .ok (.iload 10, 2) := by decide +kernel
theorem dX6_substitute_320 : decode cX6_substitute 320 = .ok (.iload_n 2, 1) := by decide +kernel
theorem dX6_substitute_321 : decode cX6_substitute 321 = .ok (.iastore, 1) := by decide +kernel
theorem dX6_substitute_322 : decode cX6_substitute 322 = .ok (.aload_n 0, 1) := by decide +kernel
theorem dX6_substitute_323 : decode cX6_substitute 323 = .ok (.getfield 7, 3) := by decide +kernel
theorem dX6_substitute_326 : decode cX6_substitute 326 = .ok (.iload 10, 2) := by decide +kernel
theorem dX6_substitute_328 : decode cX6_substitute 328 = .ok (.iconst 1, 1) := by decide +kernel
theorem dX6_substitute_329 : decode cX6_substitute 329 = .ok (.iadd, 1) := by decide +kernel
theorem dX6_substitute_330 : decode cX6_substitute 330 = .ok (.iload_n 3, 1) := by decide +kernel
theorem dX6_substitute_331 : decode cX6_substitute 331 = .ok (.iastore, 1) := by decide +kernel
theorem dX6_substitute_332 : decode cX6_substitute 332 = .ok (.aload_n 0, 1) := by decide +kernel
theorem dX6_substitute_333 : decode cX6_substitute 333 = .ok (.getfield 7, 3) := by decide +kernel
theorem dX6_substitute_336 : decode cX6_substitute 336 = .ok (.iload 10, 2) := by decide +kernel
theorem dX6_substitute_338 : decode cX6_substitute 338 = .ok (.iconst 2, 1) := by decide +kernel
theorem dX6_substitute_339 : decode cX6_substitute 339 = .ok (.iadd, 1) := by decide +kernel
theorem dX6_substitute_340 : decode cX6_substitute 340 = .ok (.iconst 1, 1) := by decide +kernel
theorem dX6_substitute_341 : decode cX6_substitute 341 = .ok (.iastore, 1) := by decide +kernel
theorem dX6_substitute_342 : decode cX6_substitute 342 = .ok (.aload_n 0, 1) := by decide +kernel
theorem dX6_substitute_343 : decode cX6_substitute 343 = .ok (.getfield 7, 3) := by decide +kernel
theorem dX6_substitute_346 : decode cX6_substitute 346 = .ok (.bipush 78, 2) := by decide +kernel
theorem dX6_substitute_348 : decode cX6_substitute 348 = .ok (.iload_n 1, 1) := by decide +kernel
theorem dX6_substitute_349 : decode cX6_substitute 349 = .ok (.iadd, 1) := by decide +kernel
theorem dX6_substitute_350 : decode cX6_substitute 350 = .ok (.dup2, 1) := by decide +kernel
theorem dX6_substitute_351 : decode cX6_substitute 351 = .ok (.iaload, 1) := by decide +kernel
theorem dX6_substitute_352 : decode cX6_substitute 352 = .ok (.iconst 1, 1) := by decide +kernel
theorem dX6_substitute_353 : decode cX6_substitute 353 = .ok (.iadd, 1) := by decide +kernel
theorem dX6_substitute_354 : decode cX6_substitute 354 = .ok (.iastore, 1) := by decide +kernel
theorem dX6_substitute_355 : decode cX6_substitute 355 = .ok (.aload_n 0, 1) := by decide +kernel
theorem dX6_substitute_356 : decode cX6_substitute 356 = .ok (.getfield 7, 3) := by decide +kernel
theorem dX6_substitute_359 : decode cX6_substitute 359 = .ok (.iload_n 1, 1) := by decide +kernel
theorem dX6_substitute_360 : decode cX6_substitute 360 = .ok (.aload_n 0, 1) := by decide +kernel
theorem dX6_substitute_361 : decode cX6_substitute 361 = .ok (.iload_n 1, 1) := by decide +kernel
theorem dX6_substitute_362 : decode cX6_substitute 362 = .ok (.iload_n 2, 1) := by decide +kernel
theorem dX6_substitute_363 : decode cX6_substitute 363 = .ok (.invokevirtual 42, 3) := by decide +kernel
theorem dX6_substitute_366 : decode cX6_substitute 366 = .ok (.invokestatic 24, 3) := by decide +kernel
theorem dX6_substitute_369 : decode cX6_substitute 369 = .ok (.iload_n 3, 1) := by decide +kernel
theorem dX6_substitute_370 : decode cX6_substitute 370 = .ok (.iastore, 1) := by decide +kernel
theorem dX6_substitute_371 : decode cX6_substitute 371 = .ok (.aload_n 0, 1) := by decide +kernel
theorem dX6_substitute_372 : decode cX6_substitute 372 = .ok (.getfield 7, 3) := by decide +kernel
theorem dX6_substitute_375 : decode cX6_substitute 375 = .ok (.bipush 32, 2) := by decide +kernel
theorem dX6_substitute_377 : decode cX6_substitute 377 = .ok (.iload_n 1, 1) := by decide +kernel
theorem dX6_substitute_378 : decode cX6_substitute 378 = .ok (.iadd, 1) := by decide +kernel
theorem dX6_substitute_379 : decode cX6_substitute 379 = .ok (.dup2, 1) := by decide +kernel
theorem dX6_substitute_380 : decode cX6_substitute 380 = .ok (.iaload, 1) := by decide +kernel
theorem dX6_substitute_381 : decode cX6_substitute 381 = .ok (.iconst 1, 1) := by decide +kernel
theorem dX6_substitute_382 : decode cX6_substitute 382 = .ok (.iadd, 1) := by decide +kernel
theorem dX6_substitute_383 : decode cX6_substitute 383 = .ok (.iastore, 1) := by decide +kernel
theorem dX6_substitute_384 : decode cX6_substitute 384 = .ok (.aload_n 0, 1) := by decide +kernel
theorem dX6_substitute_385 : decode cX6_substitute 385 = .ok (.getfield 7, 3) := by decide +kernel
theorem dX6_substitute_388 : decode cX6_substitute 388 = .ok (.bipush 32, 2) := by decide +kernel
theorem dX6_substitute_390 : decode cX6_substitute 390 = .ok (.iload_n 1, 1) := by decide +kernel
theorem dX6_substitute_391 : decode cX6_substitute 391 = .ok (.iadd, 1) := by decide +kernel
theorem dX6_substitute_392 : decode cX6_substitute 392 = .ok (.iaload, 1) := by decide +kernel
theorem dX6_substitute_393 : decode cX6_substitute 393 = .ok (.ireturn, 1) := by decide +kernel
theorem dX6_challenge_0 : decode cX6_challenge 0 = .ok (.iload_n 1, 1) := by decide +kernel
theorem dX6_challenge_1 : decode cX6_challenge 1 = .ok (.invokestatic 28, 3) := by decide +kernel
theorem dX6_challenge_4 : decode cX6_challenge 4 = .ok (.istore_n 2, 1) := by decide +kernel
theorem dX6_challenge_5 : decode cX6_challenge 5 = .ok (.iload_n 2, 1) := by decide +kernel
theorem dX6_challenge_6 : decode cX6_challenge 6 = .ok (.ifCond .eq 41, 3) := by decide +kernel
theorem dX6_challenge_9 : decode cX6_challenge 9 = .ok (.aload_n 0, 1) := by decide +kernel
theorem dX6_challenge_10 : decode cX6_challenge 10 = .ok (.getfield 7, 3) := by decide +kernel
theorem dX6_challenge_13 : decode cX6_challenge 13 = .ok (.bipush 41, 2) := by decide +kernel
theorem dX6_challenge_15 : decode cX6_challenge 15 = .ok (.iaload, 1) := by decide +kernel
theorem dX6_challenge_16 : decode cX6_challenge 16 = .ok (.iconst 1, 1) := by decide +kernel
theorem dX6_challenge_17 : decode cX6_challenge 17 = .ok (.if_icmp .ne 30, 3) := by decide +kernel
theorem dX6_challenge_20 : decode cX6_challenge 20 = .ok (.aload_n 0, 1) := by decide +kernel
theorem dX6_challenge_21 : decode cX6_challenge 21 = .ok (.getfield 7, 3) := by decide +kernel
theorem dX6_challenge_24 : decode cX6_challenge 24 = .ok (.bipush 40, 2) := by decide +kernel
theorem dX6_challenge_26 : decode cX6_challenge 26 = .ok (.iaload, 1) := by decide +kernel
theorem dX6_challenge_27 : decode cX6_challenge 27 = .ok (.iload_n 1, 1) := by decide +kernel
theorem dX6_challenge_28 : decode cX6_challenge 28 = .ok (.if_icmp .ne 19, 3) := by decide +kernel
theorem dX6_challenge_31 : decode cX6_challenge 31 = .ok (.aload_n 0, 1) := by decide +kernel
theorem dX6_challenge_32 : decode cX6_challenge 32 = .ok (.getfield 7, 3) := by decide +kernel
theorem dX6_challenge_35 : decode cX6_challenge 35 = .ok (.bipush 34, 2) := by decide +kernel
theorem dX6_challenge_37 : decode cX6_challenge 37 = .ok (.iload_n 1, 1) := by decide +kernel
theorem dX6_challenge_38 : decode cX6_challenge 38 = .ok (.iadd, 1) := by decide +kernel
theorem dX6_challenge_39 : decode cX6_challenge 39 = .ok (.iaload, 1) := by decide +kernel
theorem dX6_challenge_40 : decode cX6_challenge 40 = .ok (.ifCond .le 7, 3) := by decide +kernel
theorem dX6_challenge_43 : decode cX6_challenge 43 = .ok (.iconst 1, 1) := by decide +kernel
theorem dX6_challenge_44 : decode cX6_challenge 44 = .ok (.goto 4, 3) := by decide +kernel
theorem dX6_challenge_47 : decode cX6_challenge 47 = .ok (.iconst 0, 1) := by decide +kernel
theorem dX6_challenge_48 : decode cX6_challenge 48 = .ok (.istore_n 3, 1) := by decide +kernel
theorem dX6_challenge_49 : decode cX6_challenge 49 = .ok (.aload_n 0, 1) := by decide +kernel
theorem dX6_challenge_50 : decode cX6_challenge 50 = .ok (.iload_n 2, 1) := by decide +kernel
theorem dX6_challenge_51 : decode cX6_challenge 51 = .ok (.ifCond .ne 7, 3) := by decide +kernel
theorem dX6_challenge_54 : decode cX6_challenge 54 = .ok (.iconst 1, 1) := by decide +kernel
theorem dX6_challenge_55 : decode cX6_challenge 55 = .ok (.goto 12, 3) := by decide +kernel
theorem dX6_challenge_58 : decode cX6_challenge 58 = .ok (.iload_n 3, 1) := by decide +kernel
theorem dX6_challenge_59 : decode cX6_challenge 59 = .ok (.ifCond .eq 7, 3) := by decide +kernel
theorem dX6_challenge_62 : decode cX6_challenge 62 = .ok (.iconst 0, 1) := by decide +kernel
theorem dX6_challenge_63 : decode cX6_challenge 63 = .ok (.goto 4, 3) := by decide +kernel
theorem dX6_challenge_66 : decode cX6_challenge 66 = .ok (.iconst 2, 1) := by decide +kernel
theorem dX6_challenge_67 : decode cX6_challenge 67 = .ok (.invokevirtual 39, 3) := by decide +kernel
theorem dX6_challenge_70 : decode cX6_challenge 70 = .ok (.ifCond .ne 5, 3) := by decide +kernel
theorem dX6_challenge_73 : decode cX6_challenge 73 = .ok (.iconst 0, 1) := by decide +kernel
theorem dX6_challenge_74 : decode cX6_challenge 74 = .ok (.ireturn, 1) := by decide +kernel
theorem dX6_challenge_75 : decode cX6_challenge 75 = .ok (.aload_n 0, 1) := by decide +kernel
theorem dX6_challenge_76 : decode cX6_challenge 76 = .ok (.getfield 7, 3) := by decide +kernel
theorem dX6_challenge_79 : decode cX6_challenge 79 = .ok (.bipush 39, 2) := by decide +kernel
theorem dX6_challenge_81 : decode cX6_challenge 81 = .ok (.iload_n 1, 1) := by decide +kernel
theorem dX6_challenge_82 : decode cX6_challenge 82 = .ok (.isub, 1) := by decide +kernel
theorem dX6_challenge_83 : decode cX6_challenge 83 = .ok (.iaload, 1) := by decide +kernel
theorem dX6_challenge_84 : decode cX6_challenge 84 = .ok (.ifCond .ne 26, 3) := by decide +kernel
theorem dX6_challenge_87 : decode cX6_challenge 87 = .ok (.aload_n 0, 1) := by decide +kernel
theorem dX6_challenge_88 : decode cX6_challenge 88 = .ok (.getfield 7, 3) := by decide +kernel
theorem dX6_challenge_91 : decode cX6_challenge 91 = .ok (.bipush 41, 2) := by decide +kernel
theorem dX6_challenge_93 : decode cX6_challenge 93 = .ok (.iconst 0, 1) := by decide +kernel
theorem dX6_challenge_94 : decode cX6_challenge 94 = .ok (.iastore, 1) := by decide +kernel
theorem dX6_challenge_95 : decode cX6_challenge 95 = .ok (.aload_n 0, 1) := by decide +kernel
theorem dX6_challenge_96 : decode cX6_challenge 96 = .ok (.getfield 7, 3) := by decide +kernel
theorem dX6_challenge_99 : decode cX6_challenge 99 = .ok (.bipush 34, 2) := by decide +kernel
theorem dX6_challenge_101 : decode cX6_challenge 101 = .ok (.iload_n 1, 1) := by decide +kernel
theorem dX6_challenge_102 : decode cX6_challenge 102 = .ok (.iadd, 1) := by decide +kernel
theorem dX6_challenge_103 : decode cX6_challenge 103 = .ok (.dup2, 1) := by decide +kernel
theorem dX6_challenge_104 : decode cX6_challenge 104 = .ok (.iaload, 1) := by decide +kernel
theorem dX6_challenge_105 : decode cX6_challenge 105 = .ok (.iconst 1, 1) := by decide +kernel
theorem dX6_challenge_106 : decode cX6_challenge 106 = .ok (.isub, 1) := by decide +kernel
theorem dX6_challenge_107 : decode cX6_challenge 107 = .ok (.iastore, 1) := by decide +kernel
theorem dX6_challenge_108 : decode cX6_challenge 108 = .ok (.iconst 0, 1) := by decide +kernel
theorem dX6_challenge_109 : decode cX6_challenge 109 = .ok (.ireturn, 1) := by decide +kernel
theorem dX6_challenge_110 : decode cX6_challenge 110 = .ok (.iconst 0, 1) := by decide +kernel
theorem dX6_challenge_111 : decode cX6_challenge 111 = .ok (.istore 4, 2) := by decide +kernel
theorem dX6_challenge_113 : decode cX6_challenge 113 = .ok (.iload 4, 2) := by decide +kernel
theorem dX6_challenge_115 : decode cX6_challenge 115 = .ok (.bipush 92, 2) := by decide +kernel
theorem dX6_challenge_117 : decode cX6_challenge 117 = .ok (.if_icmp .ge 23, 3) := by decide +kernel
theorem dX6_challenge_120 : decode cX6_challenge 120 = .ok (.aload_n 0, 1) := by decide +kernel
theorem dX6_challenge_121 : decode cX6_challenge 121 = .ok (.getfield 7, 3) := by decide +kernel
theorem dX6_challenge_124 : decode cX6_challenge 124 = .ok (.iload 4, 2) := by decide +kernel
theorem dX6_challenge_126 : decode cX6_challenge 126 = .ok (.aload_n 0, 1) := by decide +kernel
theorem dX6_challenge_127 : decode cX6_challenge 127 = .ok (.getfield 13, 3) := by decide +kernel
theorem dX6_challenge_130 : decode cX6_challenge 130 = .ok (.iload 4, 2) := by decide +kernel
theorem dX6_challenge_132 : decode cX6_challenge 132 = .ok (.iaload, 1) := by decide +kernel
theorem dX6_challenge_133 : decode cX6_challenge 133 = .ok (.iastore, 1) := by decide +kernel
theorem dX6_challenge_134 : decode cX6_challenge 134 = .ok (.iinc 4 1, 3) := by decide +kernel
theorem dX6_challenge_137 : decode cX6_challenge 137 = .ok (.goto (-24), 3) := by decide +kernel
theorem dX6_challenge_140 : decode cX6_challenge 140 = .ok (.aload_n 0, 1) := by decide +kernel
theorem dX6_challenge_141 : decode cX6_challenge 141 = .ok (.iload_n 1, 1) := by decide +kernel
theorem dX6_challenge_142 : decode cX6_challenge 142 = .ok (.bipush 8, 2) := by decide +kernel
theorem dX6_challenge_144 : decode cX6_challenge 144 = .ok (.invokevirtual 55, 3) := by decide +kernel
theorem dX6_challenge_147 : decode cX6_challenge 147 = .ok (.aload_n 0, 1) := by decide +kernel
theorem dX6_challenge_148 : decode cX6_challenge 148 = .ok (.getfield 7, 3) := by decide +kernel
theorem dX6_challenge_151 : decode cX6_challenge 151 = .ok (.bipush 41, 2) := by decide +kernel
theorem dX6_challenge_153 : decode cX6_challenge 153 = .ok (.iconst 0, 1) := by decide +kernel
theorem dX6_challenge_154 : decode cX6_challenge 154 = .ok (.iastore, 1) := by decide +kernel
theorem dX6_challenge_155 : decode cX6_challenge 155 = .ok (.iconst 1, 1) := by decide +kernel
theorem dX6_challenge_156 : decode cX6_challenge 156 = .ok (.ireturn, 1) := by decide +kernel
theorem dX6_points_0 : decode cX6_points 0 = .ok (.aload_n 0, 1) := by decide +kernel
theorem dX6_points_1 : decode cX6_points 1 = .ok (.iload_n 1, 1) := by decide +kernel
theorem dX6_points_2 : decode cX6_points 2 = .ok (.invokestatic 28, 3) := by decide +kernel
theorem dX6_points_5 : decode cX6_points 5 = .ok (.ifCond .eq 7, 3) := by decide +kernel
theorem dX6_points_8 : decode cX6_points 8 = .ok (.iconst 0, 1) := by decide +kernel
theorem dX6_points_9 : decode cX6_points 9 = .ok (.goto 4, 3) := by decide +kernel
theorem dX6_points_12 : decode cX6_points 12 = .ok (.iconst 1, 1) := by decide +kernel
theorem dX6_points_13 : decode cX6_points 13 = .ok (.invokevirtual 39, 3) := by decide +kernel
theorem dX6_points_16 : decode cX6_points 16 = .ok (.ifCond .eq 15, 3) := by decide +kernel
theorem dX6_points_19 : decode cX6_points 19 = .ok (.aload_n 0, 1) := by decide +kernel
theorem dX6_points_20 : decode cX6_points 20 = .ok (.getfield 7, 3) := by decide +kernel
theorem dX6_points_23 : decode cX6_points 23 = .ok (.bipush 10, 2) := by decide +kernel
theorem dX6_points_25 : decode cX6_points 25 = .ok (.iload_n 1, 1) := by decide +kernel
theorem dX6_points_26 : decode cX6_points 26 = .ok (.iadd, 1) := by decide +kernel
theorem dX6_points_27 : decode cX6_points 27 = .ok (.iaload, 1) := by decide +kernel
theorem dX6_points_28 : decode cX6_points 28 = .ok (.goto 4, 3) := by decide +kernel
theorem dX6_points_31 : decode cX6_points 31 = .ok (.iconst 0, 1) := by decide +kernel
theorem dX6_points_32 : decode cX6_points 32 = .ok (.ireturn, 1) := by decide +kernel
theorem dX6_pointsAnew_0 : decode cX6_pointsAnew 0 = .ok (.aload_n 0, 1) := by decide +kernel
theorem dX6_pointsAnew_1 : decode cX6_pointsAnew 1 = .ok (.iload_n 1, 1) := by decide +kernel
theorem dX6_pointsAnew_2 : decode cX6_pointsAnew 2 = .ok (.invokestatic 28, 3) := by decide +kernel
theorem dX6_pointsAnew_5 : decode cX6_pointsAnew 5 = .ok (.ifCond .eq 7, 3) := by decide +kernel
theorem dX6_pointsAnew_8 : decode cX6_pointsAnew 8 = .ok (.iconst 0, 1) := by decide +kernel
theorem dX6_pointsAnew_9 : decode cX6_pointsAnew 9 = .ok (.goto 4, 3) := by decide +kernel
theorem dX6_pointsAnew_12 : decode cX6_pointsAnew 12 = .ok (.iconst 1, 1) := by decide +kernel
theorem dX6_pointsAnew_13 : decode cX6_pointsAnew 13 = .ok (.invokevirtual 39, 3) := by decide +kernel
theorem dX6_pointsAnew_16 : decode cX6_pointsAnew 16 = .ok (.ifCond .eq 15, 3) := by decide +kernel
theorem dX6_pointsAnew_19 : decode cX6_pointsAnew 19 = .ok (.aload_n 0, 1) := by decide +kernel
theorem dX6_pointsAnew_20 : decode cX6_pointsAnew 20 = .ok (.getfield 7, 3) := by decide +kernel
theorem dX6_pointsAnew_23 : decode cX6_pointsAnew 23 = .ok (.bipush 10, 2) := by decide +kernel
theorem dX6_pointsAnew_25 : decode cX6_pointsAnew 25 = .ok (.iload_n 1, 1) := by decide +kernel
theorem dX6_pointsAnew_26 : decode cX6_pointsAnew 26 = .ok (.iadd, 1) := by decide +kernel
theorem dX6_pointsAnew_27 : decode cX6_pointsAnew 27 = .ok (.iaload, 1) := by decide +kernel
theorem dX6_pointsAnew_28 : decode cX6_pointsAnew 28 = .ok (.goto 4, 3) := by decide +kernel
theorem dX6_pointsAnew_31 : decode cX6_pointsAnew 31 = .ok (.iconst 0, 1) := by decide +kernel
theorem dX6_pointsAnew_32 : decode cX6_pointsAnew 32 = .ok (.ireturn, 1) := by decide +kernel
theorem dX6_sets_0 : decode cX6_sets 0 = .ok (.aload_n 0, 1) := by decide +kernel
theorem dX6_sets_1 : decode cX6_sets 1 = .ok (.iload_n 1, 1) := by decide +kernel
theorem dX6_sets_2 : decode cX6_sets 2 = .ok (.invokestatic 28, 3) := by decide +kernel
theorem dX6_sets_5 : decode cX6_sets 5 = .ok (.ifCond .eq 7, 3) := by decide +kernel
theorem dX6_sets_8 : decode cX6_sets 8 = .ok (.iconst 0, 1) := by decide +kernel
theorem dX6_sets_9 : decode cX6_sets 9 = .ok (.goto 4, 3) := by decide +kernel
theorem dX6_sets_12 : decode cX6_sets 12 = .ok (.iconst 1, 1) := by decide +kernel
theorem dX6_sets_13 : decode cX6_sets 13 = .ok (.invokevirtual 39, 3) := by decide +kernel
theorem dX6_sets_16 : decode cX6_sets 16 = .ok (.ifCond .eq 15, 3) := by decide +kernel
theorem dX6_sets_19 : decode cX6_sets 19 = .ok (.aload_n 0, 1) := by decide +kernel
theorem dX6_sets_20 : decode cX6_sets 20 = .ok (.getfield 7, 3) := by decide +kernel
theorem dX6_sets_23 : decode cX6_sets 23 = .ok (.bipush 12, 2) := by decide +kernel
theorem dX6_sets_25 : decode cX6_sets 25 = .ok (.iload_n 1, 1) := by decide +kernel
theorem dX6_sets_26 : decode cX6_sets 26 = .ok (.iadd, 1) := by decide +kernel
theorem dX6_sets_27 : decode cX6_sets 27 = .ok (.iaload, 1) := by decide +kernel
theorem dX6_sets_28 : decode cX6_sets 28 = .ok (.goto 4, 3) := by decide +kernel
theorem dX6_sets_31 : decode cX6_sets 31 = .ok (.iconst 0, 1) := by decide +kernel
theorem dX6_sets_32 : decode cX6_sets 32 = .ok (.ireturn, 1) := by decide +kernel
theorem dX6_isPlace_0 : decode cX6_isPlace 0 = .ok (.iload_n 0, 1) := by decide +kernel
theorem dX6_isPlace_1 : decode cX6_isPlace 1 = .ok (.invokestatic 28, 3) := by decide +kernel
theorem dX6_isPlace_4 : decode cX6_isPlace 4 = .ok (.ifCond .eq 17, 3) := by decide +kernel
theorem dX6_isPlace_7 : decode cX6_isPlace 7 = .ok (.iload_n 1, 1) := by decide +kernel
theorem dX6_isPlace_8 : decode cX6_isPlace 8 = .ok (.iconst 1, 1) := by decide +kernel
theorem dX6_isPlace_9 : decode cX6_isPlace 9 = .ok (.bipush 6, 2) := by decide +kernel
theorem dX6_isPlace_11 : decode cX6_isPlace 11 = .ok (.invokestatic 20, 3) := by decide +kernel
theorem dX6_isPlace_14 : decode cX6_isPlace 14 = .ok (.ifCond .eq 7, 3) := by decide +kernel
theorem dX6_isPlace_17 : decode cX6_isPlace 17 = .ok (.iconst 1, 1) := by decide +kernel
theorem dX6_isPlace_18 : decode cX6_isPlace 18 = .ok (.goto 4, 3) := by decide +kernel
theorem dX6_isPlace_21 : decode cX6_isPlace 21 = .ok (.iconst 0, 1) := by decide +kernel
theorem dX6_isPlace_22 : decode cX6_isPlace 22 = .ok (.ireturn, 1) := by decide +kernel
theorem dX6_at_0 : decode cX6_at 0 = .ok (.aload_n 0, 1) := by decide +kernel
theorem dX6_at_1 : decode cX6_at 1 = .ok (.iload_n 1, 1) := by decide +kernel
theorem dX6_at_2 : decode cX6_at 2 = .ok (.iload_n 2, 1) := by decide +kernel
theorem dX6_at_3 : decode cX6_at 3 = .ok (.invokestatic 72, 3) := by decide +kernel
theorem dX6_at_6 : decode cX6_at 6 = .ok (.ifCond .eq 7, 3) := by decide +kernel
theorem dX6_at_9 : decode cX6_at 9 = .ok (.iconst 0, 1) := by decide +kernel
theorem dX6_at_10 : decode cX6_at 10 = .ok (.goto 4, 3) := by decide +kernel
theorem dX6_at_13 : decode cX6_at 13 = .ok (.iconst 1, 1) := by decide +kernel
theorem dX6_at_14 : decode cX6_at 14 = .ok (.invokevirtual 39, 3) := by decide +kernel
theorem dX6_at_17 : decode cX6_at 17 = .ok (.ifCond .eq 16, 3) := by decide +kernel
theorem dX6_at_20 : decode cX6_at 20 = .ok (.aload_n 0, 1) := by decide +kernel
theorem dX6_at_21 : decode cX6_at 21 = .ok (.getfield 7, 3) := by decide +kernel
theorem dX6_at_24 : decode cX6_at 24 = .ok (.iload_n 1, 1) := by decide +kernel
theorem dX6_at_25 : decode cX6_at 25 = .ok (.iload_n 2, 1) := by decide +kernel
theorem dX6_at_26 : decode cX6_at 26 = .ok (.invokestatic 24, 3) := by decide +kernel
theorem dX6_at_29 : decode cX6_at 29 = .ok (.iaload, 1) := by decide +kernel
theorem dX6_at_30 : decode cX6_at 30 = .ok (.goto 4, 3) := by decide +kernel
theorem dX6_at_33 : decode cX6_at 33 = .ok (.iconst 0, 1) := by decide +kernel
theorem dX6_at_34 : decode cX6_at 34 = .ok (.ireturn, 1) := by decide +kernel
theorem dX6_atAnew_0 : decode cX6_atAnew 0 = .ok (.aload_n 0, 1) := by decide +kernel
theorem dX6_atAnew_1 : decode cX6_atAnew 1 = .ok (.iload_n 1, 1) := by decide +kernel
theorem dX6_atAnew_2 : decode cX6_atAnew 2 = .ok (.iload_n 2, 1) := by decide +kernel
theorem dX6_atAnew_3 : decode cX6_atAnew 3 = .ok (.invokestatic 72, 3) := by decide +kernel
theorem dX6_atAnew_6 : decode cX6_atAnew 6 = .ok (.ifCond .eq 7, 3) := by decide +kernel
theorem dX6_atAnew_9 : decode cX6_atAnew 9 = .ok (.iconst 0, 1) := by decide +kernel
theorem dX6_atAnew_10 : decode cX6_atAnew 10 = .ok (.goto 4, 3) := by decide +kernel
theorem dX6_atAnew_13 : decode cX6_atAnew 13 = .ok (.iconst 1, 1) := by decide +kernel
theorem dX6_atAnew_14 : decode cX6_atAnew 14 = .ok (.invokevirtual 39, 3) := by decide +kernel
theorem dX6_atAnew_17 : decode cX6_atAnew 17 = .ok (.ifCond .ne 7, 3) := by decide +kernel
theorem dX6_atAnew_20 : decode cX6_atAnew 20 = .ok (.iconst 0, 1) := by decide +kernel
theorem dX6_atAnew_21 : decode cX6_atAnew 21 = .ok (.goto 27, 3) := by decide +kernel
theorem dX6_atAnew_24 : decode cX6_atAnew 24 = .ok (.aload_n 0, 1) := by decide +kernel
theorem dX6_atAnew_25 : decode cX6_atAnew 25 = .ok (.getfield 7, 3) := by decide +kernel
theorem dX6_atAnew_28 : decode cX6_atAnew 28 = .ok (.iconst 0, 1) := by decide +kernel
theorem dX6_atAnew_29 : decode cX6_atAnew 29 = .ok (.iaload, 1) := by decide +kernel
theorem dX6_atAnew_30 : decode cX6_atAnew 30 = .ok (.iconst 1, 1) := by decide +kernel
theorem dX6_atAnew_31 : decode cX6_atAnew 31 = .ok (.if_icmp .ne 16, 3) := by decide +kernel
theorem dX6_atAnew_34 : decode cX6_atAnew 34 = .ok (.aload_n 0, 1) := by decide +kernel
theorem dX6_atAnew_35 : decode cX6_atAnew 35 = .ok (.getfield 7, 3) := by decide +kernel
theorem dX6_atAnew_38 : decode cX6_atAnew 38 = .ok (.iload_n 1, 1) := by decide +kernel
theorem dX6_atAnew_39 : decode cX6_atAnew 39 = .ok (.iload_n 2, 1) := by decide +kernel
theorem dX6_atAnew_40 : decode cX6_atAnew 40 = .ok (.invokestatic 24, 3) := by decide +kernel
theorem dX6_atAnew_43 : decode cX6_atAnew 43 = .ok (.iaload, 1) := by decide +kernel
theorem dX6_atAnew_44 : decode cX6_atAnew 44 = .ok (.goto 4, 3) := by decide +kernel
theorem dX6_atAnew_47 : decode cX6_atAnew 47 = .ok (.iconst (-1), 1) := by decide +kernel
theorem dX6_atAnew_48 : decode cX6_atAnew 48 = .ok (.ireturn, 1) := by decide +kernel
theorem dX6_about_0 : decode cX6_about 0 = .ok (.aload_n 0, 1) := by decide +kernel
theorem dX6_about_1 : decode cX6_about 1 = .ok (.iload_n 1, 1) := by decide +kernel
theorem dX6_about_2 : decode cX6_about 2 = .ok (.iconst 0, 1) := by decide +kernel
theorem dX6_about_3 : decode cX6_about 3 = .ok (.iconst 4, 1) := by decide +kernel
theorem dX6_about_4 : decode cX6_about 4 = .ok (.invokestatic 20, 3) := by decide +kernel
theorem dX6_about_7 : decode cX6_about 7 = .ok (.ifCond .eq 7, 3) := by decide +kernel
theorem dX6_about_10 : decode cX6_about 10 = .ok (.iconst 0, 1) := by decide +kernel
theorem dX6_about_11 : decode cX6_about 11 = .ok (.goto 4, 3) := by decide +kernel
theorem dX6_about_14 : decode cX6_about 14 = .ok (.iconst 1, 1) := by decide +kernel
theorem dX6_about_15 : decode cX6_about 15 = .ok (.invokevirtual 39, 3) := by decide +kernel
theorem dX6_about_18 : decode cX6_about 18 = .ok (.ifCond .ne 5, 3) := by decide +kernel
theorem dX6_about_21 : decode cX6_about 21 = .ok (.iconst 0, 1) := by decide +kernel
theorem dX6_about_22 : decode cX6_about 22 = .ok (.ireturn, 1) := by decide +kernel
theorem dX6_about_23 : decode cX6_about 23 = .ok (.iload_n 1, 1) := by decide +kernel
theorem dX6_about_24 : decode cX6_about 24 = .ok (.ifCond .ne 12, 3) := by decide +kernel
theorem dX6_about_27 : decode cX6_about 27 = .ok (.aload_n 0, 1) := by decide +kernel
theorem dX6_about_28 : decode cX6_about 28 = .ok (.getfield 7, 3) := by decide +kernel
theorem dX6_about_31 : decode cX6_about 31 = .ok (.iconst 0, 1) := by decide +kernel
theorem dX6_about_32 : decode cX6_about 32 = .ok (.iaload, 1) := by decide +kernel
theorem dX6_about_33 : decode cX6_about 33 = .ok (.goto 79, 3) := by decide +kernel
theorem dX6_about_36 : decode cX6_about 36 = .ok (.iload_n 1, 1) := by decide +kernel
theorem dX6_about_37 : decode cX6_about 37 = .ok (.iconst 1, 1) := by decide +kernel
theorem dX6_about_38 : decode cX6_about 38 = .ok (.if_icmp .ne 12, 3) := by decide +kernel
theorem dX6_about_41 : decode cX6_about 41 = .ok (.aload_n 0, 1) := by decide +kernel
theorem dX6_about_42 : decode cX6_about 42 = .ok (.getfield 7, 3) := by decide +kernel
theorem dX6_about_45 : decode cX6_about 45 = .ok (.iconst 1, 1) := by decide +kernel
theorem dX6_about_46 : decode cX6_about 46 = .ok (.iaload, 1) := by decide +kernel
theorem dX6_about_47 : decode cX6_about 47 = .ok (.goto 65, 3) := by decide +kernel
theorem dX6_about_50 : decode cX6_about 50 = .ok (.iload_n 1, 1) := by decide +kernel
theorem dX6_about_51 : decode cX6_about 51 = .ok (.iconst 2, 1) := by decide +kernel
theorem dX6_about_52 : decode cX6_about 52 = .ok (.if_icmp .ne 26, 3) := by decide +kernel
theorem dX6_about_55 : decode cX6_about 55 = .ok (.aload_n 0, 1) := by decide +kernel
theorem dX6_about_56 : decode cX6_about 56 = .ok (.getfield 7, 3) := by decide +kernel
theorem dX6_about_59 : decode cX6_about 59 = .ok (.iconst 0, 1) := by decide +kernel
theorem dX6_about_60 : decode cX6_about 60 = .ok (.iaload, 1) := by decide +kernel
theorem dX6_about_61 : decode cX6_about 61 = .ok (.iconst 1, 1) := by decide +kernel
theorem dX6_about_62 : decode cX6_about 62 = .ok (.if_icmp .ne 12, 3) := by decide +kernel
theorem dX6_about_65 : decode cX6_about 65 = .ok (.aload_n 0, 1) := by decide +kernel
theorem dX6_about_66 : decode cX6_about 66 = .ok (.getfield 7, 3) := by decide +kernel
theorem dX6_about_69 : decode cX6_about 69 = .ok (.iconst 2, 1) := by decide +kernel
theorem dX6_about_70 : decode cX6_about 70 = .ok (.iaload, 1) := by decide +kernel
theorem dX6_about_71 : decode cX6_about 71 = .ok (.goto 41, 3) := by decide +kernel
theorem dX6_about_74 : decode cX6_about 74 = .ok (.iconst (-1), 1) := by decide +kernel
theorem dX6_about_75 : decode cX6_about 75 = .ok (.goto 37, 3) := by decide +kernel
theorem dX6_about_78 : decode cX6_about 78 = .ok (.iload_n 1, 1) := by decide +kernel
theorem dX6_about_79 : decode cX6_about 79 = .ok (.iconst 3, 1) := by decide +kernel
theorem dX6_about_80 : decode cX6_about 80 = .ok (.if_icmp .ne 12, 3) := by decide +kernel
theorem dX6_about_83 : decode cX6_about 83 = .ok (.aload_n 0, 1) := by decide +kernel
theorem dX6_about_84 : decode cX6_about 84 = .ok (.getfield 7, 3) := by decide +kernel
theorem dX6_about_87 : decode cX6_about 87 = .ok (.iconst 3, 1) := by decide +kernel
theorem dX6_about_88 : decode cX6_about 88 = .ok (.iaload, 1) := by decide +kernel
theorem dX6_about_89 : decode cX6_about 89 = .ok (.goto 23, 3) := by decide +kernel
theorem dX6_about_92 : decode cX6_about 92 = .ok (.aload_n 0, 1) := by decide +kernel
theorem dX6_about_93 : decode cX6_about 93 = .ok (.getfield 7, 3) := by decide +kernel
theorem dX6_about_96 : decode cX6_about 96 = .ok (.iconst 1, 1) := by decide +kernel
theorem dX6_about_97 : decode cX6_about 97 = .ok (.iaload, 1) := by decide +kernel
theorem dX6_about_98 : decode cX6_about 98 = .ok (.iconst 1, 1) := by decide +kernel
theorem dX6_about_99 : decode cX6_about 99 = .ok (.if_icmp .ne 12, 3) := by decide +kernel
theorem dX6_about_102 : decode cX6_about 102 = .ok (.aload_n 0, 1) := by decide +kernel
theorem dX6_about_103 : decode cX6_about 103 = .ok (.getfield 7, 3) := by decide +kernel
theorem dX6_about_106 : decode cX6_about 106 = .ok (.iconst 5, 1) := by decide +kernel
theorem dX6_about_107 : decode cX6_about 107 = .ok (.iaload, 1) := by decide +kernel
theorem dX6_about_108 : decode cX6_about 108 = .ok (.goto 4, 3) := by decide +kernel
theorem dX6_about_111 : decode cX6_about 111 = .ok (.iconst (-1), 1) := by decide +kernel
theorem dX6_about_112 : decode cX6_about 112 = .ok (.ireturn, 1) := by decide +kernel
theorem dX6_of_0 : decode cX6_of 0 = .ok (.aload_n 0, 1) := by decide +kernel
theorem dX6_of_1 : decode cX6_of 1 = .ok (.iload_n 1, 1) := by decide +kernel
theorem dX6_of_2 : decode cX6_of 2 = .ok (.invokestatic 28, 3) := by decide +kernel
theorem dX6_of_5 : decode cX6_of 5 = .ok (.ifCond .ne 7, 3) := by decide +kernel
theorem dX6_of_8 : decode cX6_of 8 = .ok (.iconst 1, 1) := by decide +kernel
theorem dX6_of_9 : decode cX6_of 9 = .ok (.goto 17, 3) := by decide +kernel
theorem dX6_of_12 : decode cX6_of 12 = .ok (.iload_n 2, 1) := by decide +kernel
theorem dX6_of_13 : decode cX6_of 13 = .ok (.iconst 0, 1) := by decide +kernel
theorem dX6_of_14 : decode cX6_of 14 = .ok (.iconst 1, 1) := by decide +kernel
theorem dX6_of_15 : decode cX6_of 15 = .ok (.invokestatic 20, 3) := by decide +kernel
theorem dX6_of_18 : decode cX6_of 18 = .ok (.ifCond .eq 7, 3) := by decide +kernel
theorem dX6_of_21 : decode cX6_of 21 = .ok (.iconst 0, 1) := by decide +kernel
theorem dX6_of_22 : decode cX6_of 22 = .ok (.goto 4, 3) := by decide +kernel
theorem dX6_of_25 : decode cX6_of 25 = .ok (.iconst 2, 1) := by decide +kernel
theorem dX6_of_26 : decode cX6_of 26 = .ok (.invokevirtual 39, 3) := by decide +kernel
theorem dX6_of_29 : decode cX6_of 29 = .ok (.ifCond .ne 5, 3) := by decide +kernel
theorem dX6_of_32 : decode cX6_of 32 = .ok (.iconst 0, 1) := by decide +kernel
theorem dX6_of_33 : decode cX6_of 33 = .ok (.ireturn, 1) := by decide +kernel
theorem dX6_of_34 : decode cX6_of 34 = .ok (.iload_n 2, 1) := by decide +kernel
theorem dX6_of_35 : decode cX6_of 35 = .ok (.ifCond .ne 15, 3) := by decide +kernel
theorem dX6_of_38 : decode cX6_of 38 = .ok (.aload_n 0, 1) := by decide +kernel
theorem dX6_of_39 : decode cX6_of 39 = .ok (.getfield 7, 3) := by decide +kernel
theorem dX6_of_42 : decode cX6_of 42 = .ok (.bipush 32, 2) := by decide +kernel
theorem dX6_of_44 : decode cX6_of 44 = .ok (.iload_n 1, 1) := by decide +kernel
theorem dX6_of_45 : decode cX6_of 45 = .ok (.iadd, 1) := by decide +kernel
theorem dX6_of_46 : decode cX6_of 46 = .ok (.iaload, 1) := by decide +kernel
theorem dX6_of_47 : decode cX6_of 47 = .ok (.goto 12, 3) := by decide +kernel
theorem dX6_of_50 : decode cX6_of 50 = .ok (.aload_n 0, 1) := by decide +kernel
theorem dX6_of_51 : decode cX6_of 51 = .ok (.getfield 7, 3) := by decide +kernel
theorem dX6_of_54 : decode cX6_of 54 = .ok (.bipush 34, 2) := by decide +kernel
theorem dX6_of_56 : decode cX6_of 56 = .ok (.iload_n 1, 1) := by decide +kernel
theorem dX6_of_57 : decode cX6_of 57 = .ok (.iadd, 1) := by decide +kernel
theorem dX6_of_58 : decode cX6_of 58 = .ok (.iaload, 1) := by decide +kernel
theorem dX6_of_59 : decode cX6_of 59 = .ok (.ireturn, 1) := by decide +kernel
theorem dX6_lost_0 : decode cX6_lost 0 = .ok (.aload_n 0, 1) := by decide +kernel
theorem dX6_lost_1 : decode cX6_lost 1 = .ok (.iload_n 1, 1) := by decide +kernel
theorem dX6_lost_2 : decode cX6_lost 2 = .ok (.invokestatic 28, 3) := by decide +kernel
theorem dX6_lost_5 : decode cX6_lost 5 = .ok (.ifCond .ne 7, 3) := by decide +kernel
theorem dX6_lost_8 : decode cX6_lost 8 = .ok (.iconst 1, 1) := by decide +kernel
theorem dX6_lost_9 : decode cX6_lost 9 = .ok (.goto 17, 3) := by decide +kernel
theorem dX6_lost_12 : decode cX6_lost 12 = .ok (.iload_n 2, 1) := by decide +kernel
theorem dX6_lost_13 : decode cX6_lost 13 = .ok (.iconst 0, 1) := by decide +kernel
theorem dX6_lost_14 : decode cX6_lost 14 = .ok (.iconst 5, 1) := by decide +kernel
theorem dX6_lost_15 : decode cX6_lost 15 = .ok (.invokestatic 20, 3) := by decide +kernel
theorem dX6_lost_18 : decode cX6_lost 18 = .ok (.ifCond .eq 7, 3) := by decide +kernel
theorem dX6_lost_21 : decode cX6_lost 21 = .ok (.iconst 0, 1) := by decide +kernel
theorem dX6_lost_22 : decode cX6_lost 22 = .ok (.goto 4, 3) := by decide +kernel
theorem dX6_lost_25 : decode cX6_lost 25 = .ok (.iconst 2, 1) := by decide +kernel
theorem dX6_lost_26 : decode cX6_lost 26 = .ok (.invokevirtual 39, 3) := by decide +kernel
theorem dX6_lost_29 : decode cX6_lost 29 = .ok (.ifCond .ne 5, 3) := by decide +kernel
theorem dX6_lost_32 : decode cX6_lost 32 = .ok (.iconst 0, 1) := by decide +kernel
theorem dX6_lost_33 : decode cX6_lost 33 = .ok (.ireturn, 1) := by decide +kernel
theorem dX6_lost_34 : decode cX6_lost 34 = .ok (.aload_n 0, 1) := by decide +kernel
theorem dX6_lost_35 : decode cX6_lost 35 = .ok (.getfield 7, 3) := by decide +kernel
theorem dX6_lost_38 : decode cX6_lost 38 = .ok (.bipush 80, 2) := by decide +kernel
theorem dX6_lost_40 : decode cX6_lost 40 = .ok (.bipush 6, 2) := by decide +kernel
theorem dX6_lost_42 : decode cX6_lost 42 = .ok (.iload_n 1, 1) := by decide +kernel
theorem dX6_lost_43 : decode cX6_lost 43 = .ok (.imul, 1) := by decide +kernel
theorem dX6_lost_44 : decode cX6_lost 44 = .ok (.iadd, 1) := by decide +kernel
theorem dX6_lost_45 : decode cX6_lost 45 = .ok (.iload_n 2, 1) := by decide +kernel
theorem dX6_lost_46 : decode cX6_lost 46 = .ok (.iadd, 1) := by decide +kernel
theorem dX6_lost_47 : decode cX6_lost 47 = .ok (.iaload, 1) := by decide +kernel
theorem dX6_lost_48 : decode cX6_lost 48 = .ok (.ireturn, 1) := by decide +kernel

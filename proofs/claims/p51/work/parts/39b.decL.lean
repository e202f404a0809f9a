theorem dL_init_0 : decode cL_init 0 = .ok (.aload_n 0, 1) := by decide +kernel
theorem dL_init_1 : decode cL_init 1 = .ok (.invokespecial 1, 3) := by decide +kernel
theorem dL_init_4 : decode cL_init 4 = .ok (.aload_n 0, 1) := by decide +kernel
theorem dL_init_5 : decode cL_init 5 = .ok (.new 7, 3) := by decide +kernel
theorem dL_init_8 : decode cL_init 8 = .ok (.dup, 1) := by decide +kernel
theorem dL_init_9 : decode cL_init 9 = .ok (.invokespecial 9, 3) := by decide +kernel
theorem dL_init_12 : decode cL_init 12 = .ok (.putfield 10, 3) := by decide +kernel
theorem dL_init_15 : decode cL_init 15 = .ok (.aload_n 0, 1) := by decide +kernel
theorem dL_init_16 : decode cL_init 16 = .ok (.bipush 40, 2) := by decide +kernel
theorem dL_init_18 : decode cL_init 18 = .ok (.newarray .int, 2) := by decide +kernel
theorem dL_init_20 : decode cL_init 20 = .ok (.putfield 16, 3) := by decide +kernel
theorem dL_init_23 : decode cL_init 23 = .ok (.aload_n 0, 1) := by decide +kernel
theorem dL_init_24 : decode cL_init 24 = .ok (.bipush 40, 2) := by decide +kernel
theorem dL_init_26 : decode cL_init 26 = .ok (.newarray .int, 2) := by decide +kernel
theorem dL_init_28 : decode cL_init 28 = .ok (.putfield 20, 3) := by decide +kernel
theorem dL_init_31 : decode cL_init 31 = .ok (.aload_n 0, 1) := by decide +kernel
theorem dL_init_32 : decode cL_init 32 = .ok (.bipush 40, 2) := by decide +kernel
theorem dL_init_34 : decode cL_init 34 = .ok (.newarray .int, 2) := by decide +kernel
theorem dL_init_36 : decode cL_init 36 = .ok (.putfield 23, 3) := by decide +kernel
theorem dL_init_39 : decode cL_init 39 = .ok (.aload_n 0, 1) := by decide +kernel
theorem dL_init_40 : decode cL_init 40 = .ok (.bipush 16, 2) := by decide +kernel
theorem dL_init_42 : decode cL_init 42 = .ok (.newarray .int, 2) := by decide +kernel
theorem dL_init_44 : decode cL_init 44 = .ok (.putfield 26, 3) := by decide +kernel
theorem dL_init_47 : decode cL_init 47 = .ok (.aload_n 0, 1) := by decide +kernel
theorem dL_init_48 : decode cL_init 48 = .ok (.bipush 16, 2) := by decide +kernel
theorem dL_init_50 : decode cL_init 50 = .ok (.newarray .int, 2) := by decide +kernel
theorem dL_init_52 : decode cL_init 52 = .ok (.putfield 29, 3) := by decide +kernel
theorem dL_init_55 : decode cL_init 55 = .ok (.aload_n 0, 1) := by decide +kernel
theorem dL_init_56 : decode cL_init 56 = .ok (.bipush 80, 2) := by decide +kernel
theorem dL_init_58 : decode cL_init 58 = .ok (.newarray .int, 2) := by decide +kernel
theorem dL_init_60 : decode cL_init 60 = .ok (.putfield 32, 3) := by decide +kernel
theorem dL_init_63 : decode cL_init 63 = .ok (.aload_n 0, 1) := by decide +kernel
theorem dL_init_64 : decode cL_init 64 = .ok (.bipush 80, 2) := by decide +kernel
theorem dL_init_66 : decode cL_init 66 = .ok (.newarray .int, 2) := by decide +kernel
theorem dL_init_68 : decode cL_init 68 = .ok (.putfield 35, 3) := by decide +kernel
theorem dL_init_71 : decode cL_init 71 = .ok (.return_, 1) := by decide +kernel
theorem dL_next_0 : decode cL_next 0 = .ok (.aload_n 0, 1) := by decide +kernel
theorem dL_next_1 : decode cL_next 1 = .ok (.aload_n 0, 1) := by decide +kernel
theorem dL_next_2 : decode cL_next 2 = .ok (.getfield 38, 3) := by decide +kernel
theorem dL_next_5 : decode cL_next 5 = .ok (.ldc 42, 2) := by decide +kernel
theorem dL_next_7 : decode cL_next 7 = .ok (.imul, 1) := by decide +kernel
theorem dL_next_8 : decode cL_next 8 = .ok (.sipush 12345, 3) := by decide +kernel
theorem dL_next_11 : decode cL_next 11 = .ok (.iadd, 1) := by decide +kernel
theorem dL_next_12 : decode cL_next 12 = .ok (.putfield 38, 3) := by decide +kernel
theorem dL_next_15 : decode cL_next 15 = .ok (.aload_n 0, 1) := by decide +kernel
theorem dL_next_16 : decode cL_next 16 = .ok (.getfield 38, 3) := by decide +kernel
theorem dL_next_19 : decode cL_next 19 = .ok (.bipush 16, 2) := by decide +kernel
theorem dL_next_21 : decode cL_next 21 = .ok (.iushr, 1) := by decide +kernel
theorem dL_next_22 : decode cL_next 22 = .ok (.iload_n 1, 1) := by decide +kernel
theorem dL_next_23 : decode cL_next 23 = .ok (.irem, 1) := by decide +kernel
theorem dL_next_24 : decode cL_next 24 = .ok (.ireturn, 1) := by decide +kernel
theorem dL_common_0 : decode cL_common 0 = .ok (.iload_n 0, 1) := by decide +kernel
theorem dL_common_1 : decode cL_common 1 = .ok (.invokestatic 43, 3) := by decide +kernel
theorem dL_common_4 : decode cL_common 4 = .ok (.istore_n 2, 1) := by decide +kernel
theorem dL_common_5 : decode cL_common 5 = .ok (.iload_n 1, 1) := by decide +kernel
theorem dL_common_6 : decode cL_common 6 = .ok (.invokestatic 43, 3) := by decide +kernel
theorem dL_common_9 : decode cL_common 9 = .ok (.istore_n 3, 1) := by decide +kernel
theorem dL_common_10 : decode cL_common 10 = .ok (.iload_n 3, 1) := by decide +kernel
theorem dL_common_11 : decode cL_common 11 = .ok (.ifCond .le 16, 3) := by decide +kernel
theorem dL_common_14 : decode cL_common 14 = .ok (.iload_n 2, 1) := by decide +kernel
theorem dL_common_15 : decode cL_common 15 = .ok (.iload_n 3, 1) := by decide +kernel
theorem dL_common_16 : decode cL_common 16 = .ok (.irem, 1) := by decide +kernel
theorem dL_common_17 : decode cL_common 17 = .ok (.istore 4, 2) := by decide +kernel
theorem dL_common_19 : decode cL_common 19 = .ok (.iload_n 3, 1) := by decide +kernel
theorem dL_common_20 : decode cL_common 20 = .ok (.istore_n 2, 1) := by decide +kernel
theorem dL_common_21 : decode cL_common 21 = .ok (.iload 4, 2) := by decide +kernel
theorem dL_common_23 : decode cL_common 23 = .ok (.istore_n 3, 1) := by decide +kernel
theorem dL_common_24 : decode cL_common 24 = .ok (.goto (-14), 3) := by decide +kernel
theorem dL_common_27 : decode cL_common 27 = .ok (.iload_n 2, 1) := by decide +kernel
theorem dL_common_28 : decode cL_common 28 = .ok (.ireturn, 1) := by decide +kernel
theorem dL_turn_0 : decode cL_turn 0 = .ok (.iload_n 2, 1) := by decide +kernel
theorem dL_turn_1 : decode cL_turn 1 = .ok (.iload_n 0, 1) := by decide +kernel
theorem dL_turn_2 : decode cL_turn 2 = .ok (.isub, 1) := by decide +kernel
theorem dL_turn_3 : decode cL_turn 3 = .ok (.iload 5, 2) := by decide +kernel
theorem dL_turn_5 : decode cL_turn 5 = .ok (.iload_n 1, 1) := by decide +kernel
theorem dL_turn_6 : decode cL_turn 6 = .ok (.isub, 1) := by decide +kernel
theorem dL_turn_7 : decode cL_turn 7 = .ok (.imul, 1) := by decide +kernel
theorem dL_turn_8 : decode cL_turn 8 = .ok (.iload_n 3, 1) := by decide +kernel
theorem dL_turn_9 : decode cL_turn 9 = .ok (.iload_n 1, 1) := by decide +kernel
theorem dL_turn_10 : decode cL_turn 10 = .ok (.isub, 1) := by decide +kernel
theorem dL_turn_11 : decode cL_turn 11 = .ok (.iload 4, 2) := by decide +kernel
theorem dL_turn_13 : decode cL_turn 13 = .ok (.iload_n 0, 1) := by decide +kernel
theorem dL_turn_14 : decode cL_turn 14 = .ok (.isub, 1) := by decide +kernel
theorem dL_turn_15 : decode cL_turn 15 = .ok (.imul, 1) := by decide +kernel
theorem dL_turn_16 : decode cL_turn 16 = .ok (.isub, 1) := by decide +kernel
theorem dL_turn_17 : decode cL_turn 17 = .ok (.invokestatic 49, 3) := by decide +kernel
theorem dL_turn_20 : decode cL_turn 20 = .ok (.ireturn, 1) := by decide +kernel
theorem dL_spread_0 : decode cL_spread 0 = .ok (.aload_n 0, 1) := by decide +kernel
theorem dL_spread_1 : decode cL_spread 1 = .ok (.iconst 4, 1) := by decide +kernel
theorem dL_spread_2 : decode cL_spread 2 = .ok (.invokevirtual 54, 3) := by decide +kernel
theorem dL_spread_5 : decode cL_spread 5 = .ok (.istore_n 1, 1) := by decide +kernel
theorem dL_spread_6 : decode cL_spread 6 = .ok (.iload_n 1, 1) := by decide +kernel
theorem dL_spread_7 : decode cL_spread 7 = .ok (.ifCond .ne 7, 3) := by decide +kernel
theorem dL_spread_10 : decode cL_spread 10 = .ok (.iconst 3, 1) := by decide +kernel
theorem dL_spread_11 : decode cL_spread 11 = .ok (.goto 25, 3) := by decide +kernel
theorem dL_spread_14 : decode cL_spread 14 = .ok (.iload_n 1, 1) := by decide +kernel
theorem dL_spread_15 : decode cL_spread 15 = .ok (.iconst 1, 1) := by decide +kernel
theorem dL_spread_16 : decode cL_spread 16 = .ok (.if_icmp .ne 8, 3) := by decide +kernel
theorem dL_spread_19 : decode cL_spread 19 = .ok (.bipush 8, 2) := by decide +kernel
theorem dL_spread_21 : decode cL_spread 21 = .ok (.goto 15, 3) := by decide +kernel
theorem dL_spread_24 : decode cL_spread 24 = .ok (.iload_n 1, 1) := by decide +kernel
theorem dL_spread_25 : decode cL_spread 25 = .ok (.iconst 2, 1) := by decide +kernel
theorem dL_spread_26 : decode cL_spread 26 = .ok (.if_icmp .ne 8, 3) := by decide +kernel
theorem dL_spread_29 : decode cL_spread 29 = .ok (.bipush 25, 2) := by decide +kernel
theorem dL_spread_31 : decode cL_spread 31 = .ok (.goto 5, 3) := by decide +kernel
theorem dL_spread_34 : decode cL_spread 34 = .ok (.bipush 60, 2) := by decide +kernel
theorem dL_spread_36 : decode cL_spread 36 = .ok (.ireturn, 1) := by decide +kernel
theorem dL_many_0 : decode cL_many 0 = .ok (.iconst 0, 1) := by decide +kernel
theorem dL_many_1 : decode cL_many 1 = .ok (.istore_n 2, 1) := by decide +kernel
theorem dL_many_2 : decode cL_many 2 = .ok (.iconst 0, 1) := by decide +kernel
theorem dL_many_3 : decode cL_many 3 = .ok (.istore_n 3, 1) := by decide +kernel
theorem dL_many_4 : decode cL_many 4 = .ok (.iload_n 3, 1) := by decide +kernel
theorem dL_many_5 : decode cL_many 5 = .ok (.aload_n 0, 1) := by decide +kernel
theorem dL_many_6 : decode cL_many 6 = .ok (.getfield 57, 3) := by decide +kernel
theorem dL_many_9 : decode cL_many 9 = .ok (.if_icmp .ge 27, 3) := by decide +kernel
theorem dL_many_12 : decode cL_many 12 = .ok (.iload_n 2, 1) := by decide +kernel
theorem dL_many_13 : decode cL_many 13 = .ok (.aload_n 0, 1) := by decide +kernel
theorem dL_many_14 : decode cL_many 14 = .ok (.getfield 16, 3) := by decide +kernel
theorem dL_many_17 : decode cL_many 17 = .ok (.iload_n 3, 1) := by decide +kernel
theorem dL_many_18 : decode cL_many 18 = .ok (.iaload, 1) := by decide +kernel
theorem dL_many_19 : decode cL_many 19 = .ok (.iload_n 1, 1) := by decide +kernel
theorem dL_many_20 : decode cL_many 20 = .ok (.if_icmp .ne 7, 3) := by decide +kernel
theorem dL_many_23 : decode cL_many 23 = .ok (.iconst 1, 1) := by decide +kernel
theorem dL_many_24 : decode cL_many 24 = .ok (.goto 4, 3) := by decide +kernel
theorem dL_many_27 : decode cL_many 27 = .ok (.iconst 0, 1) := by decide +kernel
theorem dL_many_28 : decode cL_many 28 = .ok (.iadd, 1) := by decide +kernel
theorem dL_many_29 : decode cL_many 29 = .ok (.istore_n 2, 1) := by decide +kernel
theorem dL_many_30 : decode cL_many 30 = .ok (.iinc 3 1, 3) := by decide +kernel
theorem dL_many_33 : decode cL_many 33 = .ok (.goto (-29), 3) := by decide +kernel
theorem dL_many_36 : decode cL_many 36 = .ok (.iload_n 2, 1) := by decide +kernel
theorem dL_many_37 : decode cL_many 37 = .ok (.ireturn, 1) := by decide +kernel
theorem dL_holdsAll_0 : decode cL_holdsAll 0 = .ok (.iconst 0, 1) := by decide +kernel
theorem dL_holdsAll_1 : decode cL_holdsAll 1 = .ok (.istore_n 2, 1) := by decide +kernel
theorem dL_holdsAll_2 : decode cL_holdsAll 2 = .ok (.iload_n 2, 1) := by decide +kernel
theorem dL_holdsAll_3 : decode cL_holdsAll 3 = .ok (.aload_n 0, 1) := by decide +kernel
theorem dL_holdsAll_4 : decode cL_holdsAll 4 = .ok (.getfield 57, 3) := by decide +kernel
theorem dL_holdsAll_7 : decode cL_holdsAll 7 = .ok (.if_icmp .ge 43, 3) := by decide +kernel
theorem dL_holdsAll_10 : decode cL_holdsAll 10 = .ok (.aload_n 0, 1) := by decide +kernel
theorem dL_holdsAll_11 : decode cL_holdsAll 11 = .ok (.getfield 16, 3) := by decide +kernel
theorem dL_holdsAll_14 : decode cL_holdsAll 14 = .ok (.iload_n 2, 1) := by decide +kernel
theorem dL_holdsAll_15 : decode cL_holdsAll 15 = .ok (.iaload, 1) := by decide +kernel
theorem dL_holdsAll_16 : decode cL_holdsAll 16 = .ok (.iload_n 1, 1) := by decide +kernel
theorem dL_holdsAll_17 : decode cL_holdsAll 17 = .ok (.if_icmp .ne 27, 3) := by decide +kernel
theorem dL_holdsAll_20 : decode cL_holdsAll 20 = .ok (.aload_n 0, 1) := by decide +kernel
theorem dL_holdsAll_21 : decode cL_holdsAll 21 = .ok (.getfield 10, 3) := by decide +kernel
theorem dL_holdsAll_24 : decode cL_holdsAll 24 = .ok (.aload_n 0, 1) := by decide +kernel
theorem dL_holdsAll_25 : decode cL_holdsAll 25 = .ok (.getfield 20, 3) := by decide +kernel
theorem dL_holdsAll_28 : decode cL_holdsAll 28 = .ok (.iload_n 2, 1) := by decide +kernel
theorem dL_holdsAll_29 : decode cL_holdsAll 29 = .ok (.iaload, 1) := by decide +kernel
theorem dL_holdsAll_30 : decode cL_holdsAll 30 = .ok (.aload_n 0, 1) := by decide +kernel
theorem dL_holdsAll_31 : decode cL_holdsAll 31 = .ok (.getfield 23, 3) := by decide +kernel
theorem dL_holdsAll_34 : decode cL_holdsAll 34 = .ok (.iload_n 2, 1) := by decide +kernel
theorem dL_holdsAll_35 : decode cL_holdsAll 35 = .ok (.iaload, 1) := by decide +kernel
theorem dL_holdsAll_36 : decode cL_holdsAll 36 = .ok (.invokevirtual 85, 3) := by decide +kernel
theorem dL_holdsAll_39 : decode cL_holdsAll 39 = .ok (.ifCond .ge 5, 3) := by decide +kernel
theorem dL_holdsAll_42 : decode cL_holdsAll 42 = .ok (.iconst 0, 1) := by decide +kernel
theorem dL_holdsAll_43 : decode cL_holdsAll 43 = .ok (.ireturn, 1) := by decide +kernel
theorem dL_holdsAll_44 : decode cL_holdsAll 44 = .ok (.iinc 2 1, 3) := by decide +kernel
theorem dL_holdsAll_47 : decode cL_holdsAll 47 = .ok (.goto (-45), 3) := by decide +kernel
theorem dL_holdsAll_50 : decode cL_holdsAll 50 = .ok (.iconst 1, 1) := by decide +kernel
theorem dL_holdsAll_51 : decode cL_holdsAll 51 = .ok (.ireturn, 1) := by decide +kernel
theorem dL_isOfPoints_0 : decode cL_isOfPoints 0 = .ok (.iconst 0, 1) := by decide +kernel
theorem dL_isOfPoints_1 : decode cL_isOfPoints 1 = .ok (.istore_n 3, 1) := by decide +kernel
theorem dL_isOfPoints_2 : decode cL_isOfPoints 2 = .ok (.iload_n 3, 1) := by decide +kernel
theorem dL_isOfPoints_3 : decode cL_isOfPoints 3 = .ok (.aload_n 0, 1) := by decide +kernel
theorem dL_isOfPoints_4 : decode cL_isOfPoints 4 = .ok (.getfield 71, 3) := by decide +kernel
theorem dL_isOfPoints_7 : decode cL_isOfPoints 7 = .ok (.if_icmp .ge 101, 3) := by decide +kernel
theorem dL_isOfPoints_10 : decode cL_isOfPoints 10 = .ok (.iconst 0, 1) := by decide +kernel
theorem dL_isOfPoints_11 : decode cL_isOfPoints 11 = .ok (.istore 4, 2) := by decide +kernel
theorem dL_isOfPoints_13 : decode cL_isOfPoints 13 = .ok (.iconst 0, 1) := by decide +kernel
theorem dL_isOfPoints_14 : decode cL_isOfPoints 14 = .ok (.istore 5, 2) := by decide +kernel
theorem dL_isOfPoints_16 : decode cL_isOfPoints 16 = .ok (.iload 5, 2) := by decide +kernel
theorem dL_isOfPoints_18 : decode cL_isOfPoints 18 = .ok (.aload_n 0, 1) := by decide +kernel
theorem dL_isOfPoints_19 : decode cL_isOfPoints 19 = .ok (.getfield 57, 3) := by decide +kernel
theorem dL_isOfPoints_22 : decode cL_isOfPoints 22 = .ok (.if_icmp .ge 73, 3) := by decide +kernel
theorem dL_isOfPoints_25 : decode cL_isOfPoints 25 = .ok (.iload 4, 2) := by decide +kernel
theorem dL_isOfPoints_27 : decode cL_isOfPoints 27 = .ok (.aload_n 0, 1) := by decide +kernel
theorem dL_isOfPoints_28 : decode cL_isOfPoints 28 = .ok (.getfield 16, 3) := by decide +kernel
theorem dL_isOfPoints_31 : decode cL_isOfPoints 31 = .ok (.iload 5, 2) := by decide +kernel
theorem dL_isOfPoints_33 : decode cL_isOfPoints 33 = .ok (.iaload, 1) := by decide +kernel
theorem dL_isOfPoints_34 : decode cL_isOfPoints 34 = .ok (.iload_n 1, 1) := by decide +kernel
theorem dL_isOfPoints_35 : decode cL_isOfPoints 35 = .ok (.if_icmp .eq 14, 3) := by decide +kernel
theorem dL_isOfPoints_38 : decode cL_isOfPoints 38 = .ok (.aload_n 0, 1) := by decide +kernel
theorem dL_isOfPoints_39 : decode cL_isOfPoints 39 = .ok (.getfield 16, 3) := by decide +kernel
theorem dL_isOfPoints_42 : decode cL_isOfPoints 42 = .ok (.iload 5, 2) := by decide +kernel
theorem dL_isOfPoints_44 : decode cL_isOfPoints 44 = .ok (.iaload, 1) := by decide +kernel
theorem dL_isOfPoints_45 : decode cL_isOfPoints 45 = .ok (.iload_n 2, 1) := by decide +kernel
theorem dL_isOfPoints_46 : decode cL_isOfPoints 46 = .ok (.if_icmp .ne 39, 3) := by decide +kernel
theorem dL_isOfPoints_49 : decode cL_isOfPoints 49 = .ok (.aload_n 0, 1) := by decide +kernel
theorem dL_isOfPoints_50 : decode cL_isOfPoints 50 = .ok (.getfield 20, 3) := by decide +kernel
theorem dL_isOfPoints_53 : decode cL_isOfPoints 53 = .ok (.iload 5, 2) := by decide +kernel
theorem dL_isOfPoints_55 : decode cL_isOfPoints 55 = .ok (.iaload, 1) := by decide +kernel
theorem dL_isOfPoints_56 : decode cL_isOfPoints 56 = .ok (.aload_n 0, 1) := by decide +kernel
theorem dL_isOfPoints_57 : decode cL_isOfPoints 57 = .ok (.getfield 32, 3) := by decide +kernel
theorem dL_isOfPoints_60 : decode cL_isOfPoints 60 = .ok (.iload_n 3, 1) := by decide +kernel
theorem dL_isOfPoints_61 : decode cL_isOfPoints 61 = .ok (.iaload, 1) := by decide +kernel
theorem dL_isOfPoints_62 : decode cL_isOfPoints 62 = .ok (.if_icmp .ne 23, 3) := by decide +kernel
theorem dL_isOfPoints_65 : decode cL_isOfPoints 65 = .ok (.aload_n 0, 1) := by decide +kernel
theorem dL_isOfPoints_66 : decode cL_isOfPoints 66 = .ok (.getfield 23, 3) := by decide +kernel
theorem dL_isOfPoints_69 : decode cL_isOfPoints 69 = .ok (.iload 5, 2) := by decide +kernel
theorem dL_isOfPoints_71 : decode cL_isOfPoints 71 = .ok (.iaload, 1) := by decide +kernel
theorem dL_isOfPoints_72 : decode cL_isOfPoints 72 = .ok (.aload_n 0, 1) := by decide +kernel
theorem dL_isOfPoints_73 : decode cL_isOfPoints 73 = .ok (.getfield 35, 3) := by decide +kernel
theorem dL_isOfPoints_76 : decode cL_isOfPoints 76 = .ok (.iload_n 3, 1) := by decide +kernel
theorem dL_isOfPoints_77 : decode cL_isOfPoints 77 = .ok (.iaload, 1) := by decide +kernel
theorem dL_isOfPoints_78 : decode cL_isOfPoints 78 = .ok (.if_icmp .ne 7, 3) := by decide +kernel
theorem dL_isOfPoints_81 : decode cL_isOfPoints 81 = .ok (.iconst 1, 1) := by decide +kernel
theorem dL_isOfPoints_82 : decode cL_isOfPoints 82 = .ok (.goto 4, 3) := by decide +kernel
theorem dL_isOfPoints_85 : decode cL_isOfPoints 85 = .ok (.iconst 0, 1) := by decide +kernel
theorem dL_isOfPoints_86 : decode cL_isOfPoints 86 = .ok (.ior, 1) := by decide +kernel
theorem dL_isOfPoints_87 : decode cL_isOfPoints 87 = .ok (.istore 4, 2) := by decide +kernel
theorem dL_isOfPoints_89 : decode cL_isOfPoints 89 = .ok (.iinc 5 1, 3) := by decide +kernel
theorem dL_isOfPoints_92 : decode cL_isOfPoints 92 = .ok (.goto (-76), 3) := by decide +kernel
theorem dL_isOfPoints_95 : decode cL_isOfPoints 95 = .ok (.iload 4, 2) := by decide +kernel
theorem dL_isOfPoints_97 : decode cL_isOfPoints 97 = .ok (.ifCond .ne 5, 3) := by decide +kernel
theorem dL_isOfPoints_100 : decode cL_isOfPoints 100 = .ok (.iconst 0, 1) := by decide +kernel
theorem dL_isOfPoints_101 : decode cL_isOfPoints 101 = .ok (.ireturn, 1) := by decide +kernel
theorem dL_isOfPoints_102 : decode cL_isOfPoints 102 = .ok (.iinc 3 1, 3) := by decide +kernel
theorem dL_isOfPoints_105 : decode cL_isOfPoints 105 = .ok (.goto (-103), 3) := by decide +kernel
theorem dL_isOfPoints_108 : decode cL_isOfPoints 108 = .ok (.iconst 1, 1) := by decide +kernel
theorem dL_isOfPoints_109 : decode cL_isOfPoints 109 = .ok (.ireturn, 1) := by decide +kernel
theorem dL_areLayers_0 : decode cL_areLayers 0 = .ok (.aload_n 0, 1) := by decide +kernel
theorem dL_areLayers_1 : decode cL_areLayers 1 = .ok (.getfield 16, 3) := by decide +kernel
theorem dL_areLayers_4 : decode cL_areLayers 4 = .ok (.iconst 0, 1) := by decide +kernel
theorem dL_areLayers_5 : decode cL_areLayers 5 = .ok (.iaload, 1) := by decide +kernel
theorem dL_areLayers_6 : decode cL_areLayers 6 = .ok (.istore_n 1, 1) := by decide +kernel
theorem dL_areLayers_7 : decode cL_areLayers 7 = .ok (.aload_n 0, 1) := by decide +kernel
theorem dL_areLayers_8 : decode cL_areLayers 8 = .ok (.getfield 10, 3) := by decide +kernel
theorem dL_areLayers_11 : decode cL_areLayers 11 = .ok (.iload_n 1, 1) := by decide +kernel
theorem dL_areLayers_12 : decode cL_areLayers 12 = .ok (.invokevirtual 139, 3) := by decide +kernel
theorem dL_areLayers_15 : decode cL_areLayers 15 = .ok (.istore_n 2, 1) := by decide +kernel
theorem dL_areLayers_16 : decode cL_areLayers 16 = .ok (.iconst 0, 1) := by decide +kernel
theorem dL_areLayers_17 : decode cL_areLayers 17 = .ok (.istore_n 3, 1) := by decide +kernel
theorem dL_areLayers_18 : decode cL_areLayers 18 = .ok (.iconst 0, 1) := by decide +kernel
theorem dL_areLayers_19 : decode cL_areLayers 19 = .ok (.istore 4, 2) := by decide +kernel
theorem dL_areLayers_21 : decode cL_areLayers 21 = .ok (.iload 4, 2) := by decide +kernel
theorem dL_areLayers_23 : decode cL_areLayers 23 = .ok (.iload_n 2, 1) := by decide +kernel
theorem dL_areLayers_24 : decode cL_areLayers 24 = .ok (.if_icmp .ge 93, 3) := by decide +kernel
theorem dL_areLayers_27 : decode cL_areLayers 27 = .ok (.aload_n 0, 1) := by decide +kernel
theorem dL_areLayers_28 : decode cL_areLayers 28 = .ok (.getfield 10, 3) := by decide +kernel
theorem dL_areLayers_31 : decode cL_areLayers 31 = .ok (.iload_n 1, 1) := by decide +kernel
theorem dL_areLayers_32 : decode cL_areLayers 32 = .ok (.iload 4, 2) := by decide +kernel
theorem dL_areLayers_34 : decode cL_areLayers 34 = .ok (.invokevirtual 133, 3) := by decide +kernel
theorem dL_areLayers_37 : decode cL_areLayers 37 = .ok (.iconst 1, 1) := by decide +kernel
theorem dL_areLayers_38 : decode cL_areLayers 38 = .ok (.if_icmp .lt 10, 3) := by decide +kernel
theorem dL_areLayers_41 : decode cL_areLayers 41 = .ok (.aload_n 0, 1) := by decide +kernel
theorem dL_areLayers_42 : decode cL_areLayers 42 = .ok (.invokevirtual 119, 3) := by decide +kernel
theorem dL_areLayers_45 : decode cL_areLayers 45 = .ok (.ifCond .ne 5, 3) := by decide +kernel
theorem dL_areLayers_48 : decode cL_areLayers 48 = .ok (.iconst 0, 1) := by decide +kernel
theorem dL_areLayers_49 : decode cL_areLayers 49 = .ok (.ireturn, 1) := by decide +kernel
theorem dL_areLayers_50 : decode cL_areLayers 50 = .ok (.iconst 0, 1) := by decide +kernel
theorem dL_areLayers_51 : decode cL_areLayers 51 = .ok (.istore 5, 2) := by decide +kernel
theorem dL_areLayers_53 : decode cL_areLayers 53 = .ok (.iload 5, 2) := by decide +kernel
theorem dL_areLayers_55 : decode cL_areLayers 55 = .ok (.aload_n 0, 1) := by decide +kernel
theorem dL_areLayers_56 : decode cL_areLayers 56 = .ok (.getfield 57, 3) := by decide +kernel
theorem dL_areLayers_59 : decode cL_areLayers 59 = .ok (.if_icmp .ge 52, 3) := by decide +kernel
theorem dL_areLayers_62 : decode cL_areLayers 62 = .ok (.iload_n 3, 1) := by decide +kernel
theorem dL_areLayers_63 : decode cL_areLayers 63 = .ok (.aload_n 0, 1) := by decide +kernel
theorem dL_areLayers_64 : decode cL_areLayers 64 = .ok (.getfield 16, 3) := by decide +kernel
theorem dL_areLayers_67 : decode cL_areLayers 67 = .ok (.iload 5, 2) := by decide +kernel
theorem dL_areLayers_69 : decode cL_areLayers 69 = .ok (.iaload, 1) := by decide +kernel
theorem dL_areLayers_70 : decode cL_areLayers 70 = .ok (.iload_n 1, 1) := by decide +kernel
theorem dL_areLayers_71 : decode cL_areLayers 71 = .ok (.if_icmp .ne 31, 3) := by decide +kernel
theorem dL_areLayers_74 : decode cL_areLayers 74 = .ok (.aload_n 0, 1) := by decide +kernel
theorem dL_areLayers_75 : decode cL_areLayers 75 = .ok (.getfield 10, 3) := by decide +kernel
theorem dL_areLayers_78 : decode cL_areLayers 78 = .ok (.aload_n 0, 1) := by decide +kernel
theorem dL_areLayers_79 : decode cL_areLayers 79 = .ok (.getfield 20, 3) := by decide +kernel
theorem dL_areLayers_82 : decode cL_areLayers 82 = .ok (.iload 5, 2) := by decide +kernel
theorem dL_areLayers_84 : decode cL_areLayers 84 = .ok (.iaload, 1) := by decide +kernel
theorem dL_areLayers_85 : decode cL_areLayers 85 = .ok (.aload_n 0, 1) := by decide +kernel
theorem dL_areLayers_86 : decode cL_areLayers 86 = .ok (.getfield 23, 3) := by decide +kernel
theorem dL_areLayers_89 : decode cL_areLayers 89 = .ok (.iload 5, 2) := by decide +kernel
theorem dL_areLayers_91 : decode cL_areLayers 91 = .ok (.iaload, 1) := by decide +kernel
theorem dL_areLayers_92 : decode cL_areLayers 92 = .ok (.invokevirtual 85, 3) := by decide +kernel
theorem dL_areLayers_95 : decode cL_areLayers 95 = .ok (.ifCond .ne 7, 3) := by decide +kernel
theorem dL_areLayers_98 : decode cL_areLayers 98 = .ok (.iconst 1, 1) := by decide +kernel
theorem dL_areLayers_99 : decode cL_areLayers 99 = .ok (.goto 4, 3) := by decide +kernel
theorem dL_areLayers_102 : decode cL_areLayers 102 = .ok (.iconst 0, 1) := by decide +kernel
theorem dL_areLayers_103 : decode cL_areLayers 103 = .ok (.iadd, 1) := by decide +kernel
theorem dL_areLayers_104 : decode cL_areLayers 104 = .ok (.istore_n 3, 1) := by decide +kernel
theorem dL_areLayers_105 : decode cL_areLayers 105 = .ok (.iinc 5 1, 3) := by decide +kernel
theorem dL_areLayers_108 : decode cL_areLayers 108 = .ok (.goto (-55), 3) := by decide +kernel
theorem dL_areLayers_111 : decode cL_areLayers 111 = .ok (.iinc 4 1, 3) := by decide +kernel
theorem dL_areLayers_114 : decode cL_areLayers 114 = .ok (.goto (-93), 3) := by decide +kernel
theorem dL_areLayers_117 : decode cL_areLayers 117 = .ok (.iload_n 3, 1) := by decide +kernel
theorem dL_areLayers_118 : decode cL_areLayers 118 = .ok (.aload_n 0, 1) := by decide +kernel
theorem dL_areLayers_119 : decode cL_areLayers 119 = .ok (.iload_n 1, 1) := by decide +kernel
theorem dL_areLayers_120 : decode cL_areLayers 120 = .ok (.invokevirtual 142, 3) := by decide +kernel
theorem dL_areLayers_123 : decode cL_areLayers 123 = .ok (.if_icmp .ne 7, 3) := by decide +kernel
theorem dL_areLayers_126 : decode cL_areLayers 126 = .ok (.iconst 1, 1) := by decide +kernel
theorem dL_areLayers_127 : decode cL_areLayers 127 = .ok (.goto 4, 3) := by decide +kernel
theorem dL_areLayers_130 : decode cL_areLayers 130 = .ok (.iconst 0, 1) := by decide +kernel
theorem dL_areLayers_131 : decode cL_areLayers 131 = .ok (.ireturn, 1) := by decide +kernel
theorem dL_isRestored_0 : decode cL_isRestored 0 = .ok (.aload_n 0, 1) := by decide +kernel
theorem dL_isRestored_1 : decode cL_isRestored 1 = .ok (.getfield 10, 3) := by decide +kernel
theorem dL_isRestored_4 : decode cL_isRestored 4 = .ok (.invokevirtual 242, 3) := by decide +kernel
theorem dL_isRestored_7 : decode cL_isRestored 7 = .ok (.aload_n 0, 1) := by decide +kernel
theorem dL_isRestored_8 : decode cL_isRestored 8 = .ok (.getfield 57, 3) := by decide +kernel
theorem dL_isRestored_11 : decode cL_isRestored 11 = .ok (.if_icmp .eq 5, 3) := by decide +kernel
theorem dL_isRestored_14 : decode cL_isRestored 14 = .ok (.iconst 0, 1) := by decide +kernel
theorem dL_isRestored_15 : decode cL_isRestored 15 = .ok (.ireturn, 1) := by decide +kernel
theorem dL_isRestored_16 : decode cL_isRestored 16 = .ok (.aload_n 0, 1) := by decide +kernel
theorem dL_isRestored_17 : decode cL_isRestored 17 = .ok (.aload_n 0, 1) := by decide +kernel
theorem dL_isRestored_18 : decode cL_isRestored 18 = .ok (.getfield 57, 3) := by decide +kernel
theorem dL_isRestored_21 : decode cL_isRestored 21 = .ok (.invokevirtual 54, 3) := by decide +kernel
theorem dL_isRestored_24 : decode cL_isRestored 24 = .ok (.istore_n 1, 1) := by decide +kernel
theorem dL_isRestored_25 : decode cL_isRestored 25 = .ok (.aload_n 0, 1) := by decide +kernel
theorem dL_isRestored_26 : decode cL_isRestored 26 = .ok (.aload_n 0, 1) := by decide +kernel
theorem dL_isRestored_27 : decode cL_isRestored 27 = .ok (.getfield 16, 3) := by decide +kernel
theorem dL_isRestored_30 : decode cL_isRestored 30 = .ok (.iload_n 1, 1) := by decide +kernel
theorem dL_isRestored_31 : decode cL_isRestored 31 = .ok (.iaload, 1) := by decide +kernel
theorem dL_isRestored_32 : decode cL_isRestored 32 = .ok (.invokevirtual 142, 3) := by decide +kernel
theorem dL_isRestored_35 : decode cL_isRestored 35 = .ok (.iconst 1, 1) := by decide +kernel
theorem dL_isRestored_36 : decode cL_isRestored 36 = .ok (.isub, 1) := by decide +kernel
theorem dL_isRestored_37 : decode cL_isRestored 37 = .ok (.istore_n 2, 1) := by decide +kernel
theorem dL_isRestored_38 : decode cL_isRestored 38 = .ok (.aload_n 0, 1) := by decide +kernel
theorem dL_isRestored_39 : decode cL_isRestored 39 = .ok (.getfield 10, 3) := by decide +kernel
theorem dL_isRestored_42 : decode cL_isRestored 42 = .ok (.iload_n 1, 1) := by decide +kernel
theorem dL_isRestored_43 : decode cL_isRestored 43 = .ok (.invokevirtual 245, 3) := by decide +kernel
theorem dL_isRestored_46 : decode cL_isRestored 46 = .ok (.iload_n 2, 1) := by decide +kernel
theorem dL_isRestored_47 : decode cL_isRestored 47 = .ok (.if_icmp .ne 41, 3) := by decide +kernel
theorem dL_isRestored_50 : decode cL_isRestored 50 = .ok (.aload_n 0, 1) := by decide +kernel
theorem dL_isRestored_51 : decode cL_isRestored 51 = .ok (.getfield 10, 3) := by decide +kernel
theorem dL_isRestored_54 : decode cL_isRestored 54 = .ok (.aload_n 0, 1) := by decide +kernel
theorem dL_isRestored_55 : decode cL_isRestored 55 = .ok (.getfield 16, 3) := by decide +kernel
theorem dL_isRestored_58 : decode cL_isRestored 58 = .ok (.iload_n 1, 1) := by decide +kernel
theorem dL_isRestored_59 : decode cL_isRestored 59 = .ok (.iaload, 1) := by decide +kernel
theorem dL_isRestored_60 : decode cL_isRestored 60 = .ok (.invokevirtual 154, 3) := by decide +kernel
theorem dL_isRestored_63 : decode cL_isRestored 63 = .ok (.iload_n 2, 1) := by decide +kernel
theorem dL_isRestored_64 : decode cL_isRestored 64 = .ok (.if_icmp .ne 24, 3) := by decide +kernel
theorem dL_isRestored_67 : decode cL_isRestored 67 = .ok (.aload_n 0, 1) := by decide +kernel
theorem dL_isRestored_68 : decode cL_isRestored 68 = .ok (.getfield 10, 3) := by decide +kernel
theorem dL_isRestored_71 : decode cL_isRestored 71 = .ok (.iconst 0, 1) := by decide +kernel
theorem dL_isRestored_72 : decode cL_isRestored 72 = .ok (.invokevirtual 177, 3) := by decide +kernel
theorem dL_isRestored_75 : decode cL_isRestored 75 = .ok (.ifCond .lt 13, 3) := by decide +kernel
theorem dL_isRestored_78 : decode cL_isRestored 78 = .ok (.aload_n 0, 1) := by decide +kernel
theorem dL_isRestored_79 : decode cL_isRestored 79 = .ok (.getfield 10, 3) := by decide +kernel
theorem dL_isRestored_82 : decode cL_isRestored 82 = .ok (.invokevirtual 213, 3) := by decide +kernel
theorem dL_isRestored_85 : decode cL_isRestored 85 = .ok (.ifCond .ge 5, 3) := by decide +kernel
theorem dL_isRestored_88 : decode cL_isRestored 88 = .ok (.iconst 0, 1) := by decide +kernel
theorem dL_isRestored_89 : decode cL_isRestored 89 = .ok (.ireturn, 1) := by decide +kernel
theorem dL_isRestored_90 : decode cL_isRestored 90 = .ok (.aload_n 0, 1) := by decide +kernel
theorem dL_isRestored_91 : decode cL_isRestored 91 = .ok (.getfield 10, 3) := by decide +kernel
theorem dL_isRestored_94 : decode cL_isRestored 94 = .ok (.invokevirtual 248, 3) := by decide +kernel
theorem dL_isRestored_97 : decode cL_isRestored 97 = .ok (.aload_n 0, 1) := by decide +kernel
theorem dL_isRestored_98 : decode cL_isRestored 98 = .ok (.getfield 57, 3) := by decide +kernel
theorem dL_isRestored_101 : decode cL_isRestored 101 = .ok (.if_icmp .ne 72, 3) := by decide +kernel
theorem dL_isRestored_104 : decode cL_isRestored 104 = .ok (.aload_n 0, 1) := by decide +kernel
theorem dL_isRestored_105 : decode cL_isRestored 105 = .ok (.getfield 10, 3) := by decide +kernel
theorem dL_isRestored_108 : decode cL_isRestored 108 = .ok (.aload_n 0, 1) := by decide +kernel
theorem dL_isRestored_109 : decode cL_isRestored 109 = .ok (.getfield 16, 3) := by decide +kernel
theorem dL_isRestored_112 : decode cL_isRestored 112 = .ok (.iload_n 1, 1) := by decide +kernel
theorem dL_isRestored_113 : decode cL_isRestored 113 = .ok (.iaload, 1) := by decide +kernel
theorem dL_isRestored_114 : decode cL_isRestored 114 = .ok (.invokevirtual 154, 3) := by decide +kernel
theorem dL_isRestored_117 : decode cL_isRestored 117 = .ok (.iload_n 2, 1) := by decide +kernel
theorem dL_isRestored_118 : decode cL_isRestored 118 = .ok (.iconst 1, 1) := by decide +kernel
theorem dL_isRestored_119 : decode cL_isRestored 119 = .ok (.iadd, 1) := by decide +kernel
theorem dL_isRestored_120 : decode cL_isRestored 120 = .ok (.if_icmp .ne 53, 3) := by decide +kernel
theorem dL_isRestored_123 : decode cL_isRestored 123 = .ok (.aload_n 0, 1) := by decide +kernel
theorem dL_isRestored_124 : decode cL_isRestored 124 = .ok (.getfield 10, 3) := by decide +kernel
theorem dL_isRestored_127 : decode cL_isRestored 127 = .ok (.iload_n 1, 1) := by decide +kernel
theorem dL_isRestored_128 : decode cL_isRestored 128 = .ok (.iconst 1, 1) := by decide +kernel
theorem dL_isRestored_129 : decode cL_isRestored 129 = .ok (.invokevirtual 168, 3) := by decide +kernel
theorem dL_isRestored_132 : decode cL_isRestored 132 = .ok (.aload_n 0, 1) := by decide +kernel
theorem dL_isRestored_133 : decode cL_isRestored 133 = .ok (.getfield 20, 3) := by decide +kernel
theorem dL_isRestored_136 : decode cL_isRestored 136 = .ok (.iload_n 1, 1) := by decide +kernel
theorem dL_isRestored_137 : decode cL_isRestored 137 = .ok (.iaload, 1) := by decide +kernel
theorem dL_isRestored_138 : decode cL_isRestored 138 = .ok (.if_icmp .ne 35, 3) := by decide +kernel
theorem dL_isRestored_141 : decode cL_isRestored 141 = .ok (.aload_n 0, 1) := by decide +kernel
theorem dL_isRestored_142 : decode cL_isRestored 142 = .ok (.getfield 10, 3) := by decide +kernel
theorem dL_isRestored_145 : decode cL_isRestored 145 = .ok (.iload_n 1, 1) := by decide +kernel
theorem dL_isRestored_146 : decode cL_isRestored 146 = .ok (.iconst 2, 1) := by decide +kernel
theorem dL_isRestored_147 : decode cL_isRestored 147 = .ok (.invokevirtual 168, 3) := by decide +kernel
theorem dL_isRestored_150 : decode cL_isRestored 150 = .ok (.aload_n 0, 1) := by decide +kernel
theorem dL_isRestored_151 : decode cL_isRestored 151 = .ok (.getfield 23, 3) := by decide +kernel
theorem dL_isRestored_154 : decode cL_isRestored 154 = .ok (.iload_n 1, 1) := by decide +kernel
theorem dL_isRestored_155 : decode cL_isRestored 155 = .ok (.iaload, 1) := by decide +kernel
theorem dL_isRestored_156 : decode cL_isRestored 156 = .ok (.if_icmp .ne 17, 3) := by decide +kernel
theorem dL_isRestored_159 : decode cL_isRestored 159 = .ok (.aload_n 0, 1) := by decide +kernel
theorem dL_isRestored_160 : decode cL_isRestored 160 = .ok (.getfield 10, 3) := by decide +kernel
theorem dL_isRestored_163 : decode cL_isRestored 163 = .ok (.invokevirtual 251, 3) := by decide +kernel
theorem dL_isRestored_166 : decode cL_isRestored 166 = .ok (.ifCond .ne 7, 3) := by decide +kernel
theorem dL_isRestored_169 : decode cL_isRestored 169 = .ok (.iconst 1, 1) := by decide +kernel
theorem dL_isRestored_170 : decode cL_isRestored 170 = .ok (.goto 4, 3) := by decide +kernel
theorem dL_isRestored_173 : decode cL_isRestored 173 = .ok (.iconst 0, 1) := by decide +kernel
theorem dL_isRestored_174 : decode cL_isRestored 174 = .ok (.ireturn, 1) := by decide +kernel
theorem dL_stirred_0 : decode cL_stirred 0 = .ok (.ldc 254, 2) := by decide +kernel
theorem dL_stirred_2 : decode cL_stirred 2 = .ok (.istore_n 1, 1) := by decide +kernel
theorem dL_stirred_3 : decode cL_stirred 3 = .ok (.aload_n 0, 1) := by decide +kernel
theorem dL_stirred_4 : decode cL_stirred 4 = .ok (.astore_n 2, 1) := by decide +kernel
theorem dL_stirred_5 : decode cL_stirred 5 = .ok (.aload_n 2, 1) := by decide +kernel
theorem dL_stirred_6 : decode cL_stirred 6 = .ok (.arraylength, 1) := by decide +kernel
theorem dL_stirred_7 : decode cL_stirred 7 = .ok (.istore_n 3, 1) := by decide +kernel
theorem dL_stirred_8 : decode cL_stirred 8 = .ok (.iconst 0, 1) := by decide +kernel
theorem dL_stirred_9 : decode cL_stirred 9 = .ok (.istore 4, 2) := by decide +kernel
theorem dL_stirred_11 : decode cL_stirred 11 = .ok (.iload 4, 2) := by decide +kernel
theorem dL_stirred_13 : decode cL_stirred 13 = .ok (.iload_n 3, 1) := by decide +kernel
theorem dL_stirred_14 : decode cL_stirred 14 = .ok (.if_icmp .ge 34, 3) := by decide +kernel
theorem dL_stirred_17 : decode cL_stirred 17 = .ok (.aload_n 2, 1) := by decide +kernel
theorem dL_stirred_18 : decode cL_stirred 18 = .ok (.iload 4, 2) := by decide +kernel
theorem dL_stirred_20 : decode cL_stirred 20 = .ok (.iaload, 1) := by decide +kernel
theorem dL_stirred_21 : decode cL_stirred 21 = .ok (.istore 5, 2) := by decide +kernel
theorem dL_stirred_23 : decode cL_stirred 23 = .ok (.iload_n 1, 1) := by decide +kernel
theorem dL_stirred_24 : decode cL_stirred 24 = .ok (.iload 5, 2) := by decide +kernel
theorem dL_stirred_26 : decode cL_stirred 26 = .ok (.ixor, 1) := by decide +kernel
theorem dL_stirred_27 : decode cL_stirred 27 = .ok (.ldc 42, 2) := by decide +kernel
theorem dL_stirred_29 : decode cL_stirred 29 = .ok (.imul, 1) := by decide +kernel
theorem dL_stirred_30 : decode cL_stirred 30 = .ok (.sipush 12345, 3) := by decide +kernel
theorem dL_stirred_33 : decode cL_stirred 33 = .ok (.iadd, 1) := by decide +kernel
theorem dL_stirred_34 : decode cL_stirred 34 = .ok (.istore_n 1, 1) := by decide +kernel
theorem dL_stirred_35 : decode cL_stirred 35 = .ok (.iload_n 1, 1) := by decide +kernel
theorem dL_stirred_36 : decode cL_stirred 36 = .ok (.iload_n 1, 1) := by decide +kernel
theorem dL_stirred_37 : decode cL_stirred 37 = .ok (.bipush 15, 2) := by decide +kernel
theorem dL_stirred_39 : decode cL_stirred 39 = .ok (.iushr, 1) := by decide +kernel
theorem dL_stirred_40 : decode cL_stirred 40 = .ok (.ixor, 1) := by decide +kernel
theorem dL_stirred_41 : decode cL_stirred 41 = .ok (.istore_n 1, 1) := by decide +kernel
theorem dL_stirred_42 : decode cL_stirred 42 = .ok (.iinc 4 1, 3) := by decide +kernel
theorem dL_stirred_45 : decode cL_stirred 45 = .ok (.goto (-34), 3) := by decide +kernel
theorem dL_stirred_48 : decode cL_stirred 48 = .ok (.iload_n 1, 1) := by decide +kernel
theorem dL_stirred_49 : decode cL_stirred 49 = .ok (.ireturn, 1) := by decide +kernel
theorem dL_law_0 : decode cL_law 0 = .ok (.new 11, 3) := by decide +kernel
theorem dL_law_3 : decode cL_law 3 = .ok (.dup, 1) := by decide +kernel
theorem dL_law_4 : decode cL_law 4 = .ok (.invokespecial 255, 3) := by decide +kernel
theorem dL_law_7 : decode cL_law 7 = .ok (.astore_n 1, 1) := by decide +kernel
theorem dL_law_8 : decode cL_law 8 = .ok (.aload_n 1, 1) := by decide +kernel
theorem dL_law_9 : decode cL_law 9 = .ok (.aload_n 0, 1) := by decide +kernel
theorem dL_law_10 : decode cL_law 10 = .ok (.invokestatic 256, 3) := by decide +kernel
theorem dL_law_13 : decode cL_law 13 = .ok (.putfield 38, 3) := by decide +kernel
theorem dL_law_16 : decode cL_law 16 = .ok (.aload_n 1, 1) := by decide +kernel
theorem dL_law_17 : decode cL_law 17 = .ok (.invokevirtual 260, 3) := by decide +kernel
theorem dL_law_20 : decode cL_law 20 = .ok (.ifCond .eq 31, 3) := by decide +kernel
theorem dL_law_23 : decode cL_law 23 = .ok (.aload_n 1, 1) := by decide +kernel
theorem dL_law_24 : decode cL_law 24 = .ok (.invokevirtual 263, 3) := by decide +kernel
theorem dL_law_27 : decode cL_law 27 = .ok (.ifCond .eq 24, 3) := by decide +kernel
theorem dL_law_30 : decode cL_law 30 = .ok (.aload_n 1, 1) := by decide +kernel
theorem dL_law_31 : decode cL_law 31 = .ok (.invokevirtual 266, 3) := by decide +kernel
theorem dL_law_34 : decode cL_law 34 = .ok (.ifCond .eq 17, 3) := by decide +kernel
theorem dL_law_37 : decode cL_law 37 = .ok (.aload_n 1, 1) := by decide +kernel
theorem dL_law_38 : decode cL_law 38 = .ok (.invokevirtual 269, 3) := by decide +kernel
theorem dL_law_41 : decode cL_law 41 = .ok (.ifCond .eq 10, 3) := by decide +kernel
theorem dL_law_44 : decode cL_law 44 = .ok (.aload_n 1, 1) := by decide +kernel
theorem dL_law_45 : decode cL_law 45 = .ok (.invokevirtual 272, 3) := by decide +kernel
theorem dL_law_48 : decode cL_law 48 = .ok (.ifCond .ne 5, 3) := by decide +kernel
theorem dL_law_51 : decode cL_law 51 = .ok (.iconst 0, 1) := by decide +kernel
theorem dL_law_52 : decode cL_law 52 = .ok (.ireturn, 1) := by decide +kernel
theorem dL_law_53 : decode cL_law 53 = .ok (.iconst 0, 1) := by decide +kernel
theorem dL_law_54 : decode cL_law 54 = .ok (.istore_n 2, 1) := by decide +kernel
theorem dL_law_55 : decode cL_law 55 = .ok (.iload_n 2, 1) := by decide +kernel
theorem dL_law_56 : decode cL_law 56 = .ok (.iconst 3, 1) := by decide +kernel
theorem dL_law_57 : decode cL_law 57 = .ok (.if_icmp .ge 27, 3) := by decide +kernel
theorem dL_law_60 : decode cL_law 60 = .ok (.aload_n 1, 1) := by decide +kernel
theorem dL_law_61 : decode cL_law 61 = .ok (.iload_n 2, 1) := by decide +kernel
theorem dL_law_62 : decode cL_law 62 = .ok (.invokevirtual 275, 3) := by decide +kernel
theorem dL_law_65 : decode cL_law 65 = .ok (.ifCond .eq 11, 3) := by decide +kernel
theorem dL_law_68 : decode cL_law 68 = .ok (.aload_n 1, 1) := by decide +kernel
theorem dL_law_69 : decode cL_law 69 = .ok (.iload_n 2, 1) := by decide +kernel
theorem dL_law_70 : decode cL_law 70 = .ok (.invokevirtual 278, 3) := by decide +kernel
theorem dL_law_73 : decode cL_law 73 = .ok (.ifCond .ne 5, 3) := by decide +kernel
theorem dL_law_76 : decode cL_law 76 = .ok (.iconst 0, 1) := by decide +kernel
theorem dL_law_77 : decode cL_law 77 = .ok (.ireturn, 1) := by decide +kernel
theorem dL_law_78 : decode cL_law 78 = .ok (.iinc 2 1, 3) := by decide +kernel
theorem dL_law_81 : decode cL_law 81 = .ok (.goto (-26), 3) := by decide +kernel
theorem dL_law_84 : decode cL_law 84 = .ok (.aload_n 1, 1) := by decide +kernel
theorem dL_law_85 : decode cL_law 85 = .ok (.invokevirtual 281, 3) := by decide +kernel
theorem dL_law_88 : decode cL_law 88 = .ok (.ifCond .eq 14, 3) := by decide +kernel
theorem dL_law_91 : decode cL_law 91 = .ok (.aload_n 1, 1) := by decide +kernel
theorem dL_law_92 : decode cL_law 92 = .ok (.invokevirtual 284, 3) := by decide +kernel
theorem dL_law_95 : decode cL_law 95 = .ok (.ifCond .eq 7, 3) := by decide +kernel
theorem dL_law_98 : decode cL_law 98 = .ok (.iconst 1, 1) := by decide +kernel
theorem dL_law_99 : decode cL_law 99 = .ok (.goto 4, 3) := by decide +kernel
theorem dL_law_102 : decode cL_law 102 = .ok (.iconst 0, 1) := by decide +kernel
theorem dL_law_103 : decode cL_law 103 = .ok (.ireturn, 1) := by decide +kernel

theorem dX7_init_0 : decode cX7_init 0 = .ok (.aload_n 0, 1) := by decide +kernel
theorem dX7_init_1 : decode cX7_init 1 = .ok (.invokespecial 3, 3) := by decide +kernel
theorem dX7_init_4 : decode cX7_init 4 = .ok (.aload_n 0, 1) := by decide +kernel
theorem dX7_init_5 : decode cX7_init 5 = .ok (.new 9, 3) := by decide +kernel
theorem dX7_init_8 : decode cX7_init 8 = .ok (.dup, 1) := by decide +kernel
theorem dX7_init_9 : decode cX7_init 9 = .ok (.invokespecial 11, 3) := by decide +kernel
theorem dX7_init_12 : decode cX7_init 12 = .ok (.putfield 12, 3) := by decide +kernel
theorem dX7_init_15 : decode cX7_init 15 = .ok (.aload_n 0, 1) := by decide +kernel
theorem dX7_init_16 : decode cX7_init 16 = .ok (.new 9, 3) := by decide +kernel
theorem dX7_init_19 : decode cX7_init 19 = .ok (.dup, 1) := by decide +kernel
theorem dX7_init_20 : decode cX7_init 20 = .ok (.invokespecial 11, 3) := by decide +kernel
theorem dX7_init_23 : decode cX7_init 23 = .ok (.putfield 16, 3) := by decide +kernel
theorem dX7_init_26 : decode cX7_init 26 = .ok (.aload_n 0, 1) := by decide +kernel
theorem dX7_init_27 : decode cX7_init 27 = .ok (.iconst 0, 1) := by decide +kernel
theorem dX7_init_28 : decode cX7_init 28 = .ok (.putfield 19, 3) := by decide +kernel
theorem dX7_init_31 : decode cX7_init 31 = .ok (.aload_n 0, 1) := by decide +kernel
theorem dX7_init_32 : decode cX7_init 32 = .ok (.new 23, 3) := by decide +kernel
theorem dX7_init_35 : decode cX7_init 35 = .ok (.dup, 1) := by decide +kernel
theorem dX7_init_36 : decode cX7_init 36 = .ok (.bipush 61, 2) := by decide +kernel
theorem dX7_init_38 : decode cX7_init 38 = .ok (.invokespecial 25, 3) := by decide +kernel
theorem dX7_init_41 : decode cX7_init 41 = .ok (.putfield 28, 3) := by decide +kernel
theorem dX7_init_44 : decode cX7_init 44 = .ok (.aload_n 0, 1) := by decide +kernel
theorem dX7_init_45 : decode cX7_init 45 = .ok (.new 23, 3) := by decide +kernel
theorem dX7_init_48 : decode cX7_init 48 = .ok (.dup, 1) := by decide +kernel
theorem dX7_init_49 : decode cX7_init 49 = .ok (.bipush 60, 2) := by decide +kernel
theorem dX7_init_51 : decode cX7_init 51 = .ok (.invokespecial 25, 3) := by decide +kernel
theorem dX7_init_54 : decode cX7_init 54 = .ok (.putfield 32, 3) := by decide +kernel
theorem dX7_init_57 : decode cX7_init 57 = .ok (.aload_n 0, 1) := by decide +kernel
theorem dX7_init_58 : decode cX7_init 58 = .ok (.new 23, 3) := by decide +kernel
theorem dX7_init_61 : decode cX7_init 61 = .ok (.dup, 1) := by decide +kernel
theorem dX7_init_62 : decode cX7_init 62 = .ok (.bipush 60, 2) := by decide +kernel
theorem dX7_init_64 : decode cX7_init 64 = .ok (.invokespecial 25, 3) := by decide +kernel
theorem dX7_init_67 : decode cX7_init 67 = .ok (.putfield 35, 3) := by decide +kernel
theorem dX7_init_70 : decode cX7_init 70 = .ok (.aload_n 0, 1) := by decide +kernel
theorem dX7_init_71 : decode cX7_init 71 = .ok (.new 23, 3) := by decide +kernel
theorem dX7_init_74 : decode cX7_init 74 = .ok (.dup, 1) := by decide +kernel
theorem dX7_init_75 : decode cX7_init 75 = .ok (.bipush 61, 2) := by decide +kernel
theorem dX7_init_77 : decode cX7_init 77 = .ok (.invokespecial 25, 3) := by decide +kernel
theorem dX7_init_80 : decode cX7_init 80 = .ok (.putfield 38, 3) := by decide +kernel
theorem dX7_init_83 : decode cX7_init 83 = .ok (.aload_n 0, 1) := by decide +kernel
theorem dX7_init_84 : decode cX7_init 84 = .ok (.new 23, 3) := by decide +kernel
theorem dX7_init_87 : decode cX7_init 87 = .ok (.dup, 1) := by decide +kernel
theorem dX7_init_88 : decode cX7_init 88 = .ok (.bipush 61, 2) := by decide +kernel
theorem dX7_init_90 : decode cX7_init 90 = .ok (.invokespecial 25, 3) := by decide +kernel
theorem dX7_init_93 : decode cX7_init 93 = .ok (.putfield 41, 3) := by decide +kernel
theorem dX7_init_96 : decode cX7_init 96 = .ok (.aload_n 0, 1) := by decide +kernel
theorem dX7_init_97 : decode cX7_init 97 = .ok (.new 44, 3) := by decide +kernel
theorem dX7_init_100 : decode cX7_init 100 = .ok (.dup, 1) := by decide +kernel
theorem dX7_init_101 : decode cX7_init 101 = .ok (.invokespecial 46, 3) := by decide +kernel
theorem dX7_init_104 : decode cX7_init 104 = .ok (.putfield 47, 3) := by decide +kernel
theorem dX7_init_107 : decode cX7_init 107 = .ok (.aload_n 0, 1) := by decide +kernel
theorem dX7_init_108 : decode cX7_init 108 = .ok (.new 51, 3) := by decide +kernel
theorem dX7_init_111 : decode cX7_init 111 = .ok (.dup, 1) := by decide +kernel
theorem dX7_init_112 : decode cX7_init 112 = .ok (.invokespecial 53, 3) := by decide +kernel
theorem dX7_init_115 : decode cX7_init 115 = .ok (.putfield 54, 3) := by decide +kernel
theorem dX7_init_118 : decode cX7_init 118 = .ok (.return_, 1) := by decide +kernel
theorem dX7_point_0 : decode cX7_point 0 = .ok (.iload_n 1, 1) := by decide +kernel
theorem dX7_point_1 : decode cX7_point 1 = .ok (.invokestatic 58, 3) := by decide +kernel
theorem dX7_point_4 : decode cX7_point 4 = .ok (.iload_n 2, 1) := by decide +kernel
theorem dX7_point_5 : decode cX7_point 5 = .ok (.iload_n 3, 1) := by decide +kernel
theorem dX7_point_6 : decode cX7_point 6 = .ok (.invokestatic 61, 3) := by decide +kernel
theorem dX7_point_9 : decode cX7_point 9 = .ok (.aload_n 0, 1) := by decide +kernel
theorem dX7_point_10 : decode cX7_point 10 = .ok (.getfield 12, 3) := by decide +kernel
theorem dX7_point_13 : decode cX7_point 13 = .ok (.getfield 65, 3) := by decide +kernel
theorem dX7_point_16 : decode cX7_point 16 = .ok (.invokevirtual 68, 3) := by decide +kernel
theorem dX7_point_19 : decode cX7_point 19 = .ok (.bipush 60, 2) := by decide +kernel
theorem dX7_point_21 : decode cX7_point 21 = .ok (.if_icmp .lt 13, 3) := by decide +kernel
theorem dX7_point_24 : decode cX7_point 24 = .ok (.new 72, 3) := by decide +kernel
theorem dX7_point_27 : decode cX7_point 27 = .ok (.dup, 1) := by decide +kernel
theorem dX7_point_28 : decode cX7_point 28 = .ok (.ldc 74, 2) := by decide +kernel
theorem dX7_point_30 : decode cX7_point 30 = .ok (.invokespecial 76, 3) := by decide +kernel
theorem dX7_point_33 : decode cX7_point 33 = .ok (.athrow, 1) := by decide +kernel
theorem dX7_point_34 : decode cX7_point 34 = .ok (.aload_n 0, 1) := by decide +kernel
theorem dX7_point_35 : decode cX7_point 35 = .ok (.getfield 12, 3) := by decide +kernel
theorem dX7_point_38 : decode cX7_point 38 = .ok (.getfield 65, 3) := by decide +kernel
theorem dX7_point_41 : decode cX7_point 41 = .ok (.iload_n 2, 1) := by decide +kernel
theorem dX7_point_42 : decode cX7_point 42 = .ok (.iload_n 3, 1) := by decide +kernel
theorem dX7_point_43 : decode cX7_point 43 = .ok (.iload_n 1, 1) := by decide +kernel
theorem dX7_point_44 : decode cX7_point 44 = .ok (.invokevirtual 79, 3) := by decide +kernel
theorem dX7_point_47 : decode cX7_point 47 = .ok (.aload_n 0, 1) := by decide +kernel
theorem dX7_point_48 : decode cX7_point 48 = .ok (.getfield 12, 3) := by decide +kernel
theorem dX7_point_51 : decode cX7_point 51 = .ok (.getfield 65, 3) := by decide +kernel
theorem dX7_point_54 : decode cX7_point 54 = .ok (.invokevirtual 68, 3) := by decide +kernel
theorem dX7_point_57 : decode cX7_point 57 = .ok (.iconst 1, 1) := by decide +kernel
theorem dX7_point_58 : decode cX7_point 58 = .ok (.isub, 1) := by decide +kernel
theorem dX7_point_59 : decode cX7_point 59 = .ok (.ireturn, 1) := by decide +kernel
theorem dX7_drop_0 : decode cX7_drop 0 = .ok (.aload_n 0, 1) := by decide +kernel
theorem dX7_drop_1 : decode cX7_drop 1 = .ok (.iload_n 1, 1) := by decide +kernel
theorem dX7_drop_2 : decode cX7_drop 2 = .ok (.invokevirtual 83, 3) := by decide +kernel
theorem dX7_drop_5 : decode cX7_drop 5 = .ok (.aload_n 0, 1) := by decide +kernel
theorem dX7_drop_6 : decode cX7_drop 6 = .ok (.getfield 12, 3) := by decide +kernel
theorem dX7_drop_9 : decode cX7_drop 9 = .ok (.getfield 65, 3) := by decide +kernel
theorem dX7_drop_12 : decode cX7_drop 12 = .ok (.iload_n 1, 1) := by decide +kernel
theorem dX7_drop_13 : decode cX7_drop 13 = .ok (.invokevirtual 86, 3) := by decide +kernel
theorem dX7_drop_16 : decode cX7_drop 16 = .ok (.istore_n 2, 1) := by decide +kernel
theorem dX7_drop_17 : decode cX7_drop 17 = .ok (.aload_n 0, 1) := by decide +kernel
theorem dX7_drop_18 : decode cX7_drop 18 = .ok (.getfield 12, 3) := by decide +kernel
theorem dX7_drop_21 : decode cX7_drop 21 = .ok (.getfield 65, 3) := by decide +kernel
theorem dX7_drop_24 : decode cX7_drop 24 = .ok (.iload_n 1, 1) := by decide +kernel
theorem dX7_drop_25 : decode cX7_drop 25 = .ok (.iconst (-1), 1) := by decide +kernel
theorem dX7_drop_26 : decode cX7_drop 26 = .ok (.invokevirtual 90, 3) := by decide +kernel
theorem dX7_drop_29 : decode cX7_drop 29 = .ok (.aload_n 0, 1) := by decide +kernel
theorem dX7_drop_30 : decode cX7_drop 30 = .ok (.getfield 12, 3) := by decide +kernel
theorem dX7_drop_33 : decode cX7_drop 33 = .ok (.iload_n 2, 1) := by decide +kernel
theorem dX7_drop_34 : decode cX7_drop 34 = .ok (.invokevirtual 93, 3) := by decide +kernel
theorem dX7_drop_37 : decode cX7_drop 37 = .ok (.ireturn, 1) := by decide +kernel
theorem dX7_pointOf_0 : decode cX7_pointOf 0 = .ok (.aload_n 0, 1) := by decide +kernel
theorem dX7_pointOf_1 : decode cX7_pointOf 1 = .ok (.iload_n 1, 1) := by decide +kernel
theorem dX7_pointOf_2 : decode cX7_pointOf 2 = .ok (.invokevirtual 83, 3) := by decide +kernel
theorem dX7_pointOf_5 : decode cX7_pointOf 5 = .ok (.iload_n 2, 1) := by decide +kernel
theorem dX7_pointOf_6 : decode cX7_pointOf 6 = .ok (.tableswitch 62 0 2 #[26, 38, 50], 26) := by decide +kernel
theorem dX7_pointOf_32 : decode cX7_pointOf 32 = .ok (.aload_n 0, 1) := by decide +kernel
theorem dX7_pointOf_33 : decode cX7_pointOf 33 = .ok (.getfield 12, 3) := by decide +kernel
theorem dX7_pointOf_36 : decode cX7_pointOf 36 = .ok (.getfield 65, 3) := by decide +kernel
theorem dX7_pointOf_39 : decode cX7_pointOf 39 = .ok (.iload_n 1, 1) := by decide +kernel
theorem dX7_pointOf_40 : decode cX7_pointOf 40 = .ok (.invokevirtual 86, 3) := by decide +kernel
theorem dX7_pointOf_43 : decode cX7_pointOf 43 = .ok (.ireturn, 1) := by decide +kernel
theorem dX7_pointOf_44 : decode cX7_pointOf 44 = .ok (.aload_n 0, 1) := by decide +kernel
theorem dX7_pointOf_45 : decode cX7_pointOf 45 = .ok (.getfield 12, 3) := by decide +kernel
theorem dX7_pointOf_48 : decode cX7_pointOf 48 = .ok (.getfield 65, 3) := by decide +kernel
theorem dX7_pointOf_51 : decode cX7_pointOf 51 = .ok (.iload_n 1, 1) := by decide +kernel
theorem dX7_pointOf_52 : decode cX7_pointOf 52 = .ok (.invokevirtual 96, 3) := by decide +kernel
theorem dX7_pointOf_55 : decode cX7_pointOf 55 = .ok (.ireturn, 1) := by decide +kernel
theorem dX7_pointOf_56 : decode cX7_pointOf 56 = .ok (.aload_n 0, 1) := by decide +kernel
theorem dX7_pointOf_57 : decode cX7_pointOf 57 = .ok (.getfield 12, 3) := by decide +kernel
theorem dX7_pointOf_60 : decode cX7_pointOf 60 = .ok (.getfield 65, 3) := by decide +kernel
theorem dX7_pointOf_63 : decode cX7_pointOf 63 = .ok (.iload_n 1, 1) := by decide +kernel
theorem dX7_pointOf_64 : decode cX7_pointOf 64 = .ok (.invokevirtual 99, 3) := by decide +kernel
theorem dX7_pointOf_67 : decode cX7_pointOf 67 = .ok (.ireturn, 1) := by decide +kernel
theorem dX7_pointOf_68 : decode cX7_pointOf 68 = .ok (.new 102, 3) := by decide +kernel
theorem dX7_pointOf_71 : decode cX7_pointOf 71 = .ok (.dup, 1) := by decide +kernel
theorem dX7_pointOf_72 : decode cX7_pointOf 72 = .ok (.ldc 104, 2) := by decide +kernel
theorem dX7_pointOf_74 : decode cX7_pointOf 74 = .ok (.invokespecial 106, 3) := by decide +kernel
theorem dX7_pointOf_77 : decode cX7_pointOf 77 = .ok (.athrow, 1) := by decide +kernel
theorem dX7_count_0 : decode cX7_count 0 = .ok (.iload_n 1, 1) := by decide +kernel
theorem dX7_count_1 : decode cX7_count 1 = .ok (.invokestatic 58, 3) := by decide +kernel
theorem dX7_count_4 : decode cX7_count 4 = .ok (.aload_n 0, 1) := by decide +kernel
theorem dX7_count_5 : decode cX7_count 5 = .ok (.getfield 12, 3) := by decide +kernel
theorem dX7_count_8 : decode cX7_count 8 = .ok (.iload_n 1, 1) := by decide +kernel
theorem dX7_count_9 : decode cX7_count 9 = .ok (.invokevirtual 93, 3) := by decide +kernel
theorem dX7_count_12 : decode cX7_count 12 = .ok (.ireturn, 1) := by decide +kernel
theorem dX7_sorted_0 : decode cX7_sorted 0 = .ok (.iload_n 1, 1) := by decide +kernel
theorem dX7_sorted_1 : decode cX7_sorted 1 = .ok (.invokestatic 58, 3) := by decide +kernel
theorem dX7_sorted_4 : decode cX7_sorted 4 = .ok (.aload_n 0, 1) := by decide +kernel
theorem dX7_sorted_5 : decode cX7_sorted 5 = .ok (.iload_n 1, 1) := by decide +kernel
theorem dX7_sorted_6 : decode cX7_sorted 6 = .ok (.invokevirtual 107, 3) := by decide +kernel
theorem dX7_sorted_9 : decode cX7_sorted 9 = .ok (.iload_n 2, 1) := by decide +kernel
theorem dX7_sorted_10 : decode cX7_sorted 10 = .ok (.ifCond .lt 14, 3) := by decide +kernel
theorem dX7_sorted_13 : decode cX7_sorted 13 = .ok (.iload_n 2, 1) := by decide +kernel
theorem dX7_sorted_14 : decode cX7_sorted 14 = .ok (.aload_n 0, 1) := by decide +kernel
theorem dX7_sorted_15 : decode cX7_sorted 15 = .ok (.getfield 32, 3) := by decide +kernel
theorem dX7_sorted_18 : decode cX7_sorted 18 = .ok (.invokevirtual 68, 3) := by decide +kernel
theorem dX7_sorted_21 : decode cX7_sorted 21 = .ok (.if_icmp .lt 13, 3) := by decide +kernel
theorem dX7_sorted_24 : decode cX7_sorted 24 = .ok (.new 110, 3) := by decide +kernel
theorem dX7_sorted_27 : decode cX7_sorted 27 = .ok (.dup, 1) := by decide +kernel
theorem dX7_sorted_28 : decode cX7_sorted 28 = .ok (.ldc 112, 2) := by decide +kernel
theorem dX7_sorted_30 : decode cX7_sorted 30 = .ok (.invokespecial 114, 3) := by decide +kernel
theorem dX7_sorted_33 : decode cX7_sorted 33 = .ok (.athrow, 1) := by decide +kernel
theorem dX7_sorted_34 : decode cX7_sorted 34 = .ok (.aload_n 0, 1) := by decide +kernel
theorem dX7_sorted_35 : decode cX7_sorted 35 = .ok (.getfield 32, 3) := by decide +kernel
theorem dX7_sorted_38 : decode cX7_sorted 38 = .ok (.iload_n 2, 1) := by decide +kernel
theorem dX7_sorted_39 : decode cX7_sorted 39 = .ok (.invokevirtual 86, 3) := by decide +kernel
theorem dX7_sorted_42 : decode cX7_sorted 42 = .ok (.ireturn, 1) := by decide +kernel
theorem dX7_places_0 : decode cX7_places 0 = .ok (.iload_n 1, 1) := by decide +kernel
theorem dX7_places_1 : decode cX7_places 1 = .ok (.invokestatic 58, 3) := by decide +kernel
theorem dX7_places_4 : decode cX7_places 4 = .ok (.aload_n 0, 1) := by decide +kernel
theorem dX7_places_5 : decode cX7_places 5 = .ok (.iload_n 1, 1) := by decide +kernel
theorem dX7_places_6 : decode cX7_places 6 = .ok (.invokevirtual 107, 3) := by decide +kernel
theorem dX7_places_9 : decode cX7_places 9 = .ok (.iconst 0, 1) := by decide +kernel
theorem dX7_places_10 : decode cX7_places 10 = .ok (.istore_n 2, 1) := by decide +kernel
theorem dX7_places_11 : decode cX7_places 11 = .ok (.iconst 0, 1) := by decide +kernel
theorem dX7_places_12 : decode cX7_places 12 = .ok (.istore_n 3, 1) := by decide +kernel
theorem dX7_places_13 : decode cX7_places 13 = .ok (.iload_n 3, 1) := by decide +kernel
theorem dX7_places_14 : decode cX7_places 14 = .ok (.aload_n 0, 1) := by decide +kernel
theorem dX7_places_15 : decode cX7_places 15 = .ok (.getfield 32, 3) := by decide +kernel
theorem dX7_places_18 : decode cX7_places 18 = .ok (.invokevirtual 68, 3) := by decide +kernel
theorem dX7_places_21 : decode cX7_places 21 = .ok (.if_icmp .ge 45, 3) := by decide +kernel
theorem dX7_places_24 : decode cX7_places 24 = .ok (.iload_n 3, 1) := by decide +kernel
theorem dX7_places_25 : decode cX7_places 25 = .ok (.ifCond .eq 32, 3) := by decide +kernel
theorem dX7_places_28 : decode cX7_places 28 = .ok (.aload_n 0, 1) := by decide +kernel
theorem dX7_places_29 : decode cX7_places 29 = .ok (.getfield 32, 3) := by decide +kernel
theorem dX7_places_32 : decode cX7_places 32 = .ok (.iload_n 3, 1) := by decide +kernel
theorem dX7_places_33 : decode cX7_places 33 = .ok (.iconst 1, 1) := by decide +kernel
theorem dX7_places_34 : decode cX7_places 34 = .ok (.isub, 1) := by decide +kernel
theorem dX7_places_35 : decode cX7_places 35 = .ok (.aload_n 0, 1) := by decide +kernel
theorem dX7_places_36 : decode cX7_places 36 = .ok (.getfield 32, 3) := by decide +kernel
theorem dX7_places_39 : decode cX7_places 39 = .ok (.iload_n 3, 1) := by decide +kernel
theorem dX7_places_40 : decode cX7_places 40 = .ok (.invokevirtual 96, 3) := by decide +kernel
theorem dX7_places_43 : decode cX7_places 43 = .ok (.aload_n 0, 1) := by decide +kernel
theorem dX7_places_44 : decode cX7_places 44 = .ok (.getfield 32, 3) := by decide +kernel
theorem dX7_places_47 : decode cX7_places 47 = .ok (.iload_n 3, 1) := by decide +kernel
theorem dX7_places_48 : decode cX7_places 48 = .ok (.invokevirtual 99, 3) := by decide +kernel
theorem dX7_places_51 : decode cX7_places 51 = .ok (.invokevirtual 115, 3) := by decide +kernel
theorem dX7_places_54 : decode cX7_places 54 = .ok (.ifCond .ne 6, 3) := by decide +kernel
theorem dX7_places_57 : decode cX7_places 57 = .ok (.iinc 2 1, 3) := by decide +kernel
theorem dX7_places_60 : decode cX7_places 60 = .ok (.iinc 3 1, 3) := by decide +kernel
theorem dX7_places_63 : decode cX7_places 63 = .ok (.goto (-50), 3) := by decide +kernel
theorem dX7_places_66 : decode cX7_places 66 = .ok (.iload_n 2, 1) := by decide +kernel
theorem dX7_places_67 : decode cX7_places 67 = .ok (.ireturn, 1) := by decide +kernel
theorem dX7_turn_0 : decode cX7_turn 0 = .ok (.aload_n 0, 1) := by decide +kernel
theorem dX7_turn_1 : decode cX7_turn 1 = .ok (.iload_n 1, 1) := by decide +kernel
theorem dX7_turn_2 : decode cX7_turn 2 = .ok (.invokevirtual 83, 3) := by decide +kernel
theorem dX7_turn_5 : decode cX7_turn 5 = .ok (.aload_n 0, 1) := by decide +kernel
theorem dX7_turn_6 : decode cX7_turn 6 = .ok (.iload_n 2, 1) := by decide +kernel
theorem dX7_turn_7 : decode cX7_turn 7 = .ok (.invokevirtual 83, 3) := by decide +kernel
theorem dX7_turn_10 : decode cX7_turn 10 = .ok (.aload_n 0, 1) := by decide +kernel
theorem dX7_turn_11 : decode cX7_turn 11 = .ok (.iload_n 3, 1) := by decide +kernel
theorem dX7_turn_12 : decode cX7_turn 12 = .ok (.invokevirtual 83, 3) := by decide +kernel
theorem dX7_turn_15 : decode cX7_turn 15 = .ok (.aload_n 0, 1) := by decide +kernel
theorem dX7_turn_16 : decode cX7_turn 16 = .ok (.getfield 12, 3) := by decide +kernel
theorem dX7_turn_19 : decode cX7_turn 19 = .ok (.getfield 65, 3) := by decide +kernel
theorem dX7_turn_22 : decode cX7_turn 22 = .ok (.iload_n 1, 1) := by decide +kernel
theorem dX7_turn_23 : decode cX7_turn 23 = .ok (.iload_n 2, 1) := by decide +kernel
theorem dX7_turn_24 : decode cX7_turn 24 = .ok (.aload_n 0, 1) := by decide +kernel
theorem dX7_turn_25 : decode cX7_turn 25 = .ok (.getfield 12, 3) := by decide +kernel
theorem dX7_turn_28 : decode cX7_turn 28 = .ok (.getfield 65, 3) := by decide +kernel
theorem dX7_turn_31 : decode cX7_turn 31 = .ok (.iload_n 3, 1) := by decide +kernel
theorem dX7_turn_32 : decode cX7_turn 32 = .ok (.invokestatic 119, 3) := by decide +kernel
theorem dX7_turn_35 : decode cX7_turn 35 = .ok (.ireturn, 1) := by decide +kernel
theorem dX7_hull_0 : decode cX7_hull 0 = .ok (.iload_n 1, 1) := by decide +kernel
theorem dX7_hull_1 : decode cX7_hull 1 = .ok (.invokestatic 58, 3) := by decide +kernel
theorem dX7_hull_4 : decode cX7_hull 4 = .ok (.aload_n 0, 1) := by decide +kernel
theorem dX7_hull_5 : decode cX7_hull 5 = .ok (.iload_n 1, 1) := by decide +kernel
theorem dX7_hull_6 : decode cX7_hull 6 = .ok (.invokevirtual 125, 3) := by decide +kernel
theorem dX7_hull_9 : decode cX7_hull 9 = .ok (.aload_n 0, 1) := by decide +kernel
theorem dX7_hull_10 : decode cX7_hull 10 = .ok (.iload_n 1, 1) := by decide +kernel
theorem dX7_hull_11 : decode cX7_hull 11 = .ok (.invokevirtual 107, 3) := by decide +kernel
theorem dX7_hull_14 : decode cX7_hull 14 = .ok (.aload_n 0, 1) := by decide +kernel
theorem dX7_hull_15 : decode cX7_hull 15 = .ok (.getfield 32, 3) := by decide +kernel
theorem dX7_hull_18 : decode cX7_hull 18 = .ok (.aload_n 0, 1) := by decide +kernel
theorem dX7_hull_19 : decode cX7_hull 19 = .ok (.getfield 28, 3) := by decide +kernel
theorem dX7_hull_22 : decode cX7_hull 22 = .ok (.invokestatic 128, 3) := by decide +kernel
theorem dX7_hull_25 : decode cX7_hull 25 = .ok (.aload_n 0, 1) := by decide +kernel
theorem dX7_hull_26 : decode cX7_hull 26 = .ok (.getfield 28, 3) := by decide +kernel
theorem dX7_hull_29 : decode cX7_hull 29 = .ok (.invokevirtual 68, 3) := by decide +kernel
theorem dX7_hull_32 : decode cX7_hull 32 = .ok (.ireturn, 1) := by decide +kernel
theorem dX7_join_0 : decode cX7_join 0 = .ok (.aload_n 0, 1) := by decide +kernel
theorem dX7_join_1 : decode cX7_join 1 = .ok (.iload_n 1, 1) := by decide +kernel
theorem dX7_join_2 : decode cX7_join 2 = .ok (.iload_n 2, 1) := by decide +kernel
theorem dX7_join_3 : decode cX7_join 3 = .ok (.invokevirtual 134, 3) := by decide +kernel
theorem dX7_join_6 : decode cX7_join 6 = .ok (.aload_n 0, 1) := by decide +kernel
theorem dX7_join_7 : decode cX7_join 7 = .ok (.iload_n 1, 1) := by decide +kernel
theorem dX7_join_8 : decode cX7_join 8 = .ok (.invokevirtual 107, 3) := by decide +kernel
theorem dX7_join_11 : decode cX7_join 11 = .ok (.iload_n 2, 1) := by decide +kernel
theorem dX7_join_12 : decode cX7_join 12 = .ok (.iload_n 1, 1) := by decide +kernel
theorem dX7_join_13 : decode cX7_join 13 = .ok (.if_icmp .eq 15, 3) := by decide +kernel
theorem dX7_join_16 : decode cX7_join 16 = .ok (.aload_n 0, 1) := by decide +kernel
theorem dX7_join_17 : decode cX7_join 17 = .ok (.getfield 12, 3) := by decide +kernel
theorem dX7_join_20 : decode cX7_join 20 = .ok (.iload_n 2, 1) := by decide +kernel
theorem dX7_join_21 : decode cX7_join 21 = .ok (.aload_n 0, 1) := by decide +kernel
theorem dX7_join_22 : decode cX7_join 22 = .ok (.getfield 32, 3) := by decide +kernel
theorem dX7_join_25 : decode cX7_join 25 = .ok (.invokevirtual 137, 3) := by decide +kernel
theorem dX7_join_28 : decode cX7_join 28 = .ok (.aload_n 0, 1) := by decide +kernel
theorem dX7_join_29 : decode cX7_join 29 = .ok (.getfield 32, 3) := by decide +kernel
theorem dX7_join_32 : decode cX7_join 32 = .ok (.aload_n 0, 1) := by decide +kernel
theorem dX7_join_33 : decode cX7_join 33 = .ok (.getfield 28, 3) := by decide +kernel
theorem dX7_join_36 : decode cX7_join 36 = .ok (.invokestatic 128, 3) := by decide +kernel
theorem dX7_join_39 : decode cX7_join 39 = .ok (.aload_n 0, 1) := by decide +kernel
theorem dX7_join_40 : decode cX7_join 40 = .ok (.getfield 28, 3) := by decide +kernel
theorem dX7_join_43 : decode cX7_join 43 = .ok (.invokevirtual 68, 3) := by decide +kernel
theorem dX7_join_46 : decode cX7_join 46 = .ok (.ireturn, 1) := by decide +kernel
theorem dX7_sum_0 : decode cX7_sum 0 = .ok (.aload_n 0, 1) := by decide +kernel
theorem dX7_sum_1 : decode cX7_sum 1 = .ok (.iload_n 1, 1) := by decide +kernel
theorem dX7_sum_2 : decode cX7_sum 2 = .ok (.iload_n 2, 1) := by decide +kernel
theorem dX7_sum_3 : decode cX7_sum 3 = .ok (.invokevirtual 134, 3) := by decide +kernel
theorem dX7_sum_6 : decode cX7_sum 6 = .ok (.aload_n 0, 1) := by decide +kernel
theorem dX7_sum_7 : decode cX7_sum 7 = .ok (.iload_n 1, 1) := by decide +kernel
theorem dX7_sum_8 : decode cX7_sum 8 = .ok (.iload_n 2, 1) := by decide +kernel
theorem dX7_sum_9 : decode cX7_sum 9 = .ok (.invokevirtual 141, 3) := by decide +kernel
theorem dX7_sum_12 : decode cX7_sum 12 = .ok (.aload_n 0, 1) := by decide +kernel
theorem dX7_sum_13 : decode cX7_sum 13 = .ok (.getfield 38, 3) := by decide +kernel
theorem dX7_sum_16 : decode cX7_sum 16 = .ok (.aload_n 0, 1) := by decide +kernel
theorem dX7_sum_17 : decode cX7_sum 17 = .ok (.getfield 41, 3) := by decide +kernel
theorem dX7_sum_20 : decode cX7_sum 20 = .ok (.aload_n 0, 1) := by decide +kernel
theorem dX7_sum_21 : decode cX7_sum 21 = .ok (.getfield 28, 3) := by decide +kernel
theorem dX7_sum_24 : decode cX7_sum 24 = .ok (.invokestatic 144, 3) := by decide +kernel
theorem dX7_sum_27 : decode cX7_sum 27 = .ok (.aload_n 0, 1) := by decide +kernel
theorem dX7_sum_28 : decode cX7_sum 28 = .ok (.getfield 28, 3) := by decide +kernel
theorem dX7_sum_31 : decode cX7_sum 31 = .ok (.invokevirtual 68, 3) := by decide +kernel
theorem dX7_sum_34 : decode cX7_sum 34 = .ok (.ireturn, 1) := by decide +kernel
theorem dX7_layers_0 : decode cX7_layers 0 = .ok (.iload_n 1, 1) := by decide +kernel
theorem dX7_layers_1 : decode cX7_layers 1 = .ok (.invokestatic 58, 3) := by decide +kernel
theorem dX7_layers_4 : decode cX7_layers 4 = .ok (.aload_n 0, 1) := by decide +kernel
theorem dX7_layers_5 : decode cX7_layers 5 = .ok (.iload_n 1, 1) := by decide +kernel
theorem dX7_layers_6 : decode cX7_layers 6 = .ok (.invokevirtual 107, 3) := by decide +kernel
theorem dX7_layers_9 : decode cX7_layers 9 = .ok (.iconst 0, 1) := by decide +kernel
theorem dX7_layers_10 : decode cX7_layers 10 = .ok (.istore_n 2, 1) := by decide +kernel
theorem dX7_layers_11 : decode cX7_layers 11 = .ok (.iconst 0, 1) := by decide +kernel
theorem dX7_layers_12 : decode cX7_layers 12 = .ok (.istore_n 3, 1) := by decide +kernel
theorem dX7_layers_13 : decode cX7_layers 13 = .ok (.iload_n 3, 1) := by decide +kernel
theorem dX7_layers_14 : decode cX7_layers 14 = .ok (.bipush 60, 2) := by decide +kernel
theorem dX7_layers_16 : decode cX7_layers 16 = .ok (.if_icmp .ge 33, 3) := by decide +kernel
theorem dX7_layers_19 : decode cX7_layers 19 = .ok (.aload_n 0, 1) := by decide +kernel
theorem dX7_layers_20 : decode cX7_layers 20 = .ok (.getfield 32, 3) := by decide +kernel
theorem dX7_layers_23 : decode cX7_layers 23 = .ok (.invokevirtual 68, 3) := by decide +kernel
theorem dX7_layers_26 : decode cX7_layers 26 = .ok (.ifCond .le 23, 3) := by decide +kernel
theorem dX7_layers_29 : decode cX7_layers 29 = .ok (.aload_n 0, 1) := by decide +kernel
theorem dX7_layers_30 : decode cX7_layers 30 = .ok (.getfield 32, 3) := by decide +kernel
theorem dX7_layers_33 : decode cX7_layers 33 = .ok (.aload_n 0, 1) := by decide +kernel
theorem dX7_layers_34 : decode cX7_layers 34 = .ok (.getfield 38, 3) := by decide +kernel
theorem dX7_layers_37 : decode cX7_layers 37 = .ok (.invokestatic 148, 3) := by decide +kernel
theorem dX7_layers_40 : decode cX7_layers 40 = .ok (.iinc 2 1, 3) := by decide +kernel
theorem dX7_layers_43 : decode cX7_layers 43 = .ok (.iinc 3 1, 3) := by decide +kernel
theorem dX7_layers_46 : decode cX7_layers 46 = .ok (.goto (-33), 3) := by decide +kernel
theorem dX7_layers_49 : decode cX7_layers 49 = .ok (.iload_n 2, 1) := by decide +kernel
theorem dX7_layers_50 : decode cX7_layers 50 = .ok (.ireturn, 1) := by decide +kernel
theorem dX7_layer_0 : decode cX7_layer 0 = .ok (.iload_n 1, 1) := by decide +kernel
theorem dX7_layer_1 : decode cX7_layer 1 = .ok (.invokestatic 58, 3) := by decide +kernel
theorem dX7_layer_4 : decode cX7_layer 4 = .ok (.aload_n 0, 1) := by decide +kernel
theorem dX7_layer_5 : decode cX7_layer 5 = .ok (.iload_n 1, 1) := by decide +kernel
theorem dX7_layer_6 : decode cX7_layer 6 = .ok (.invokevirtual 107, 3) := by decide +kernel
theorem dX7_layer_9 : decode cX7_layer 9 = .ok (.iload_n 2, 1) := by decide +kernel
theorem dX7_layer_10 : decode cX7_layer 10 = .ok (.bipush 60, 2) := by decide +kernel
theorem dX7_layer_12 : decode cX7_layer 12 = .ok (.invokestatic 151, 3) := by decide +kernel
theorem dX7_layer_15 : decode cX7_layer 15 = .ok (.istore_n 3, 1) := by decide +kernel
theorem dX7_layer_16 : decode cX7_layer 16 = .ok (.iconst 0, 1) := by decide +kernel
theorem dX7_layer_17 : decode cX7_layer 17 = .ok (.istore 4, 2) := by decide +kernel
theorem dX7_layer_19 : decode cX7_layer 19 = .ok (.iload 4, 2) := by decide +kernel
theorem dX7_layer_21 : decode cX7_layer 21 = .ok (.iload_n 3, 1) := by decide +kernel
theorem dX7_layer_22 : decode cX7_layer 22 = .ok (.if_icmp .ge 30, 3) := by decide +kernel
theorem dX7_layer_25 : decode cX7_layer 25 = .ok (.aload_n 0, 1) := by decide +kernel
theorem dX7_layer_26 : decode cX7_layer 26 = .ok (.getfield 32, 3) := by decide +kernel
theorem dX7_layer_29 : decode cX7_layer 29 = .ok (.invokevirtual 68, 3) := by decide +kernel
theorem dX7_layer_32 : decode cX7_layer 32 = .ok (.ifCond .le 20, 3) := by decide +kernel
theorem dX7_layer_35 : decode cX7_layer 35 = .ok (.aload_n 0, 1) := by decide +kernel
theorem dX7_layer_36 : decode cX7_layer 36 = .ok (.getfield 32, 3) := by decide +kernel
theorem dX7_layer_39 : decode cX7_layer 39 = .ok (.aload_n 0, 1) := by decide +kernel
theorem dX7_layer_40 : decode cX7_layer 40 = .ok (.getfield 38, 3) := by decide +kernel
theorem dX7_layer_43 : decode cX7_layer 43 = .ok (.invokestatic 148, 3) := by decide +kernel
theorem dX7_layer_46 : decode cX7_layer 46 = .ok (.iinc 4 1, 3) := by decide +kernel
theorem dX7_layer_49 : decode cX7_layer 49 = .ok (.goto (-30), 3) := by decide +kernel
theorem dX7_layer_52 : decode cX7_layer 52 = .ok (.iload_n 2, 1) := by decide +kernel
theorem dX7_layer_53 : decode cX7_layer 53 = .ok (.ifCond .lt 13, 3) := by decide +kernel
theorem dX7_layer_56 : decode cX7_layer 56 = .ok (.aload_n 0, 1) := by decide +kernel
theorem dX7_layer_57 : decode cX7_layer 57 = .ok (.getfield 32, 3) := by decide +kernel
theorem dX7_layer_60 : decode cX7_layer 60 = .ok (.invokevirtual 68, 3) := by decide +kernel
theorem dX7_layer_63 : decode cX7_layer 63 = .ok (.ifCond .ne 13, 3) := by decide +kernel
theorem dX7_layer_66 : decode cX7_layer 66 = .ok (.new 110, 3) := by decide +kernel
theorem dX7_layer_69 : decode cX7_layer 69 = .ok (.dup, 1) := by decide +kernel
theorem dX7_layer_70 : decode cX7_layer 70 = .ok (.ldc 157, 2) := by decide +kernel
theorem dX7_layer_72 : decode cX7_layer 72 = .ok (.invokespecial 114, 3) := by decide +kernel
theorem dX7_layer_75 : decode cX7_layer 75 = .ok (.athrow, 1) := by decide +kernel
theorem dX7_layer_76 : decode cX7_layer 76 = .ok (.aload_n 0, 1) := by decide +kernel
theorem dX7_layer_77 : decode cX7_layer 77 = .ok (.getfield 32, 3) := by decide +kernel
theorem dX7_layer_80 : decode cX7_layer 80 = .ok (.aload_n 0, 1) := by decide +kernel
theorem dX7_layer_81 : decode cX7_layer 81 = .ok (.getfield 28, 3) := by decide +kernel
theorem dX7_layer_84 : decode cX7_layer 84 = .ok (.invokestatic 128, 3) := by decide +kernel
theorem dX7_layer_87 : decode cX7_layer 87 = .ok (.aload_n 0, 1) := by decide +kernel
theorem dX7_layer_88 : decode cX7_layer 88 = .ok (.getfield 28, 3) := by decide +kernel
theorem dX7_layer_91 : decode cX7_layer 91 = .ok (.invokevirtual 68, 3) := by decide +kernel
theorem dX7_layer_94 : decode cX7_layer 94 = .ok (.ireturn, 1) := by decide +kernel
theorem dX7_hullOf_0 : decode cX7_hullOf 0 = .ok (.aload_n 0, 1) := by decide +kernel
theorem dX7_hullOf_1 : decode cX7_hullOf 1 = .ok (.iload_n 1, 1) := by decide +kernel
theorem dX7_hullOf_2 : decode cX7_hullOf 2 = .ok (.invokevirtual 159, 3) := by decide +kernel
theorem dX7_hullOf_5 : decode cX7_hullOf 5 = .ok (.astore_n 2, 1) := by decide +kernel
theorem dX7_hullOf_6 : decode cX7_hullOf 6 = .ok (.aload_n 2, 1) := by decide +kernel
theorem dX7_hullOf_7 : decode cX7_hullOf 7 = .ok (.invokevirtual 68, 3) := by decide +kernel
theorem dX7_hullOf_10 : decode cX7_hullOf 10 = .ok (.ifCond .ne 13, 3) := by decide +kernel
theorem dX7_hullOf_13 : decode cX7_hullOf 13 = .ok (.new 163, 3) := by decide +kernel
theorem dX7_hullOf_16 : decode cX7_hullOf 16 = .ok (.dup, 1) := by decide +kernel
theorem dX7_hullOf_17 : decode cX7_hullOf 17 = .ok (.ldc 165, 2) := by decide +kernel
theorem dX7_hullOf_19 : decode cX7_hullOf 19 = .ok (.invokespecial 167, 3) := by decide +kernel
theorem dX7_hullOf_22 : decode cX7_hullOf 22 = .ok (.athrow, 1) := by decide +kernel
theorem dX7_hullOf_23 : decode cX7_hullOf 23 = .ok (.aload_n 0, 1) := by decide +kernel
theorem dX7_hullOf_24 : decode cX7_hullOf 24 = .ok (.getfield 32, 3) := by decide +kernel
theorem dX7_hullOf_27 : decode cX7_hullOf 27 = .ok (.invokevirtual 168, 3) := by decide +kernel
theorem dX7_hullOf_30 : decode cX7_hullOf 30 = .ok (.iconst 0, 1) := by decide +kernel
theorem dX7_hullOf_31 : decode cX7_hullOf 31 = .ok (.istore_n 3, 1) := by decide +kernel
theorem dX7_hullOf_32 : decode cX7_hullOf 32 = .ok (.iload_n 3, 1) := by decide +kernel
theorem dX7_hullOf_33 : decode cX7_hullOf 33 = .ok (.aload_n 2, 1) := by decide +kernel
theorem dX7_hullOf_34 : decode cX7_hullOf 34 = .ok (.invokevirtual 68, 3) := by decide +kernel
theorem dX7_hullOf_37 : decode cX7_hullOf 37 = .ok (.if_icmp .ge 27, 3) := by decide +kernel
theorem dX7_hullOf_40 : decode cX7_hullOf 40 = .ok (.aload_n 0, 1) := by decide +kernel
theorem dX7_hullOf_41 : decode cX7_hullOf 41 = .ok (.getfield 32, 3) := by decide +kernel
theorem dX7_hullOf_44 : decode cX7_hullOf 44 = .ok (.aload_n 2, 1) := by decide +kernel
theorem dX7_hullOf_45 : decode cX7_hullOf 45 = .ok (.iload_n 3, 1) := by decide +kernel
theorem dX7_hullOf_46 : decode cX7_hullOf 46 = .ok (.invokevirtual 96, 3) := by decide +kernel
theorem dX7_hullOf_49 : decode cX7_hullOf 49 = .ok (.aload_n 2, 1) := by decide +kernel
theorem dX7_hullOf_50 : decode cX7_hullOf 50 = .ok (.iload_n 3, 1) := by decide +kernel
theorem dX7_hullOf_51 : decode cX7_hullOf 51 = .ok (.invokevirtual 99, 3) := by decide +kernel
theorem dX7_hullOf_54 : decode cX7_hullOf 54 = .ok (.iload_n 3, 1) := by decide +kernel
theorem dX7_hullOf_55 : decode cX7_hullOf 55 = .ok (.invokevirtual 171, 3) := by decide +kernel
theorem dX7_hullOf_58 : decode cX7_hullOf 58 = .ok (.iinc 3 1, 3) := by decide +kernel
theorem dX7_hullOf_61 : decode cX7_hullOf 61 = .ok (.goto (-29), 3) := by decide +kernel
theorem dX7_hullOf_64 : decode cX7_hullOf 64 = .ok (.aload_n 0, 1) := by decide +kernel
theorem dX7_hullOf_65 : decode cX7_hullOf 65 = .ok (.getfield 32, 3) := by decide +kernel
theorem dX7_hullOf_68 : decode cX7_hullOf 68 = .ok (.aload_n 0, 1) := by decide +kernel
theorem dX7_hullOf_69 : decode cX7_hullOf 69 = .ok (.getfield 28, 3) := by decide +kernel
theorem dX7_hullOf_72 : decode cX7_hullOf 72 = .ok (.invokestatic 128, 3) := by decide +kernel
theorem dX7_hullOf_75 : decode cX7_hullOf 75 = .ok (.aload_n 0, 1) := by decide +kernel
theorem dX7_hullOf_76 : decode cX7_hullOf 76 = .ok (.getfield 28, 3) := by decide +kernel
theorem dX7_hullOf_79 : decode cX7_hullOf 79 = .ok (.invokevirtual 68, 3) := by decide +kernel
theorem dX7_hullOf_82 : decode cX7_hullOf 82 = .ok (.ireturn, 1) := by decide +kernel
theorem dX7_corners_0 : decode cX7_corners 0 = .ok (.aload_n 0, 1) := by decide +kernel
theorem dX7_corners_1 : decode cX7_corners 1 = .ok (.getfield 28, 3) := by decide +kernel
theorem dX7_corners_4 : decode cX7_corners 4 = .ok (.invokevirtual 68, 3) := by decide +kernel
theorem dX7_corners_7 : decode cX7_corners 7 = .ok (.ireturn, 1) := by decide +kernel
theorem dX7_corner_0 : decode cX7_corner 0 = .ok (.aload_n 0, 1) := by decide +kernel
theorem dX7_corner_1 : decode cX7_corner 1 = .ok (.getfield 28, 3) := by decide +kernel
theorem dX7_corner_4 : decode cX7_corner 4 = .ok (.iload_n 1, 1) := by decide +kernel
theorem dX7_corner_5 : decode cX7_corner 5 = .ok (.invokestatic 174, 3) := by decide +kernel
theorem dX7_corner_8 : decode cX7_corner 8 = .ok (.iload_n 2, 1) := by decide +kernel
theorem dX7_corner_9 : decode cX7_corner 9 = .ok (.ifCond .eq 14, 3) := by decide +kernel
theorem dX7_corner_12 : decode cX7_corner 12 = .ok (.aload_n 0, 1) := by decide +kernel
theorem dX7_corner_13 : decode cX7_corner 13 = .ok (.getfield 28, 3) := by decide +kernel
theorem dX7_corner_16 : decode cX7_corner 16 = .ok (.iload_n 1, 1) := by decide +kernel
theorem dX7_corner_17 : decode cX7_corner 17 = .ok (.invokevirtual 99, 3) := by decide +kernel
theorem dX7_corner_20 : decode cX7_corner 20 = .ok (.goto 11, 3) := by decide +kernel
theorem dX7_corner_23 : decode cX7_corner 23 = .ok (.aload_n 0, 1) := by decide +kernel
theorem dX7_corner_24 : decode cX7_corner 24 = .ok (.getfield 28, 3) := by decide +kernel
theorem dX7_corner_27 : decode cX7_corner 27 = .ok (.iload_n 1, 1) := by decide +kernel
theorem dX7_corner_28 : decode cX7_corner 28 = .ok (.invokevirtual 96, 3) := by decide +kernel
theorem dX7_corner_31 : decode cX7_corner 31 = .ok (.ireturn, 1) := by decide +kernel
theorem dX7_area_0 : decode cX7_area 0 = .ok (.aload_n 0, 1) := by decide +kernel
theorem dX7_area_1 : decode cX7_area 1 = .ok (.getfield 28, 3) := by decide +kernel
theorem dX7_area_4 : decode cX7_area 4 = .ok (.invokestatic 178, 3) := by decide +kernel
theorem dX7_area_7 : decode cX7_area 7 = .ok (.ireturn, 1) := by decide +kernel
theorem dX7_edge_0 : decode cX7_edge 0 = .ok (.aload_n 0, 1) := by decide +kernel
theorem dX7_edge_1 : decode cX7_edge 1 = .ok (.getfield 28, 3) := by decide +kernel
theorem dX7_edge_4 : decode cX7_edge 4 = .ok (.invokevirtual 68, 3) := by decide +kernel
theorem dX7_edge_7 : decode cX7_edge 7 = .ok (.tableswitch 40 0 2 #[25, 27, 29], 25) := by decide +kernel
theorem dX7_edge_32 : decode cX7_edge 32 = .ok (.iconst 0, 1) := by decide +kernel
theorem dX7_edge_33 : decode cX7_edge 33 = .ok (.ireturn, 1) := by decide +kernel
theorem dX7_edge_34 : decode cX7_edge 34 = .ok (.iconst 1, 1) := by decide +kernel
theorem dX7_edge_35 : decode cX7_edge 35 = .ok (.ireturn, 1) := by decide +kernel
theorem dX7_edge_36 : decode cX7_edge 36 = .ok (.aload_n 0, 1) := by decide +kernel
theorem dX7_edge_37 : decode cX7_edge 37 = .ok (.getfield 28, 3) := by decide +kernel
theorem dX7_edge_40 : decode cX7_edge 40 = .ok (.iconst 0, 1) := by decide +kernel
theorem dX7_edge_41 : decode cX7_edge 41 = .ok (.invokestatic 184, 3) := by decide +kernel
theorem dX7_edge_44 : decode cX7_edge 44 = .ok (.iconst 1, 1) := by decide +kernel
theorem dX7_edge_45 : decode cX7_edge 45 = .ok (.iadd, 1) := by decide +kernel
theorem dX7_edge_46 : decode cX7_edge 46 = .ok (.ireturn, 1) := by decide +kernel
theorem dX7_edge_47 : decode cX7_edge 47 = .ok (.aload_n 0, 1) := by decide +kernel
theorem dX7_edge_48 : decode cX7_edge 48 = .ok (.getfield 28, 3) := by decide +kernel
theorem dX7_edge_51 : decode cX7_edge 51 = .ok (.invokestatic 188, 3) := by decide +kernel
theorem dX7_edge_54 : decode cX7_edge 54 = .ok (.ireturn, 1) := by decide +kernel
theorem dX7_inner_0 : decode cX7_inner 0 = .ok (.aload_n 0, 1) := by decide +kernel
theorem dX7_inner_1 : decode cX7_inner 1 = .ok (.getfield 28, 3) := by decide +kernel
theorem dX7_inner_4 : decode cX7_inner 4 = .ok (.invokestatic 191, 3) := by decide +kernel
theorem dX7_inner_7 : decode cX7_inner 7 = .ok (.ireturn, 1) := by decide +kernel
theorem dX7_lies_0 : decode cX7_lies 0 = .ok (.aload_n 0, 1) := by decide +kernel
theorem dX7_lies_1 : decode cX7_lies 1 = .ok (.getfield 28, 3) := by decide +kernel
theorem dX7_lies_4 : decode cX7_lies 4 = .ok (.iconst 1, 1) := by decide +kernel
theorem dX7_lies_5 : decode cX7_lies 5 = .ok (.iload_n 1, 1) := by decide +kernel
theorem dX7_lies_6 : decode cX7_lies 6 = .ok (.i2l, 1) := by decide +kernel
theorem dX7_lies_7 : decode cX7_lies 7 = .ok (.iload_n 2, 1) := by decide +kernel
theorem dX7_lies_8 : decode cX7_lies 8 = .ok (.i2l, 1) := by decide +kernel
theorem dX7_lies_9 : decode cX7_lies 9 = .ok (.invokestatic 194, 3) := by decide +kernel
theorem dX7_lies_12 : decode cX7_lies 12 = .ok (.ireturn, 1) := by decide +kernel
theorem dX7_width_0 : decode cX7_width 0 = .ok (.aload_n 0, 1) := by decide +kernel
theorem dX7_width_1 : decode cX7_width 1 = .ok (.getfield 28, 3) := by decide +kernel
theorem dX7_width_4 : decode cX7_width 4 = .ok (.invokevirtual 68, 3) := by decide +kernel
theorem dX7_width_7 : decode cX7_width 7 = .ok (.iconst 3, 1) := by decide +kernel
theorem dX7_width_8 : decode cX7_width 8 = .ok (.if_icmp .ge 13, 3) := by decide +kernel
theorem dX7_width_11 : decode cX7_width 11 = .ok (.new 72, 3) := by decide +kernel
theorem dX7_width_14 : decode cX7_width 14 = .ok (.dup, 1) := by decide +kernel
theorem dX7_width_15 : decode cX7_width 15 = .ok (.ldc 198, 2) := by decide +kernel
theorem dX7_width_17 : decode cX7_width 17 = .ok (.invokespecial 76, 3) := by decide +kernel
theorem dX7_width_20 : decode cX7_width 20 = .ok (.athrow, 1) := by decide +kernel
theorem dX7_width_21 : decode cX7_width 21 = .ok (.aload_n 0, 1) := by decide +kernel
theorem dX7_width_22 : decode cX7_width 22 = .ok (.getfield 28, 3) := by decide +kernel
theorem dX7_width_25 : decode cX7_width 25 = .ok (.iload_n 1, 1) := by decide +kernel
theorem dX7_width_26 : decode cX7_width 26 = .ok (.invokestatic 200, 3) := by decide +kernel
theorem dX7_width_29 : decode cX7_width 29 = .ok (.lreturn, 1) := by decide +kernel
theorem dX7_add_0 : decode cX7_add 0 = .ok (.aload_n 0, 1) := by decide +kernel
theorem dX7_add_1 : decode cX7_add 1 = .ok (.iload_n 1, 1) := by decide +kernel
theorem dX7_add_2 : decode cX7_add 2 = .ok (.invokevirtual 159, 3) := by decide +kernel
theorem dX7_add_5 : decode cX7_add 5 = .ok (.astore 4, 2) := by decide +kernel
theorem dX7_add_7 : decode cX7_add 7 = .ok (.iload_n 2, 1) := by decide +kernel
theorem dX7_add_8 : decode cX7_add 8 = .ok (.iload_n 3, 1) := by decide +kernel
theorem dX7_add_9 : decode cX7_add 9 = .ok (.invokestatic 61, 3) := by decide +kernel
theorem dX7_add_12 : decode cX7_add 12 = .ok (.aload 4, 2) := by decide +kernel
theorem dX7_add_14 : decode cX7_add 14 = .ok (.invokevirtual 68, 3) := by decide +kernel
theorem dX7_add_17 : decode cX7_add 17 = .ok (.bipush 16, 2) := by decide +kernel
theorem dX7_add_19 : decode cX7_add 19 = .ok (.if_icmp .lt 13, 3) := by decide +kernel
theorem dX7_add_22 : decode cX7_add 22 = .ok (.new 72, 3) := by decide +kernel
theorem dX7_add_25 : decode cX7_add 25 = .ok (.dup, 1) := by decide +kernel
theorem dX7_add_26 : decode cX7_add 26 = .ok (.ldc 204, 2) := by decide +kernel
theorem dX7_add_28 : decode cX7_add 28 = .ok (.invokespecial 76, 3) := by decide +kernel
theorem dX7_add_31 : decode cX7_add 31 = .ok (.athrow, 1) := by decide +kernel
theorem dX7_add_32 : decode cX7_add 32 = .ok (.aload 4, 2) := by decide +kernel
theorem dX7_add_34 : decode cX7_add 34 = .ok (.iload_n 2, 1) := by decide +kernel
theorem dX7_add_35 : decode cX7_add 35 = .ok (.iload_n 3, 1) := by decide +kernel
theorem dX7_add_36 : decode cX7_add 36 = .ok (.aload 4, 2) := by decide +kernel
theorem dX7_add_38 : decode cX7_add 38 = .ok (.invokevirtual 68, 3) := by decide +kernel
theorem dX7_add_41 : decode cX7_add 41 = .ok (.invokevirtual 79, 3) := by decide +kernel
theorem dX7_add_44 : decode cX7_add 44 = .ok (.aload 4, 2) := by decide +kernel
theorem dX7_add_46 : decode cX7_add 46 = .ok (.invokevirtual 68, 3) := by decide +kernel
theorem dX7_add_49 : decode cX7_add 49 = .ok (.ireturn, 1) := by decide +kernel
theorem dX7_clear_0 : decode cX7_clear 0 = .ok (.aload_n 0, 1) := by decide +kernel
theorem dX7_clear_1 : decode cX7_clear 1 = .ok (.iload_n 1, 1) := by decide +kernel
theorem dX7_clear_2 : decode cX7_clear 2 = .ok (.invokevirtual 159, 3) := by decide +kernel
theorem dX7_clear_5 : decode cX7_clear 5 = .ok (.astore_n 2, 1) := by decide +kernel
theorem dX7_clear_6 : decode cX7_clear 6 = .ok (.aload_n 2, 1) := by decide +kernel
theorem dX7_clear_7 : decode cX7_clear 7 = .ok (.invokevirtual 68, 3) := by decide +kernel
theorem dX7_clear_10 : decode cX7_clear 10 = .ok (.istore_n 3, 1) := by decide +kernel
theorem dX7_clear_11 : decode cX7_clear 11 = .ok (.aload_n 2, 1) := by decide +kernel
theorem dX7_clear_12 : decode cX7_clear 12 = .ok (.invokevirtual 168, 3) := by decide +kernel
theorem dX7_clear_15 : decode cX7_clear 15 = .ok (.iload_n 3, 1) := by decide +kernel
theorem dX7_clear_16 : decode cX7_clear 16 = .ok (.ireturn, 1) := by decide +kernel
theorem dX7_isSimple_0 : decode cX7_isSimple 0 = .ok (.aload_n 0, 1) := by decide +kernel
theorem dX7_isSimple_1 : decode cX7_isSimple 1 = .ok (.iload_n 1, 1) := by decide +kernel
theorem dX7_isSimple_2 : decode cX7_isSimple 2 = .ok (.invokevirtual 159, 3) := by decide +kernel
theorem dX7_isSimple_5 : decode cX7_isSimple 5 = .ok (.invokestatic 206, 3) := by decide +kernel
theorem dX7_isSimple_8 : decode cX7_isSimple 8 = .ok (.ireturn, 1) := by decide +kernel
theorem dX7_polygonArea_0 : decode cX7_polygonArea 0 = .ok (.aload_n 0, 1) := by decide +kernel
theorem dX7_polygonArea_1 : decode cX7_polygonArea 1 = .ok (.iload_n 1, 1) := by decide +kernel
theorem dX7_polygonArea_2 : decode cX7_polygonArea 2 = .ok (.invokevirtual 159, 3) := by decide +kernel
theorem dX7_polygonArea_5 : decode cX7_polygonArea 5 = .ok (.invokestatic 178, 3) := by decide +kernel
theorem dX7_polygonArea_8 : decode cX7_polygonArea 8 = .ok (.ireturn, 1) := by decide +kernel
theorem dX7_polygonEdge_0 : decode cX7_polygonEdge 0 = .ok (.aload_n 0, 1) := by decide +kernel
theorem dX7_polygonEdge_1 : decode cX7_polygonEdge 1 = .ok (.iload_n 1, 1) := by decide +kernel
theorem dX7_polygonEdge_2 : decode cX7_polygonEdge 2 = .ok (.invokevirtual 210, 3) := by decide +kernel
theorem dX7_polygonEdge_5 : decode cX7_polygonEdge 5 = .ok (.invokestatic 188, 3) := by decide +kernel
theorem dX7_polygonEdge_8 : decode cX7_polygonEdge 8 = .ok (.ireturn, 1) := by decide +kernel
theorem dX7_polygonInner_0 : decode cX7_polygonInner 0 = .ok (.aload_n 0, 1) := by decide +kernel
theorem dX7_polygonInner_1 : decode cX7_polygonInner 1 = .ok (.iload_n 1, 1) := by decide +kernel
theorem dX7_polygonInner_2 : decode cX7_polygonInner 2 = .ok (.invokevirtual 210, 3) := by decide +kernel
theorem dX7_polygonInner_5 : decode cX7_polygonInner 5 = .ok (.invokestatic 191, 3) := by decide +kernel
theorem dX7_polygonInner_8 : decode cX7_polygonInner 8 = .ok (.ireturn, 1) := by decide +kernel
theorem dX7_polygonLies_0 : decode cX7_polygonLies 0 = .ok (.aload_n 0, 1) := by decide +kernel
theorem dX7_polygonLies_1 : decode cX7_polygonLies 1 = .ok (.iload_n 1, 1) := by decide +kernel
theorem dX7_polygonLies_2 : decode cX7_polygonLies 2 = .ok (.invokevirtual 210, 3) := by decide +kernel
theorem dX7_polygonLies_5 : decode cX7_polygonLies 5 = .ok (.iconst 1, 1) := by decide +kernel
theorem dX7_polygonLies_6 : decode cX7_polygonLies 6 = .ok (.iload_n 2, 1) := by decide +kernel
theorem dX7_polygonLies_7 : decode cX7_polygonLies 7 = .ok (.i2l, 1) := by decide +kernel
theorem dX7_polygonLies_8 : decode cX7_polygonLies 8 = .ok (.iload_n 3, 1) := by decide +kernel
theorem dX7_polygonLies_9 : decode cX7_polygonLies 9 = .ok (.i2l, 1) := by decide +kernel
theorem dX7_polygonLies_10 : decode cX7_polygonLies 10 = .ok (.invokestatic 194, 3) := by decide +kernel
theorem dX7_polygonLies_13 : decode cX7_polygonLies 13 = .ok (.ireturn, 1) := by decide +kernel
theorem dX7_holds_0 : decode cX7_holds 0 = .ok (.aload_n 0, 1) := by decide +kernel
theorem dX7_holds_1 : decode cX7_holds 1 = .ok (.iload_n 1, 1) := by decide +kernel
theorem dX7_holds_2 : decode cX7_holds 2 = .ok (.invokevirtual 159, 3) := by decide +kernel
theorem dX7_holds_5 : decode cX7_holds 5 = .ok (.astore_n 3, 1) := by decide +kernel
theorem dX7_holds_6 : decode cX7_holds 6 = .ok (.iload_n 2, 1) := by decide +kernel
theorem dX7_holds_7 : decode cX7_holds 7 = .ok (.invokestatic 58, 3) := by decide +kernel
theorem dX7_holds_10 : decode cX7_holds 10 = .ok (.aload_n 0, 1) := by decide +kernel
theorem dX7_holds_11 : decode cX7_holds 11 = .ok (.iload_n 1, 1) := by decide +kernel
theorem dX7_holds_12 : decode cX7_holds 12 = .ok (.invokevirtual 210, 3) := by decide +kernel
theorem dX7_holds_15 : decode cX7_holds 15 = .ok (.pop, 1) := by decide +kernel
theorem dX7_holds_16 : decode cX7_holds 16 = .ok (.iconst 0, 1) := by decide +kernel
theorem dX7_holds_17 : decode cX7_holds 17 = .ok (.istore 4, 2) := by decide +kernel
theorem dX7_holds_19 : decode cX7_holds 19 = .ok (.iconst 0, 1) := by decide +kernel
theorem dX7_holds_20 : decode cX7_holds 20 = .ok (.istore 5, 2) := by decide +kernel
theorem dX7_holds_22 : decode cX7_holds 22 = .ok (.iload 5, 2) := by decide +kernel
theorem dX7_holds_24 : decode cX7_holds 24 = .ok (.aload_n 0, 1) := by decide +kernel
theorem dX7_holds_25 : decode cX7_holds 25 = .ok (.getfield 12, 3) := by decide +kernel
theorem dX7_holds_28 : decode cX7_holds 28 = .ok (.getfield 65, 3) := by decide +kernel
theorem dX7_holds_31 : decode cX7_holds 31 = .ok (.invokevirtual 68, 3) := by decide +kernel
theorem dX7_holds_34 : decode cX7_holds 34 = .ok (.if_icmp .ge 62, 3) := by decide +kernel
theorem dX7_holds_37 : decode cX7_holds 37 = .ok (.aload_n 0, 1) := by decide +kernel
theorem dX7_holds_38 : decode cX7_holds 38 = .ok (.getfield 12, 3) := by decide +kernel
theorem dX7_holds_41 : decode cX7_holds 41 = .ok (.getfield 65, 3) := by decide +kernel
theorem dX7_holds_44 : decode cX7_holds 44 = .ok (.iload 5, 2) := by decide +kernel
theorem dX7_holds_46 : decode cX7_holds 46 = .ok (.invokevirtual 86, 3) := by decide +kernel
theorem dX7_holds_49 : decode cX7_holds 49 = .ok (.iload_n 2, 1) := by decide +kernel
theorem dX7_holds_50 : decode cX7_holds 50 = .ok (.if_icmp .ne 40, 3) := by decide +kernel
theorem dX7_holds_53 : decode cX7_holds 53 = .ok (.aload_n 3, 1) := by decide +kernel
theorem dX7_holds_54 : decode cX7_holds 54 = .ok (.iconst 1, 1) := by decide +kernel
theorem dX7_holds_55 : decode cX7_holds 55 = .ok (.aload_n 0, 1) := by decide +kernel
theorem dX7_holds_56 : decode cX7_holds 56 = .ok (.getfield 12, 3) := by decide +kernel
theorem dX7_holds_59 : decode cX7_holds 59 = .ok (.getfield 65, 3) := by decide +kernel
theorem dX7_holds_62 : decode cX7_holds 62 = .ok (.iload 5, 2) := by decide +kernel
theorem dX7_holds_64 : decode cX7_holds 64 = .ok (.invokevirtual 96, 3) := by decide +kernel
theorem dX7_holds_67 : decode cX7_holds 67 = .ok (.i2l, 1) := by decide +kernel
theorem dX7_holds_68 : decode cX7_holds 68 = .ok (.aload_n 0, 1) := by decide +kernel
theorem dX7_holds_69 : decode cX7_holds 69 = .ok (.getfield 12, 3) := by decide +kernel
theorem dX7_holds_72 : decode cX7_holds 72 = .ok (.getfield 65, 3) := by decide +kernel
theorem dX7_holds_75 : decode cX7_holds 75 = .ok (.iload 5, 2) := by decide +kernel
theorem dX7_holds_77 : decode cX7_holds 77 = .ok (.invokevirtual 99, 3) := by decide +kernel
theorem dX7_holds_80 : decode cX7_holds 80 = .ok (.i2l, 1) := by decide +kernel
theorem dX7_holds_81 : decode cX7_holds 81 = .ok (.invokestatic 194, 3) := by decide +kernel
theorem dX7_holds_84 : decode cX7_holds 84 = .ok (.ifCond .lt 6, 3) := by decide +kernel
theorem dX7_holds_87 : decode cX7_holds 87 = .ok (.iinc 4 1, 3) := by decide +kernel
theorem dX7_holds_90 : decode cX7_holds 90 = .ok (.iinc 5 1, 3) := by decide +kernel
theorem dX7_holds_93 : decode cX7_holds 93 = .ok (.goto (-71), 3) := by decide +kernel
theorem dX7_holds_96 : decode cX7_holds 96 = .ok (.iload 4, 2) := by decide +kernel
theorem dX7_holds_98 : decode cX7_holds 98 = .ok (.ireturn, 1) := by decide +kernel
theorem dX7_triangles_0 : decode cX7_triangles 0 = .ok (.aload_n 0, 1) := by decide +kernel
theorem dX7_triangles_1 : decode cX7_triangles 1 = .ok (.getfield 47, 3) := by decide +kernel
theorem dX7_triangles_4 : decode cX7_triangles 4 = .ok (.aload_n 0, 1) := by decide +kernel
theorem dX7_triangles_5 : decode cX7_triangles 5 = .ok (.iload_n 1, 1) := by decide +kernel
theorem dX7_triangles_6 : decode cX7_triangles 6 = .ok (.invokevirtual 210, 3) := by decide +kernel
theorem dX7_triangles_9 : decode cX7_triangles 9 = .ok (.invokevirtual 213, 3) := by decide +kernel
theorem dX7_triangles_12 : decode cX7_triangles 12 = .ok (.aload_n 0, 1) := by decide +kernel
theorem dX7_triangles_13 : decode cX7_triangles 13 = .ok (.getfield 47, 3) := by decide +kernel
theorem dX7_triangles_16 : decode cX7_triangles 16 = .ok (.invokevirtual 217, 3) := by decide +kernel
theorem dX7_triangles_19 : decode cX7_triangles 19 = .ok (.ireturn, 1) := by decide +kernel
theorem dX7_triangleAt_0 : decode cX7_triangleAt 0 = .ok (.aload_n 0, 1) := by decide +kernel
theorem dX7_triangleAt_1 : decode cX7_triangleAt 1 = .ok (.getfield 47, 3) := by decide +kernel
theorem dX7_triangleAt_4 : decode cX7_triangleAt 4 = .ok (.aload_n 0, 1) := by decide +kernel
theorem dX7_triangleAt_5 : decode cX7_triangleAt 5 = .ok (.iload_n 1, 1) := by decide +kernel
theorem dX7_triangleAt_6 : decode cX7_triangleAt 6 = .ok (.invokevirtual 210, 3) := by decide +kernel
theorem dX7_triangleAt_9 : decode cX7_triangleAt 9 = .ok (.invokevirtual 213, 3) := by decide +kernel
theorem dX7_triangleAt_12 : decode cX7_triangleAt 12 = .ok (.iload_n 2, 1) := by decide +kernel
theorem dX7_triangleAt_13 : decode cX7_triangleAt 13 = .ok (.ifCond .lt 14, 3) := by decide +kernel
theorem dX7_triangleAt_16 : decode cX7_triangleAt 16 = .ok (.iload_n 2, 1) := by decide +kernel
theorem dX7_triangleAt_17 : decode cX7_triangleAt 17 = .ok (.aload_n 0, 1) := by decide +kernel
theorem dX7_triangleAt_18 : decode cX7_triangleAt 18 = .ok (.getfield 47, 3) := by decide +kernel
theorem dX7_triangleAt_21 : decode cX7_triangleAt 21 = .ok (.invokevirtual 217, 3) := by decide +kernel
theorem dX7_triangleAt_24 : decode cX7_triangleAt 24 = .ok (.if_icmp .lt 13, 3) := by decide +kernel
theorem dX7_triangleAt_27 : decode cX7_triangleAt 27 = .ok (.new 110, 3) := by decide +kernel
theorem dX7_triangleAt_30 : decode cX7_triangleAt 30 = .ok (.dup, 1) := by decide +kernel
theorem dX7_triangleAt_31 : decode cX7_triangleAt 31 = .ok (.ldc 220, 2) := by decide +kernel
theorem dX7_triangleAt_33 : decode cX7_triangleAt 33 = .ok (.invokespecial 114, 3) := by decide +kernel
theorem dX7_triangleAt_36 : decode cX7_triangleAt 36 = .ok (.athrow, 1) := by decide +kernel
theorem dX7_triangleAt_37 : decode cX7_triangleAt 37 = .ok (.aload_n 0, 1) := by decide +kernel
theorem dX7_triangleAt_38 : decode cX7_triangleAt 38 = .ok (.getfield 47, 3) := by decide +kernel
theorem dX7_triangleAt_41 : decode cX7_triangleAt 41 = .ok (.iload_n 2, 1) := by decide +kernel
theorem dX7_triangleAt_42 : decode cX7_triangleAt 42 = .ok (.invokevirtual 222, 3) := by decide +kernel
theorem dX7_triangleAt_45 : decode cX7_triangleAt 45 = .ok (.ireturn, 1) := by decide +kernel
theorem dX7_sees_0 : decode cX7_sees 0 = .ok (.aload_n 0, 1) := by decide +kernel
theorem dX7_sees_1 : decode cX7_sees 1 = .ok (.iload_n 1, 1) := by decide +kernel
theorem dX7_sees_2 : decode cX7_sees 2 = .ok (.invokevirtual 159, 3) := by decide +kernel
theorem dX7_sees_5 : decode cX7_sees 5 = .ok (.astore 4, 2) := by decide +kernel
theorem dX7_sees_7 : decode cX7_sees 7 = .ok (.aload 4, 2) := by decide +kernel
theorem dX7_sees_9 : decode cX7_sees 9 = .ok (.iload_n 2, 1) := by decide +kernel
theorem dX7_sees_10 : decode cX7_sees 10 = .ok (.invokestatic 174, 3) := by decide +kernel
theorem dX7_sees_13 : decode cX7_sees 13 = .ok (.aload 4, 2) := by decide +kernel
theorem dX7_sees_15 : decode cX7_sees 15 = .ok (.iload_n 3, 1) := by decide +kernel
theorem dX7_sees_16 : decode cX7_sees 16 = .ok (.invokestatic 174, 3) := by decide +kernel
theorem dX7_sees_19 : decode cX7_sees 19 = .ok (.aload_n 0, 1) := by decide +kernel
theorem dX7_sees_20 : decode cX7_sees 20 = .ok (.iload_n 1, 1) := by decide +kernel
theorem dX7_sees_21 : decode cX7_sees 21 = .ok (.invokevirtual 210, 3) := by decide +kernel
theorem dX7_sees_24 : decode cX7_sees 24 = .ok (.pop, 1) := by decide +kernel
theorem dX7_sees_25 : decode cX7_sees 25 = .ok (.aload 4, 2) := by decide +kernel
theorem dX7_sees_27 : decode cX7_sees 27 = .ok (.iload_n 2, 1) := by decide +kernel
theorem dX7_sees_28 : decode cX7_sees 28 = .ok (.iload_n 3, 1) := by decide +kernel
theorem dX7_sees_29 : decode cX7_sees 29 = .ok (.invokestatic 225, 3) := by decide +kernel
theorem dX7_sees_32 : decode cX7_sees 32 = .ok (.ireturn, 1) := by decide +kernel
theorem dX7_view_0 : decode cX7_view 0 = .ok (.aload_n 0, 1) := by decide +kernel
theorem dX7_view_1 : decode cX7_view 1 = .ok (.iload_n 1, 1) := by decide +kernel
theorem dX7_view_2 : decode cX7_view 2 = .ok (.invokevirtual 159, 3) := by decide +kernel
theorem dX7_view_5 : decode cX7_view 5 = .ok (.astore_n 3, 1) := by decide +kernel
theorem dX7_view_6 : decode cX7_view 6 = .ok (.aload_n 3, 1) := by decide +kernel
theorem dX7_view_7 : decode cX7_view 7 = .ok (.iload_n 2, 1) := by decide +kernel
theorem dX7_view_8 : decode cX7_view 8 = .ok (.invokestatic 174, 3) := by decide +kernel
theorem dX7_view_11 : decode cX7_view 11 = .ok (.aload_n 0, 1) := by decide +kernel
theorem dX7_view_12 : decode cX7_view 12 = .ok (.iload_n 1, 1) := by decide +kernel
theorem dX7_view_13 : decode cX7_view 13 = .ok (.invokevirtual 210, 3) := by decide +kernel
theorem dX7_view_16 : decode cX7_view 16 = .ok (.pop, 1) := by decide +kernel
theorem dX7_view_17 : decode cX7_view 17 = .ok (.iconst 0, 1) := by decide +kernel
theorem dX7_view_18 : decode cX7_view 18 = .ok (.istore 4, 2) := by decide +kernel
theorem dX7_view_20 : decode cX7_view 20 = .ok (.iconst 0, 1) := by decide +kernel
theorem dX7_view_21 : decode cX7_view 21 = .ok (.istore 5, 2) := by decide +kernel
theorem dX7_view_23 : decode cX7_view 23 = .ok (.iload 5, 2) := by decide +kernel
theorem dX7_view_25 : decode cX7_view 25 = .ok (.aload_n 3, 1) := by decide +kernel
theorem dX7_view_26 : decode cX7_view 26 = .ok (.invokevirtual 68, 3) := by decide +kernel
theorem dX7_view_29 : decode cX7_view 29 = .ok (.if_icmp .ge 28, 3) := by decide +kernel
theorem dX7_view_32 : decode cX7_view 32 = .ok (.iload 5, 2) := by decide +kernel
theorem dX7_view_34 : decode cX7_view 34 = .ok (.iload_n 2, 1) := by decide +kernel
theorem dX7_view_35 : decode cX7_view 35 = .ok (.if_icmp .eq 16, 3) := by decide +kernel
theorem dX7_view_38 : decode cX7_view 38 = .ok (.aload_n 3, 1) := by decide +kernel
theorem dX7_view_39 : decode cX7_view 39 = .ok (.iload_n 2, 1) := by decide +kernel
theorem dX7_view_40 : decode cX7_view 40 = .ok (.iload 5, 2) := by decide +kernel
theorem dX7_view_42 : decode cX7_view 42 = .ok (.invokestatic 225, 3) := by decide +kernel
theorem dX7_view_45 : decode cX7_view 45 = .ok (.ifCond .eq 6, 3) := by decide +kernel
theorem dX7_view_48 : decode cX7_view 48 = .ok (.iinc 4 1, 3) := by decide +kernel
theorem dX7_view_51 : decode cX7_view 51 = .ok (.iinc 5 1, 3) := by decide +kernel
theorem dX7_view_54 : decode cX7_view 54 = .ok (.goto (-31), 3) := by decide +kernel
theorem dX7_view_57 : decode cX7_view 57 = .ok (.iload 4, 2) := by decide +kernel
theorem dX7_view_59 : decode cX7_view 59 = .ok (.ireturn, 1) := by decide +kernel
theorem dX7_line_0 : decode cX7_line 0 = .ok (.iload_n 1, 1) := by decide +kernel
theorem dX7_line_1 : decode cX7_line 1 = .ok (.iload_n 2, 1) := by decide +kernel
theorem dX7_line_2 : decode cX7_line 2 = .ok (.invokestatic 61, 3) := by decide +kernel
theorem dX7_line_5 : decode cX7_line 5 = .ok (.iload_n 3, 1) := by decide +kernel
theorem dX7_line_6 : decode cX7_line 6 = .ok (.iload 4, 2) := by decide +kernel
theorem dX7_line_8 : decode cX7_line 8 = .ok (.invokestatic 61, 3) := by decide +kernel
theorem dX7_line_11 : decode cX7_line 11 = .ok (.aload_n 0, 1) := by decide +kernel
theorem dX7_line_12 : decode cX7_line 12 = .ok (.getfield 12, 3) := by decide +kernel
theorem dX7_line_15 : decode cX7_line 15 = .ok (.invokevirtual 229, 3) := by decide +kernel
theorem dX7_line_18 : decode cX7_line 18 = .ok (.bipush 20, 2) := by decide +kernel
theorem dX7_line_20 : decode cX7_line 20 = .ok (.if_icmp .lt 13, 3) := by decide +kernel
theorem dX7_line_23 : decode cX7_line 23 = .ok (.new 72, 3) := by decide +kernel
theorem dX7_line_26 : decode cX7_line 26 = .ok (.dup, 1) := by decide +kernel
theorem dX7_line_27 : decode cX7_line 27 = .ok (.ldc 232, 2) := by decide +kernel
theorem dX7_line_29 : decode cX7_line 29 = .ok (.invokespecial 76, 3) := by decide +kernel
theorem dX7_line_32 : decode cX7_line 32 = .ok (.athrow, 1) := by decide +kernel
theorem dX7_line_33 : decode cX7_line 33 = .ok (.aload_n 0, 1) := by decide +kernel
theorem dX7_line_34 : decode cX7_line 34 = .ok (.getfield 12, 3) := by decide +kernel
theorem dX7_line_37 : decode cX7_line 37 = .ok (.getfield 234, 3) := by decide +kernel
theorem dX7_line_40 : decode cX7_line 40 = .ok (.iload_n 1, 1) := by decide +kernel
theorem dX7_line_41 : decode cX7_line 41 = .ok (.iload_n 2, 1) := by decide +kernel
theorem dX7_line_42 : decode cX7_line 42 = .ok (.iconst 0, 1) := by decide +kernel
theorem dX7_line_43 : decode cX7_line 43 = .ok (.invokevirtual 79, 3) := by decide +kernel
theorem dX7_line_46 : decode cX7_line 46 = .ok (.aload_n 0, 1) := by decide +kernel
theorem dX7_line_47 : decode cX7_line 47 = .ok (.getfield 12, 3) := by decide +kernel
theorem dX7_line_50 : decode cX7_line 50 = .ok (.getfield 234, 3) := by decide +kernel
theorem dX7_line_53 : decode cX7_line 53 = .ok (.iload_n 3, 1) := by decide +kernel
theorem dX7_line_54 : decode cX7_line 54 = .ok (.iload 4, 2) := by decide +kernel
theorem dX7_line_56 : decode cX7_line 56 = .ok (.iconst 0, 1) := by decide +kernel
theorem dX7_line_57 : decode cX7_line 57 = .ok (.invokevirtual 79, 3) := by decide +kernel
theorem dX7_line_60 : decode cX7_line 60 = .ok (.aload_n 0, 1) := by decide +kernel
theorem dX7_line_61 : decode cX7_line 61 = .ok (.getfield 12, 3) := by decide +kernel
theorem dX7_line_64 : decode cX7_line 64 = .ok (.invokevirtual 229, 3) := by decide +kernel
theorem dX7_line_67 : decode cX7_line 67 = .ok (.iconst 1, 1) := by decide +kernel
theorem dX7_line_68 : decode cX7_line 68 = .ok (.isub, 1) := by decide +kernel
theorem dX7_line_69 : decode cX7_line 69 = .ok (.ireturn, 1) := by decide +kernel
theorem dX7_clearLines_0 : decode cX7_clearLines 0 = .ok (.aload_n 0, 1) := by decide +kernel
theorem dX7_clearLines_1 : decode cX7_clearLines 1 = .ok (.getfield 12, 3) := by decide +kernel
theorem dX7_clearLines_4 : decode cX7_clearLines 4 = .ok (.invokevirtual 229, 3) := by decide +kernel
theorem dX7_clearLines_7 : decode cX7_clearLines 7 = .ok (.istore_n 1, 1) := by decide +kernel
theorem dX7_clearLines_8 : decode cX7_clearLines 8 = .ok (.aload_n 0, 1) := by decide +kernel
theorem dX7_clearLines_9 : decode cX7_clearLines 9 = .ok (.getfield 12, 3) := by decide +kernel
theorem dX7_clearLines_12 : decode cX7_clearLines 12 = .ok (.getfield 234, 3) := by decide +kernel
theorem dX7_clearLines_15 : decode cX7_clearLines 15 = .ok (.invokevirtual 168, 3) := by decide +kernel
theorem dX7_clearLines_18 : decode cX7_clearLines 18 = .ok (.iload_n 1, 1) := by decide +kernel
theorem dX7_clearLines_19 : decode cX7_clearLines 19 = .ok (.ireturn, 1) := by decide +kernel
theorem dX7_cross_0 : decode cX7_cross 0 = .ok (.aload_n 0, 1) := by decide +kernel
theorem dX7_cross_1 : decode cX7_cross 1 = .ok (.iload_n 1, 1) := by decide +kernel
theorem dX7_cross_2 : decode cX7_cross 2 = .ok (.invokevirtual 237, 3) := by decide +kernel
theorem dX7_cross_5 : decode cX7_cross 5 = .ok (.aload_n 0, 1) := by decide +kernel
theorem dX7_cross_6 : decode cX7_cross 6 = .ok (.iload_n 2, 1) := by decide +kernel
theorem dX7_cross_7 : decode cX7_cross 7 = .ok (.invokevirtual 237, 3) := by decide +kernel
theorem dX7_cross_10 : decode cX7_cross 10 = .ok (.aload_n 0, 1) := by decide +kernel
theorem dX7_cross_11 : decode cX7_cross 11 = .ok (.getfield 12, 3) := by decide +kernel
theorem dX7_cross_14 : decode cX7_cross 14 = .ok (.iload_n 1, 1) := by decide +kernel
theorem dX7_cross_15 : decode cX7_cross 15 = .ok (.iload_n 2, 1) := by decide +kernel
theorem dX7_cross_16 : decode cX7_cross 16 = .ok (.invokevirtual 240, 3) := by decide +kernel
theorem dX7_cross_19 : decode cX7_cross 19 = .ok (.ireturn, 1) := by decide +kernel
theorem dX7_crossings_0 : decode cX7_crossings 0 = .ok (.iconst 0, 1) := by decide +kernel
theorem dX7_crossings_1 : decode cX7_crossings 1 = .ok (.istore_n 1, 1) := by decide +kernel
theorem dX7_crossings_2 : decode cX7_crossings 2 = .ok (.iconst 0, 1) := by decide +kernel
theorem dX7_crossings_3 : decode cX7_crossings 3 = .ok (.istore_n 2, 1) := by decide +kernel
theorem dX7_crossings_4 : decode cX7_crossings 4 = .ok (.iload_n 2, 1) := by decide +kernel
theorem dX7_crossings_5 : decode cX7_crossings 5 = .ok (.aload_n 0, 1) := by decide +kernel
theorem dX7_crossings_6 : decode cX7_crossings 6 = .ok (.getfield 12, 3) := by decide +kernel
theorem dX7_crossings_9 : decode cX7_crossings 9 = .ok (.invokevirtual 229, 3) := by decide +kernel
theorem dX7_crossings_12 : decode cX7_crossings 12 = .ok (.if_icmp .ge 45, 3) := by decide +kernel
theorem dX7_crossings_15 : decode cX7_crossings 15 = .ok (.iload_n 2, 1) := by decide +kernel
theorem dX7_crossings_16 : decode cX7_crossings 16 = .ok (.iconst 1, 1) := by decide +kernel
theorem dX7_crossings_17 : decode cX7_crossings 17 = .ok (.iadd, 1) := by decide +kernel
theorem dX7_crossings_18 : decode cX7_crossings 18 = .ok (.istore_n 3, 1) := by decide +kernel
theorem dX7_crossings_19 : decode cX7_crossings 19 = .ok (.iload_n 3, 1) := by decide +kernel
theorem dX7_crossings_20 : decode cX7_crossings 20 = .ok (.aload_n 0, 1) := by decide +kernel
theorem dX7_crossings_21 : decode cX7_crossings 21 = .ok (.getfield 12, 3) := by decide +kernel
theorem dX7_crossings_24 : decode cX7_crossings 24 = .ok (.invokevirtual 229, 3) := by decide +kernel
theorem dX7_crossings_27 : decode cX7_crossings 27 = .ok (.if_icmp .ge 24, 3) := by decide +kernel
theorem dX7_crossings_30 : decode cX7_crossings 30 = .ok (.aload_n 0, 1) := by decide +kernel
theorem dX7_crossings_31 : decode cX7_crossings 31 = .ok (.getfield 12, 3) := by decide +kernel
theorem dX7_crossings_34 : decode cX7_crossings 34 = .ok (.iload_n 2, 1) := by decide +kernel
theorem dX7_crossings_35 : decode cX7_crossings 35 = .ok (.iload_n 3, 1) := by decide +kernel
theorem dX7_crossings_36 : decode cX7_crossings 36 = .ok (.invokevirtual 240, 3) := by decide +kernel
theorem dX7_crossings_39 : decode cX7_crossings 39 = .ok (.ifCond .eq 6, 3) := by decide +kernel
theorem dX7_crossings_42 : decode cX7_crossings 42 = .ok (.iinc 1 1, 3) := by decide +kernel
theorem dX7_crossings_45 : decode cX7_crossings 45 = .ok (.iinc 3 1, 3) := by decide +kernel
theorem dX7_crossings_48 : decode cX7_crossings 48 = .ok (.goto (-29), 3) := by decide +kernel
theorem dX7_crossings_51 : decode cX7_crossings 51 = .ok (.iinc 2 1, 3) := by decide +kernel
theorem dX7_crossings_54 : decode cX7_crossings 54 = .ok (.goto (-50), 3) := by decide +kernel
theorem dX7_crossings_57 : decode cX7_crossings 57 = .ok (.iload_n 1, 1) := by decide +kernel
theorem dX7_crossings_58 : decode cX7_crossings 58 = .ok (.ireturn, 1) := by decide +kernel
theorem dX7_crossingAt_0 : decode cX7_crossingAt 0 = .ok (.iconst 0, 1) := by decide +kernel
theorem dX7_crossingAt_1 : decode cX7_crossingAt 1 = .ok (.istore_n 2, 1) := by decide +kernel
theorem dX7_crossingAt_2 : decode cX7_crossingAt 2 = .ok (.iconst 0, 1) := by decide +kernel
theorem dX7_crossingAt_3 : decode cX7_crossingAt 3 = .ok (.istore_n 3, 1) := by decide +kernel
theorem dX7_crossingAt_4 : decode cX7_crossingAt 4 = .ok (.iload_n 3, 1) := by decide +kernel
theorem dX7_crossingAt_5 : decode cX7_crossingAt 5 = .ok (.aload_n 0, 1) := by decide +kernel
theorem dX7_crossingAt_6 : decode cX7_crossingAt 6 = .ok (.getfield 12, 3) := by decide +kernel
theorem dX7_crossingAt_9 : decode cX7_crossingAt 9 = .ok (.invokevirtual 229, 3) := by decide +kernel
theorem dX7_crossingAt_12 : decode cX7_crossingAt 12 = .ok (.if_icmp .ge 61, 3) := by decide +kernel
theorem dX7_crossingAt_15 : decode cX7_crossingAt 15 = .ok (.iload_n 3, 1) := by decide +kernel
theorem dX7_crossingAt_16 : decode cX7_crossingAt 16 = .ok (.iconst 1, 1) := by decide +kernel
theorem dX7_crossingAt_17 : decode cX7_crossingAt 17 = .ok (.iadd, 1) := by decide +kernel
theorem dX7_crossingAt_18 : decode cX7_crossingAt 18 = .ok (.istore 4, 2) := by decide +kernel
theorem dX7_crossingAt_20 : decode cX7_crossingAt 20 = .ok (.iload 4, 2) := by decide +kernel
theorem dX7_crossingAt_22 : decode cX7_crossingAt 22 = .ok (.aload_n 0, 1) := by decide +kernel
theorem dX7_crossingAt_23 : decode cX7_crossingAt 23 = .ok (.getfield 12, 3) := by decide +kernel
theorem dX7_crossingAt_26 : decode cX7_crossingAt 26 = .ok (.invokevirtual 229, 3) := by decide +kernel
theorem dX7_crossingAt_29 : decode cX7_crossingAt 29 = .ok (.if_icmp .ge 38, 3) := by decide +kernel
theorem dX7_crossingAt_32 : decode cX7_crossingAt 32 = .ok (.aload_n 0, 1) := by decide +kernel
theorem dX7_crossingAt_33 : decode cX7_crossingAt 33 = .ok (.getfield 12, 3) := by decide +kernel
theorem dX7_crossingAt_36 : decode cX7_crossingAt 36 = .ok (.iload_n 3, 1) := by decide +kernel
theorem dX7_crossingAt_37 : decode cX7_crossingAt 37 = .ok (.iload 4, 2) := by decide +kernel
theorem dX7_crossingAt_39 : decode cX7_crossingAt 39 = .ok (.invokevirtual 240, 3) := by decide +kernel
theorem dX7_crossingAt_42 : decode cX7_crossingAt 42 = .ok (.ifCond .eq 19, 3) := by decide +kernel
theorem dX7_crossingAt_45 : decode cX7_crossingAt 45 = .ok (.iload_n 2, 1) := by decide +kernel
theorem dX7_crossingAt_46 : decode cX7_crossingAt 46 = .ok (.iload_n 1, 1) := by decide +kernel
theorem dX7_crossingAt_47 : decode cX7_crossingAt 47 = .ok (.if_icmp .ne 11, 3) := by decide +kernel
theorem dX7_crossingAt_50 : decode cX7_crossingAt 50 = .ok (.bipush 100, 2) := by decide +kernel
theorem dX7_crossingAt_52 : decode cX7_crossingAt 52 = .ok (.iload_n 3, 1) := by decide +kernel
theorem dX7_crossingAt_53 : decode cX7_crossingAt 53 = .ok (.imul, 1) := by decide +kernel
theorem dX7_crossingAt_54 : decode cX7_crossingAt 54 = .ok (.iload 4, 2) := by decide +kernel
theorem dX7_crossingAt_56 : decode cX7_crossingAt 56 = .ok (.iadd, 1) := by decide +kernel
theorem dX7_crossingAt_57 : decode cX7_crossingAt 57 = .ok (.ireturn, 1) := by decide +kernel
theorem dX7_crossingAt_58 : decode cX7_crossingAt 58 = .ok (.iinc 2 1, 3) := by decide +kernel
theorem dX7_crossingAt_61 : decode cX7_crossingAt 61 = .ok (.iinc 4 1, 3) := by decide +kernel
theorem dX7_crossingAt_64 : decode cX7_crossingAt 64 = .ok (.goto (-44), 3) := by decide +kernel
theorem dX7_crossingAt_67 : decode cX7_crossingAt 67 = .ok (.iinc 3 1, 3) := by decide +kernel
theorem dX7_crossingAt_70 : decode cX7_crossingAt 70 = .ok (.goto (-66), 3) := by decide +kernel
theorem dX7_crossingAt_73 : decode cX7_crossingAt 73 = .ok (.new 110, 3) := by decide +kernel
theorem dX7_crossingAt_76 : decode cX7_crossingAt 76 = .ok (.dup, 1) := by decide +kernel
theorem dX7_crossingAt_77 : decode cX7_crossingAt 77 = .ok (.ldc 244, 2) := by decide +kernel
theorem dX7_crossingAt_79 : decode cX7_crossingAt 79 = .ok (.invokespecial 114, 3) := by decide +kernel
theorem dX7_crossingAt_82 : decode cX7_crossingAt 82 = .ok (.athrow, 1) := by decide +kernel
theorem dX7_pair_0 : decode cX7_pair 0 = .ok (.iload_n 1, 1) := by decide +kernel
theorem dX7_pair_1 : decode cX7_pair 1 = .ok (.invokestatic 58, 3) := by decide +kernel
theorem dX7_pair_4 : decode cX7_pair 4 = .ok (.aload_n 0, 1) := by decide +kernel
theorem dX7_pair_5 : decode cX7_pair 5 = .ok (.iload_n 1, 1) := by decide +kernel
theorem dX7_pair_6 : decode cX7_pair 6 = .ok (.invokevirtual 246, 3) := by decide +kernel
theorem dX7_pair_9 : decode cX7_pair 9 = .ok (.aload_n 0, 1) := by decide +kernel
theorem dX7_pair_10 : decode cX7_pair 10 = .ok (.getfield 12, 3) := by decide +kernel
theorem dX7_pair_13 : decode cX7_pair 13 = .ok (.iload_n 1, 1) := by decide +kernel
theorem dX7_pair_14 : decode cX7_pair 14 = .ok (.iload_n 2, 1) := by decide +kernel
theorem dX7_pair_15 : decode cX7_pair 15 = .ok (.invokevirtual 249, 3) := by decide +kernel
theorem dX7_pair_18 : decode cX7_pair 18 = .ok (.ireturn, 1) := by decide +kernel
theorem dX7_distance_0 : decode cX7_distance 0 = .ok (.iload_n 1, 1) := by decide +kernel
theorem dX7_distance_1 : decode cX7_distance 1 = .ok (.invokestatic 58, 3) := by decide +kernel
theorem dX7_distance_4 : decode cX7_distance 4 = .ok (.aload_n 0, 1) := by decide +kernel
theorem dX7_distance_5 : decode cX7_distance 5 = .ok (.iload_n 1, 1) := by decide +kernel
theorem dX7_distance_6 : decode cX7_distance 6 = .ok (.invokevirtual 246, 3) := by decide +kernel
theorem dX7_distance_9 : decode cX7_distance 9 = .ok (.aload_n 0, 1) := by decide +kernel
theorem dX7_distance_10 : decode cX7_distance 10 = .ok (.getfield 12, 3) := by decide +kernel
theorem dX7_distance_13 : decode cX7_distance 13 = .ok (.iload_n 1, 1) := by decide +kernel
theorem dX7_distance_14 : decode cX7_distance 14 = .ok (.iload_n 2, 1) := by decide +kernel
theorem dX7_distance_15 : decode cX7_distance 15 = .ok (.invokevirtual 249, 3) := by decide +kernel
theorem dX7_distance_18 : decode cX7_distance 18 = .ok (.istore_n 3, 1) := by decide +kernel
theorem dX7_distance_19 : decode cX7_distance 19 = .ok (.aload_n 0, 1) := by decide +kernel
theorem dX7_distance_20 : decode cX7_distance 20 = .ok (.getfield 12, 3) := by decide +kernel
theorem dX7_distance_23 : decode cX7_distance 23 = .ok (.iload_n 3, 1) := by decide +kernel
theorem dX7_distance_24 : decode cX7_distance 24 = .ok (.bipush 100, 2) := by decide +kernel
theorem dX7_distance_26 : decode cX7_distance 26 = .ok (.idiv, 1) := by decide +kernel
theorem dX7_distance_27 : decode cX7_distance 27 = .ok (.iload_n 3, 1) := by decide +kernel
theorem dX7_distance_28 : decode cX7_distance 28 = .ok (.bipush 100, 2) := by decide +kernel
theorem dX7_distance_30 : decode cX7_distance 30 = .ok (.irem, 1) := by decide +kernel
theorem dX7_distance_31 : decode cX7_distance 31 = .ok (.invokevirtual 253, 3) := by decide +kernel
theorem dX7_distance_34 : decode cX7_distance 34 = .ok (.ireturn, 1) := by decide +kernel
theorem dX7_box_0 : decode cX7_box 0 = .ok (.iload_n 1, 1) := by decide +kernel
theorem dX7_box_1 : decode cX7_box 1 = .ok (.invokestatic 58, 3) := by decide +kernel
theorem dX7_box_4 : decode cX7_box 4 = .ok (.iload_n 2, 1) := by decide +kernel
theorem dX7_box_5 : decode cX7_box 5 = .ok (.ifCond .lt 8, 3) := by decide +kernel
theorem dX7_box_8 : decode cX7_box 8 = .ok (.iload_n 2, 1) := by decide +kernel
theorem dX7_box_9 : decode cX7_box 9 = .ok (.iconst 3, 1) := by decide +kernel
theorem dX7_box_10 : decode cX7_box 10 = .ok (.if_icmp .le 13, 3) := by decide +kernel
theorem dX7_box_13 : decode cX7_box 13 = .ok (.new 102, 3) := by decide +kernel
theorem dX7_box_16 : decode cX7_box 16 = .ok (.dup, 1) := by decide +kernel
theorem dX7_box_17 : decode cX7_box 17 = .ok (.ldc 104, 2) := by decide +kernel
theorem dX7_box_19 : decode cX7_box 19 = .ok (.invokespecial 106, 3) := by decide +kernel
theorem dX7_box_22 : decode cX7_box 22 = .ok (.athrow, 1) := by decide +kernel
theorem dX7_box_23 : decode cX7_box 23 = .ok (.aload_n 0, 1) := by decide +kernel
theorem dX7_box_24 : decode cX7_box 24 = .ok (.iload_n 1, 1) := by decide +kernel
theorem dX7_box_25 : decode cX7_box 25 = .ok (.invokevirtual 125, 3) := by decide +kernel
theorem dX7_box_28 : decode cX7_box 28 = .ok (.aload_n 0, 1) := by decide +kernel
theorem dX7_box_29 : decode cX7_box 29 = .ok (.iload_n 1, 1) := by decide +kernel
theorem dX7_box_30 : decode cX7_box 30 = .ok (.invokevirtual 107, 3) := by decide +kernel
theorem dX7_box_33 : decode cX7_box 33 = .ok (.aload_n 0, 1) := by decide +kernel
theorem dX7_box_34 : decode cX7_box 34 = .ok (.getfield 32, 3) := by decide +kernel
theorem dX7_box_37 : decode cX7_box 37 = .ok (.iload_n 2, 1) := by decide +kernel
theorem dX7_box_38 : decode cX7_box 38 = .ok (.invokestatic 256, 3) := by decide +kernel
theorem dX7_box_41 : decode cX7_box 41 = .ok (.ireturn, 1) := by decide +kernel
theorem dX7_fence_0 : decode cX7_fence 0 = .ok (.iload_n 1, 1) := by decide +kernel
theorem dX7_fence_1 : decode cX7_fence 1 = .ok (.invokestatic 58, 3) := by decide +kernel
theorem dX7_fence_4 : decode cX7_fence 4 = .ok (.iload_n 2, 1) := by decide +kernel
theorem dX7_fence_5 : decode cX7_fence 5 = .ok (.iconst 1, 1) := by decide +kernel
theorem dX7_fence_6 : decode cX7_fence 6 = .ok (.if_icmp .ge 14, 3) := by decide +kernel
theorem dX7_fence_9 : decode cX7_fence 9 = .ok (.new 102, 3) := by decide +kernel
theorem dX7_fence_12 : decode cX7_fence 12 = .ok (.dup, 1) := by decide +kernel
theorem dX7_fence_13 : decode cX7_fence 13 = .ok (.ldc_w 259, 3) := by decide +kernel
theorem dX7_fence_16 : decode cX7_fence 16 = .ok (.invokespecial 106, 3) := by decide +kernel
theorem dX7_fence_19 : decode cX7_fence 19 = .ok (.athrow, 1) := by decide +kernel
theorem dX7_fence_20 : decode cX7_fence 20 = .ok (.aload_n 0, 1) := by decide +kernel
theorem dX7_fence_21 : decode cX7_fence 21 = .ok (.iload_n 1, 1) := by decide +kernel
theorem dX7_fence_22 : decode cX7_fence 22 = .ok (.invokevirtual 107, 3) := by decide +kernel
theorem dX7_fence_25 : decode cX7_fence 25 = .ok (.aload_n 0, 1) := by decide +kernel
theorem dX7_fence_26 : decode cX7_fence 26 = .ok (.getfield 32, 3) := by decide +kernel
theorem dX7_fence_29 : decode cX7_fence 29 = .ok (.invokevirtual 68, 3) := by decide +kernel
theorem dX7_fence_32 : decode cX7_fence 32 = .ok (.iload_n 2, 1) := by decide +kernel
theorem dX7_fence_33 : decode cX7_fence 33 = .ok (.if_icmp .ge 14, 3) := by decide +kernel
theorem dX7_fence_36 : decode cX7_fence 36 = .ok (.new 163, 3) := by decide +kernel
theorem dX7_fence_39 : decode cX7_fence 39 = .ok (.dup, 1) := by decide +kernel
theorem dX7_fence_40 : decode cX7_fence 40 = .ok (.ldc_w 261, 3) := by decide +kernel
theorem dX7_fence_43 : decode cX7_fence 43 = .ok (.invokespecial 167, 3) := by decide +kernel
theorem dX7_fence_46 : decode cX7_fence 46 = .ok (.athrow, 1) := by decide +kernel
theorem dX7_fence_47 : decode cX7_fence 47 = .ok (.sipush 1000, 3) := by decide +kernel
theorem dX7_fence_50 : decode cX7_fence 50 = .ok (.istore_n 3, 1) := by decide +kernel
theorem dX7_fence_51 : decode cX7_fence 51 = .ok (.iconst 0, 1) := by decide +kernel
theorem dX7_fence_52 : decode cX7_fence 52 = .ok (.istore 4, 2) := by decide +kernel
theorem dX7_fence_54 : decode cX7_fence 54 = .ok (.iload 4, 2) := by decide +kernel
theorem dX7_fence_56 : decode cX7_fence 56 = .ok (.aload_n 0, 1) := by decide +kernel
theorem dX7_fence_57 : decode cX7_fence 57 = .ok (.getfield 32, 3) := by decide +kernel
theorem dX7_fence_60 : decode cX7_fence 60 = .ok (.invokevirtual 68, 3) := by decide +kernel
theorem dX7_fence_63 : decode cX7_fence 63 = .ok (.if_icmp .ge 21, 3) := by decide +kernel
theorem dX7_fence_66 : decode cX7_fence 66 = .ok (.iload_n 3, 1) := by decide +kernel
theorem dX7_fence_67 : decode cX7_fence 67 = .ok (.aload_n 0, 1) := by decide +kernel
theorem dX7_fence_68 : decode cX7_fence 68 = .ok (.iload 4, 2) := by decide +kernel
theorem dX7_fence_70 : decode cX7_fence 70 = .ok (.iload_n 2, 1) := by decide +kernel
theorem dX7_fence_71 : decode cX7_fence 71 = .ok (.invokevirtual 263, 3) := by decide +kernel
theorem dX7_fence_74 : decode cX7_fence 74 = .ok (.invokestatic 151, 3) := by decide +kernel
theorem dX7_fence_77 : decode cX7_fence 77 = .ok (.istore_n 3, 1) := by decide +kernel
theorem dX7_fence_78 : decode cX7_fence 78 = .ok (.iinc 4 1, 3) := by decide +kernel
theorem dX7_fence_81 : decode cX7_fence 81 = .ok (.goto (-27), 3) := by decide +kernel
theorem dX7_fence_84 : decode cX7_fence 84 = .ok (.iload_n 3, 1) := by decide +kernel
theorem dX7_fence_85 : decode cX7_fence 85 = .ok (.ireturn, 1) := by decide +kernel
theorem dX7_apart_0 : decode cX7_apart 0 = .ok (.aload_n 0, 1) := by decide +kernel
theorem dX7_apart_1 : decode cX7_apart 1 = .ok (.iload_n 1, 1) := by decide +kernel
theorem dX7_apart_2 : decode cX7_apart 2 = .ok (.iload_n 2, 1) := by decide +kernel
theorem dX7_apart_3 : decode cX7_apart 3 = .ok (.invokevirtual 134, 3) := by decide +kernel
theorem dX7_apart_6 : decode cX7_apart 6 = .ok (.aload_n 0, 1) := by decide +kernel
theorem dX7_apart_7 : decode cX7_apart 7 = .ok (.iload_n 1, 1) := by decide +kernel
theorem dX7_apart_8 : decode cX7_apart 8 = .ok (.iload_n 2, 1) := by decide +kernel
theorem dX7_apart_9 : decode cX7_apart 9 = .ok (.invokevirtual 141, 3) := by decide +kernel
theorem dX7_apart_12 : decode cX7_apart 12 = .ok (.aload_n 0, 1) := by decide +kernel
theorem dX7_apart_13 : decode cX7_apart 13 = .ok (.getfield 38, 3) := by decide +kernel
theorem dX7_apart_16 : decode cX7_apart 16 = .ok (.aload_n 0, 1) := by decide +kernel
theorem dX7_apart_17 : decode cX7_apart 17 = .ok (.getfield 41, 3) := by decide +kernel
theorem dX7_apart_20 : decode cX7_apart 20 = .ok (.invokestatic 266, 3) := by decide +kernel
theorem dX7_apart_23 : decode cX7_apart 23 = .ok (.ifCond .ne 7, 3) := by decide +kernel
theorem dX7_apart_26 : decode cX7_apart 26 = .ok (.iconst 1, 1) := by decide +kernel
theorem dX7_apart_27 : decode cX7_apart 27 = .ok (.goto 4, 3) := by decide +kernel
theorem dX7_apart_30 : decode cX7_apart 30 = .ok (.iconst 0, 1) := by decide +kernel
theorem dX7_apart_31 : decode cX7_apart 31 = .ok (.ireturn, 1) := by decide +kernel
theorem dX7_image_0 : decode cX7_image 0 = .ok (.aload_n 0, 1) := by decide +kernel
theorem dX7_image_1 : decode cX7_image 1 = .ok (.getfield 16, 3) := by decide +kernel
theorem dX7_image_4 : decode cX7_image 4 = .ok (.aload_n 0, 1) := by decide +kernel
theorem dX7_image_5 : decode cX7_image 5 = .ok (.getfield 12, 3) := by decide +kernel
theorem dX7_image_8 : decode cX7_image 8 = .ok (.invokevirtual 270, 3) := by decide +kernel
theorem dX7_image_11 : decode cX7_image 11 = .ok (.aload_n 0, 1) := by decide +kernel
theorem dX7_image_12 : decode cX7_image 12 = .ok (.iconst 1, 1) := by decide +kernel
theorem dX7_image_13 : decode cX7_image 13 = .ok (.putfield 19, 3) := by decide +kernel
theorem dX7_image_16 : decode cX7_image 16 = .ok (.aload_n 0, 1) := by decide +kernel
theorem dX7_image_17 : decode cX7_image 17 = .ok (.getfield 12, 3) := by decide +kernel
theorem dX7_image_20 : decode cX7_image 20 = .ok (.getfield 65, 3) := by decide +kernel
theorem dX7_image_23 : decode cX7_image 23 = .ok (.invokevirtual 68, 3) := by decide +kernel
theorem dX7_image_26 : decode cX7_image 26 = .ok (.ireturn, 1) := by decide +kernel
theorem dX7_restore_0 : decode cX7_restore 0 = .ok (.aload_n 0, 1) := by decide +kernel
theorem dX7_restore_1 : decode cX7_restore 1 = .ok (.getfield 19, 3) := by decide +kernel
theorem dX7_restore_4 : decode cX7_restore 4 = .ok (.ifCond .ne 14, 3) := by decide +kernel
theorem dX7_restore_7 : decode cX7_restore 7 = .ok (.new 163, 3) := by decide +kernel
theorem dX7_restore_10 : decode cX7_restore 10 = .ok (.dup, 1) := by decide +kernel
theorem dX7_restore_11 : decode cX7_restore 11 = .ok (.ldc_w 274, 3) := by decide +kernel
theorem dX7_restore_14 : decode cX7_restore 14 = .ok (.invokespecial 167, 3) := by decide +kernel
theorem dX7_restore_17 : decode cX7_restore 17 = .ok (.athrow, 1) := by decide +kernel
theorem dX7_restore_18 : decode cX7_restore 18 = .ok (.aload_n 0, 1) := by decide +kernel
theorem dX7_restore_19 : decode cX7_restore 19 = .ok (.getfield 12, 3) := by decide +kernel
theorem dX7_restore_22 : decode cX7_restore 22 = .ok (.aload_n 0, 1) := by decide +kernel
theorem dX7_restore_23 : decode cX7_restore 23 = .ok (.getfield 16, 3) := by decide +kernel
theorem dX7_restore_26 : decode cX7_restore 26 = .ok (.invokevirtual 270, 3) := by decide +kernel
theorem dX7_restore_29 : decode cX7_restore 29 = .ok (.aload_n 0, 1) := by decide +kernel
theorem dX7_restore_30 : decode cX7_restore 30 = .ok (.getfield 12, 3) := by decide +kernel
theorem dX7_restore_33 : decode cX7_restore 33 = .ok (.getfield 65, 3) := by decide +kernel
theorem dX7_restore_36 : decode cX7_restore 36 = .ok (.invokevirtual 68, 3) := by decide +kernel
theorem dX7_restore_39 : decode cX7_restore 39 = .ok (.ireturn, 1) := by decide +kernel
theorem dX7_checksum_0 : decode cX7_checksum 0 = .ok (.bipush 17, 2) := by decide +kernel
theorem dX7_checksum_2 : decode cX7_checksum 2 = .ok (.istore_n 1, 1) := by decide +kernel
theorem dX7_checksum_3 : decode cX7_checksum 3 = .ok (.iconst 0, 1) := by decide +kernel
theorem dX7_checksum_4 : decode cX7_checksum 4 = .ok (.istore_n 2, 1) := by decide +kernel
theorem dX7_checksum_5 : decode cX7_checksum 5 = .ok (.iload_n 2, 1) := by decide +kernel
theorem dX7_checksum_6 : decode cX7_checksum 6 = .ok (.aload_n 0, 1) := by decide +kernel
theorem dX7_checksum_7 : decode cX7_checksum 7 = .ok (.getfield 28, 3) := by decide +kernel
theorem dX7_checksum_10 : decode cX7_checksum 10 = .ok (.invokevirtual 68, 3) := by decide +kernel
theorem dX7_checksum_13 : decode cX7_checksum 13 = .ok (.if_icmp .ge 37, 3) := by decide +kernel
theorem dX7_checksum_16 : decode cX7_checksum 16 = .ok (.bipush 31, 2) := by decide +kernel
theorem dX7_checksum_18 : decode cX7_checksum 18 = .ok (.iload_n 1, 1) := by decide +kernel
theorem dX7_checksum_19 : decode cX7_checksum 19 = .ok (.imul, 1) := by decide +kernel
theorem dX7_checksum_20 : decode cX7_checksum 20 = .ok (.aload_n 0, 1) := by decide +kernel
theorem dX7_checksum_21 : decode cX7_checksum 21 = .ok (.getfield 28, 3) := by decide +kernel
theorem dX7_checksum_24 : decode cX7_checksum 24 = .ok (.iload_n 2, 1) := by decide +kernel
theorem dX7_checksum_25 : decode cX7_checksum 25 = .ok (.invokevirtual 96, 3) := by decide +kernel
theorem dX7_checksum_28 : decode cX7_checksum 28 = .ok (.iadd, 1) := by decide +kernel
theorem dX7_checksum_29 : decode cX7_checksum 29 = .ok (.istore_n 1, 1) := by decide +kernel
theorem dX7_checksum_30 : decode cX7_checksum 30 = .ok (.bipush 31, 2) := by decide +kernel
theorem dX7_checksum_32 : decode cX7_checksum 32 = .ok (.iload_n 1, 1) := by decide +kernel
theorem dX7_checksum_33 : decode cX7_checksum 33 = .ok (.imul, 1) := by decide +kernel
theorem dX7_checksum_34 : decode cX7_checksum 34 = .ok (.aload_n 0, 1) := by decide +kernel
theorem dX7_checksum_35 : decode cX7_checksum 35 = .ok (.getfield 28, 3) := by decide +kernel
theorem dX7_checksum_38 : decode cX7_checksum 38 = .ok (.iload_n 2, 1) := by decide +kernel
theorem dX7_checksum_39 : decode cX7_checksum 39 = .ok (.invokevirtual 99, 3) := by decide +kernel
theorem dX7_checksum_42 : decode cX7_checksum 42 = .ok (.iadd, 1) := by decide +kernel
theorem dX7_checksum_43 : decode cX7_checksum 43 = .ok (.istore_n 1, 1) := by decide +kernel
theorem dX7_checksum_44 : decode cX7_checksum 44 = .ok (.iinc 2 1, 3) := by decide +kernel
theorem dX7_checksum_47 : decode cX7_checksum 47 = .ok (.goto (-42), 3) := by decide +kernel
theorem dX7_checksum_50 : decode cX7_checksum 50 = .ok (.iload_n 1, 1) := by decide +kernel
theorem dX7_checksum_51 : decode cX7_checksum 51 = .ok (.ireturn, 1) := by decide +kernel
theorem dX7_fills_0 : decode cX7_fills 0 = .ok (.aload_n 0, 1) := by decide +kernel
theorem dX7_fills_1 : decode cX7_fills 1 = .ok (.getfield 28, 3) := by decide +kernel
theorem dX7_fills_4 : decode cX7_fills 4 = .ok (.iconst 1, 1) := by decide +kernel
theorem dX7_fills_5 : decode cX7_fills 5 = .ok (.invokestatic 256, 3) := by decide +kernel
theorem dX7_fills_8 : decode cX7_fills 8 = .ok (.aload_n 0, 1) := by decide +kernel
theorem dX7_fills_9 : decode cX7_fills 9 = .ok (.getfield 28, 3) := by decide +kernel
theorem dX7_fills_12 : decode cX7_fills 12 = .ok (.iconst 0, 1) := by decide +kernel
theorem dX7_fills_13 : decode cX7_fills 13 = .ok (.invokestatic 256, 3) := by decide +kernel
theorem dX7_fills_16 : decode cX7_fills 16 = .ok (.isub, 1) := by decide +kernel
theorem dX7_fills_17 : decode cX7_fills 17 = .ok (.istore_n 1, 1) := by decide +kernel
theorem dX7_fills_18 : decode cX7_fills 18 = .ok (.aload_n 0, 1) := by decide +kernel
theorem dX7_fills_19 : decode cX7_fills 19 = .ok (.getfield 28, 3) := by decide +kernel
theorem dX7_fills_22 : decode cX7_fills 22 = .ok (.iconst 3, 1) := by decide +kernel
theorem dX7_fills_23 : decode cX7_fills 23 = .ok (.invokestatic 256, 3) := by decide +kernel
theorem dX7_fills_26 : decode cX7_fills 26 = .ok (.aload_n 0, 1) := by decide +kernel
theorem dX7_fills_27 : decode cX7_fills 27 = .ok (.getfield 28, 3) := by decide +kernel
theorem dX7_fills_30 : decode cX7_fills 30 = .ok (.iconst 2, 1) := by decide +kernel
theorem dX7_fills_31 : decode cX7_fills 31 = .ok (.invokestatic 256, 3) := by decide +kernel
theorem dX7_fills_34 : decode cX7_fills 34 = .ok (.isub, 1) := by decide +kernel
theorem dX7_fills_35 : decode cX7_fills 35 = .ok (.istore_n 2, 1) := by decide +kernel
theorem dX7_fills_36 : decode cX7_fills 36 = .ok (.iconst 2, 1) := by decide +kernel
theorem dX7_fills_37 : decode cX7_fills 37 = .ok (.iload_n 1, 1) := by decide +kernel
theorem dX7_fills_38 : decode cX7_fills 38 = .ok (.imul, 1) := by decide +kernel
theorem dX7_fills_39 : decode cX7_fills 39 = .ok (.iload_n 2, 1) := by decide +kernel
theorem dX7_fills_40 : decode cX7_fills 40 = .ok (.imul, 1) := by decide +kernel
theorem dX7_fills_41 : decode cX7_fills 41 = .ok (.istore_n 3, 1) := by decide +kernel
theorem dX7_fills_42 : decode cX7_fills 42 = .ok (.iload_n 3, 1) := by decide +kernel
theorem dX7_fills_43 : decode cX7_fills 43 = .ok (.ifCond .gt 5, 3) := by decide +kernel
theorem dX7_fills_46 : decode cX7_fills 46 = .ok (.fconst 0, 1) := by decide +kernel
theorem dX7_fills_47 : decode cX7_fills 47 = .ok (.freturn, 1) := by decide +kernel
theorem dX7_fills_48 : decode cX7_fills 48 = .ok (.aload_n 0, 1) := by decide +kernel
theorem dX7_fills_49 : decode cX7_fills 49 = .ok (.getfield 28, 3) := by decide +kernel
theorem dX7_fills_52 : decode cX7_fills 52 = .ok (.invokestatic 178, 3) := by decide +kernel
theorem dX7_fills_55 : decode cX7_fills 55 = .ok (.i2f, 1) := by decide +kernel
theorem dX7_fills_56 : decode cX7_fills 56 = .ok (.iload_n 3, 1) := by decide +kernel
theorem dX7_fills_57 : decode cX7_fills 57 = .ok (.i2f, 1) := by decide +kernel
theorem dX7_fills_58 : decode cX7_fills 58 = .ok (.fdiv, 1) := by decide +kernel
theorem dX7_fills_59 : decode cX7_fills 59 = .ok (.freturn, 1) := by decide +kernel
theorem dX7_errors_0 : decode cX7_errors 0 = .ok (.iconst 0, 1) := by decide +kernel
theorem dX7_errors_1 : decode cX7_errors 1 = .ok (.istore_n 1, 1) := by decide +kernel
theorem dX7_errors_2 : decode cX7_errors 2 = .ok (.iconst 0, 1) := by decide +kernel
theorem dX7_errors_3 : decode cX7_errors 3 = .ok (.istore_n 2, 1) := by decide +kernel
theorem dX7_errors_4 : decode cX7_errors 4 = .ok (.iload_n 2, 1) := by decide +kernel
theorem dX7_errors_5 : decode cX7_errors 5 = .ok (.iconst 3, 1) := by decide +kernel
theorem dX7_errors_6 : decode cX7_errors 6 = .ok (.if_icmp .ge 20, 3) := by decide +kernel
theorem dX7_errors_9 : decode cX7_errors 9 = .ok (.aload_n 0, 1) := by decide +kernel
theorem dX7_errors_10 : decode cX7_errors 10 = .ok (.iload_n 2, 1) := by decide +kernel
theorem dX7_errors_11 : decode cX7_errors 11 = .ok (.invokevirtual 279, 3) := by decide +kernel
theorem dX7_errors_14 : decode cX7_errors 14 = .ok (.ifCond .eq 6, 3) := by decide +kernel
theorem dX7_errors_17 : decode cX7_errors 17 = .ok (.iinc 1 1, 3) := by decide +kernel
theorem dX7_errors_20 : decode cX7_errors 20 = .ok (.iinc 2 1, 3) := by decide +kernel
theorem dX7_errors_23 : decode cX7_errors 23 = .ok (.goto (-19), 3) := by decide +kernel
theorem dX7_errors_26 : decode cX7_errors 26 = .ok (.iconst 0, 1) := by decide +kernel
theorem dX7_errors_27 : decode cX7_errors 27 = .ok (.istore_n 2, 1) := by decide +kernel
theorem dX7_errors_28 : decode cX7_errors 28 = .ok (.iload_n 2, 1) := by decide +kernel
theorem dX7_errors_29 : decode cX7_errors 29 = .ok (.iconst 4, 1) := by decide +kernel
theorem dX7_errors_30 : decode cX7_errors 30 = .ok (.if_icmp .ge 33, 3) := by decide +kernel
theorem dX7_errors_33 : decode cX7_errors 33 = .ok (.aload_n 0, 1) := by decide +kernel
theorem dX7_errors_34 : decode cX7_errors 34 = .ok (.getfield 12, 3) := by decide +kernel
theorem dX7_errors_37 : decode cX7_errors 37 = .ok (.iload_n 2, 1) := by decide +kernel
theorem dX7_errors_38 : decode cX7_errors 38 = .ok (.invokevirtual 283, 3) := by decide +kernel
theorem dX7_errors_41 : decode cX7_errors 41 = .ok (.astore_n 3, 1) := by decide +kernel
theorem dX7_errors_42 : decode cX7_errors 42 = .ok (.aload_n 3, 1) := by decide +kernel
theorem dX7_errors_43 : decode cX7_errors 43 = .ok (.invokestatic 206, 3) := by decide +kernel
theorem dX7_errors_46 : decode cX7_errors 46 = .ok (.ifCond .eq 11, 3) := by decide +kernel
theorem dX7_errors_49 : decode cX7_errors 49 = .ok (.iload_n 1, 1) := by decide +kernel
theorem dX7_errors_50 : decode cX7_errors 50 = .ok (.aload_n 0, 1) := by decide +kernel
theorem dX7_errors_51 : decode cX7_errors 51 = .ok (.aload_n 3, 1) := by decide +kernel
theorem dX7_errors_52 : decode cX7_errors 52 = .ok (.invokevirtual 286, 3) := by decide +kernel
theorem dX7_errors_55 : decode cX7_errors 55 = .ok (.iadd, 1) := by decide +kernel
theorem dX7_errors_56 : decode cX7_errors 56 = .ok (.istore_n 1, 1) := by decide +kernel
theorem dX7_errors_57 : decode cX7_errors 57 = .ok (.iinc 2 1, 3) := by decide +kernel
theorem dX7_errors_60 : decode cX7_errors 60 = .ok (.goto (-32), 3) := by decide +kernel
theorem dX7_errors_63 : decode cX7_errors 63 = .ok (.iload_n 1, 1) := by decide +kernel
theorem dX7_errors_64 : decode cX7_errors 64 = .ok (.ireturn, 1) := by decide +kernel
theorem dX7_requireHeap_0 : decode cX7_requireHeap 0 = .ok (.iload_n 0, 1) := by decide +kernel
theorem dX7_requireHeap_1 : decode cX7_requireHeap 1 = .ok (.ifCond .lt 8, 3) := by decide +kernel
theorem dX7_requireHeap_4 : decode cX7_requireHeap 4 = .ok (.iload_n 0, 1) := by decide +kernel
theorem dX7_requireHeap_5 : decode cX7_requireHeap 5 = .ok (.iconst 3, 1) := by decide +kernel
theorem dX7_requireHeap_6 : decode cX7_requireHeap 6 = .ok (.if_icmp .lt 14, 3) := by decide +kernel
theorem dX7_requireHeap_9 : decode cX7_requireHeap 9 = .ok (.new 102, 3) := by decide +kernel
theorem dX7_requireHeap_12 : decode cX7_requireHeap 12 = .ok (.dup, 1) := by decide +kernel
theorem dX7_requireHeap_13 : decode cX7_requireHeap 13 = .ok (.ldc_w 289, 3) := by decide +kernel
theorem dX7_requireHeap_16 : decode cX7_requireHeap 16 = .ok (.invokespecial 106, 3) := by decide +kernel
theorem dX7_requireHeap_19 : decode cX7_requireHeap 19 = .ok (.athrow, 1) := by decide +kernel
theorem dX7_requireHeap_20 : decode cX7_requireHeap 20 = .ok (.return_, 1) := by decide +kernel
theorem dX7_requireNear_0 : decode cX7_requireNear 0 = .ok (.iload_n 0, 1) := by decide +kernel
theorem dX7_requireNear_1 : decode cX7_requireNear 1 = .ok (.sipush (-200), 3) := by decide +kernel
theorem dX7_requireNear_4 : decode cX7_requireNear 4 = .ok (.if_icmp .lt 24, 3) := by decide +kernel
theorem dX7_requireNear_7 : decode cX7_requireNear 7 = .ok (.iload_n 0, 1) := by decide +kernel
theorem dX7_requireNear_8 : decode cX7_requireNear 8 = .ok (.sipush 200, 3) := by decide +kernel
theorem dX7_requireNear_11 : decode cX7_requireNear 11 = .ok (.if_icmp .gt 17, 3) := by decide +kernel
theorem dX7_requireNear_14 : decode cX7_requireNear 14 = .ok (.iload_n 1, 1) := by decide +kernel
theorem dX7_requireNear_15 : decode cX7_requireNear 15 = .ok (.sipush (-200), 3) := by decide +kernel
theorem dX7_requireNear_18 : decode cX7_requireNear 18 = .ok (.if_icmp .lt 10, 3) := by decide +kernel
theorem dX7_requireNear_21 : decode cX7_requireNear 21 = .ok (.iload_n 1, 1) := by decide +kernel
theorem dX7_requireNear_22 : decode cX7_requireNear 22 = .ok (.sipush 200, 3) := by decide +kernel
theorem dX7_requireNear_25 : decode cX7_requireNear 25 = .ok (.if_icmp .le 14, 3) := by decide +kernel
theorem dX7_requireNear_28 : decode cX7_requireNear 28 = .ok (.new 102, 3) := by decide +kernel
theorem dX7_requireNear_31 : decode cX7_requireNear 31 = .ok (.dup, 1) := by decide +kernel
theorem dX7_requireNear_32 : decode cX7_requireNear 32 = .ok (.ldc_w 291, 3) := by decide +kernel
theorem dX7_requireNear_35 : decode cX7_requireNear 35 = .ok (.invokespecial 106, 3) := by decide +kernel
theorem dX7_requireNear_38 : decode cX7_requireNear 38 = .ok (.athrow, 1) := by decide +kernel
theorem dX7_requireNear_39 : decode cX7_requireNear 39 = .ok (.return_, 1) := by decide +kernel
theorem dX7_requirePoint_0 : decode cX7_requirePoint 0 = .ok (.aload_n 0, 1) := by decide +kernel
theorem dX7_requirePoint_1 : decode cX7_requirePoint 1 = .ok (.getfield 12, 3) := by decide +kernel
theorem dX7_requirePoint_4 : decode cX7_requirePoint 4 = .ok (.iload_n 1, 1) := by decide +kernel
theorem dX7_requirePoint_5 : decode cX7_requirePoint 5 = .ok (.invokevirtual 293, 3) := by decide +kernel
theorem dX7_requirePoint_8 : decode cX7_requirePoint 8 = .ok (.ifCond .ne 14, 3) := by decide +kernel
theorem dX7_requirePoint_11 : decode cX7_requirePoint 11 = .ok (.new 110, 3) := by decide +kernel
theorem dX7_requirePoint_14 : decode cX7_requirePoint 14 = .ok (.dup, 1) := by decide +kernel
theorem dX7_requirePoint_15 : decode cX7_requirePoint 15 = .ok (.ldc_w 296, 3) := by decide +kernel
theorem dX7_requirePoint_18 : decode cX7_requirePoint 18 = .ok (.invokespecial 114, 3) := by decide +kernel
theorem dX7_requirePoint_21 : decode cX7_requirePoint 21 = .ok (.athrow, 1) := by decide +kernel
theorem dX7_requirePoint_22 : decode cX7_requirePoint 22 = .ok (.return_, 1) := by decide +kernel
theorem dX7_requireLine_0 : decode cX7_requireLine 0 = .ok (.iload_n 1, 1) := by decide +kernel
theorem dX7_requireLine_1 : decode cX7_requireLine 1 = .ok (.ifCond .lt 14, 3) := by decide +kernel
theorem dX7_requireLine_4 : decode cX7_requireLine 4 = .ok (.iload_n 1, 1) := by decide +kernel
theorem dX7_requireLine_5 : decode cX7_requireLine 5 = .ok (.aload_n 0, 1) := by decide +kernel
theorem dX7_requireLine_6 : decode cX7_requireLine 6 = .ok (.getfield 12, 3) := by decide +kernel
theorem dX7_requireLine_9 : decode cX7_requireLine 9 = .ok (.invokevirtual 229, 3) := by decide +kernel
theorem dX7_requireLine_12 : decode cX7_requireLine 12 = .ok (.if_icmp .lt 14, 3) := by decide +kernel
theorem dX7_requireLine_15 : decode cX7_requireLine 15 = .ok (.new 110, 3) := by decide +kernel
theorem dX7_requireLine_18 : decode cX7_requireLine 18 = .ok (.dup, 1) := by decide +kernel
theorem dX7_requireLine_19 : decode cX7_requireLine 19 = .ok (.ldc_w 298, 3) := by decide +kernel
theorem dX7_requireLine_22 : decode cX7_requireLine 22 = .ok (.invokespecial 114, 3) := by decide +kernel
theorem dX7_requireLine_25 : decode cX7_requireLine 25 = .ok (.athrow, 1) := by decide +kernel
theorem dX7_requireLine_26 : decode cX7_requireLine 26 = .ok (.return_, 1) := by decide +kernel
theorem dX7_requireCorner_0 : decode cX7_requireCorner 0 = .ok (.iload_n 1, 1) := by decide +kernel
theorem dX7_requireCorner_1 : decode cX7_requireCorner 1 = .ok (.ifCond .lt 11, 3) := by decide +kernel
theorem dX7_requireCorner_4 : decode cX7_requireCorner 4 = .ok (.iload_n 1, 1) := by decide +kernel
theorem dX7_requireCorner_5 : decode cX7_requireCorner 5 = .ok (.aload_n 0, 1) := by decide +kernel
theorem dX7_requireCorner_6 : decode cX7_requireCorner 6 = .ok (.invokevirtual 68, 3) := by decide +kernel
theorem dX7_requireCorner_9 : decode cX7_requireCorner 9 = .ok (.if_icmp .lt 14, 3) := by decide +kernel
theorem dX7_requireCorner_12 : decode cX7_requireCorner 12 = .ok (.new 110, 3) := by decide +kernel
theorem dX7_requireCorner_15 : decode cX7_requireCorner 15 = .ok (.dup, 1) := by decide +kernel
theorem dX7_requireCorner_16 : decode cX7_requireCorner 16 = .ok (.ldc_w 300, 3) := by decide +kernel
theorem dX7_requireCorner_19 : decode cX7_requireCorner 19 = .ok (.invokespecial 114, 3) := by decide +kernel
theorem dX7_requireCorner_22 : decode cX7_requireCorner 22 = .ok (.athrow, 1) := by decide +kernel
theorem dX7_requireCorner_23 : decode cX7_requireCorner 23 = .ok (.return_, 1) := by decide +kernel
theorem dX7_requireFilled_0 : decode cX7_requireFilled 0 = .ok (.aload_n 0, 1) := by decide +kernel
theorem dX7_requireFilled_1 : decode cX7_requireFilled 1 = .ok (.getfield 12, 3) := by decide +kernel
theorem dX7_requireFilled_4 : decode cX7_requireFilled 4 = .ok (.iload_n 1, 1) := by decide +kernel
theorem dX7_requireFilled_5 : decode cX7_requireFilled 5 = .ok (.invokevirtual 93, 3) := by decide +kernel
theorem dX7_requireFilled_8 : decode cX7_requireFilled 8 = .ok (.ifCond .ne 14, 3) := by decide +kernel
theorem dX7_requireFilled_11 : decode cX7_requireFilled 11 = .ok (.new 163, 3) := by decide +kernel
theorem dX7_requireFilled_14 : decode cX7_requireFilled 14 = .ok (.dup, 1) := by decide +kernel
theorem dX7_requireFilled_15 : decode cX7_requireFilled 15 = .ok (.ldc_w 302, 3) := by decide +kernel
theorem dX7_requireFilled_18 : decode cX7_requireFilled 18 = .ok (.invokespecial 167, 3) := by decide +kernel
theorem dX7_requireFilled_21 : decode cX7_requireFilled 21 = .ok (.athrow, 1) := by decide +kernel
theorem dX7_requireFilled_22 : decode cX7_requireFilled 22 = .ok (.return_, 1) := by decide +kernel
theorem dX7_requireTwoFilled_0 : decode cX7_requireTwoFilled 0 = .ok (.iload_n 1, 1) := by decide +kernel
theorem dX7_requireTwoFilled_1 : decode cX7_requireTwoFilled 1 = .ok (.invokestatic 58, 3) := by decide +kernel
theorem dX7_requireTwoFilled_4 : decode cX7_requireTwoFilled 4 = .ok (.iload_n 2, 1) := by decide +kernel
theorem dX7_requireTwoFilled_5 : decode cX7_requireTwoFilled 5 = .ok (.invokestatic 58, 3) := by decide +kernel
theorem dX7_requireTwoFilled_8 : decode cX7_requireTwoFilled 8 = .ok (.aload_n 0, 1) := by decide +kernel
theorem dX7_requireTwoFilled_9 : decode cX7_requireTwoFilled 9 = .ok (.iload_n 1, 1) := by decide +kernel
theorem dX7_requireTwoFilled_10 : decode cX7_requireTwoFilled 10 = .ok (.invokevirtual 125, 3) := by decide +kernel
theorem dX7_requireTwoFilled_13 : decode cX7_requireTwoFilled 13 = .ok (.aload_n 0, 1) := by decide +kernel
theorem dX7_requireTwoFilled_14 : decode cX7_requireTwoFilled 14 = .ok (.iload_n 2, 1) := by decide +kernel
theorem dX7_requireTwoFilled_15 : decode cX7_requireTwoFilled 15 = .ok (.invokevirtual 125, 3) := by decide +kernel
theorem dX7_requireTwoFilled_18 : decode cX7_requireTwoFilled 18 = .ok (.return_, 1) := by decide +kernel
theorem dX7_requireTwoPoints_0 : decode cX7_requireTwoPoints 0 = .ok (.aload_n 0, 1) := by decide +kernel
theorem dX7_requireTwoPoints_1 : decode cX7_requireTwoPoints 1 = .ok (.getfield 12, 3) := by decide +kernel
theorem dX7_requireTwoPoints_4 : decode cX7_requireTwoPoints 4 = .ok (.iload_n 1, 1) := by decide +kernel
theorem dX7_requireTwoPoints_5 : decode cX7_requireTwoPoints 5 = .ok (.invokevirtual 93, 3) := by decide +kernel
theorem dX7_requireTwoPoints_8 : decode cX7_requireTwoPoints 8 = .ok (.iconst 2, 1) := by decide +kernel
theorem dX7_requireTwoPoints_9 : decode cX7_requireTwoPoints 9 = .ok (.if_icmp .ge 14, 3) := by decide +kernel
theorem dX7_requireTwoPoints_12 : decode cX7_requireTwoPoints 12 = .ok (.new 163, 3) := by decide +kernel
theorem dX7_requireTwoPoints_15 : decode cX7_requireTwoPoints 15 = .ok (.dup, 1) := by decide +kernel
theorem dX7_requireTwoPoints_16 : decode cX7_requireTwoPoints 16 = .ok (.ldc_w 304, 3) := by decide +kernel
theorem dX7_requireTwoPoints_19 : decode cX7_requireTwoPoints 19 = .ok (.invokespecial 167, 3) := by decide +kernel
theorem dX7_requireTwoPoints_22 : decode cX7_requireTwoPoints 22 = .ok (.athrow, 1) := by decide +kernel
theorem dX7_requireTwoPoints_23 : decode cX7_requireTwoPoints 23 = .ok (.return_, 1) := by decide +kernel
theorem dX7_requirePolygon_0 : decode cX7_requirePolygon 0 = .ok (.iload_n 1, 1) := by decide +kernel
theorem dX7_requirePolygon_1 : decode cX7_requirePolygon 1 = .ok (.ifCond .lt 8, 3) := by decide +kernel
theorem dX7_requirePolygon_4 : decode cX7_requirePolygon 4 = .ok (.iload_n 1, 1) := by decide +kernel
theorem dX7_requirePolygon_5 : decode cX7_requirePolygon 5 = .ok (.iconst 4, 1) := by decide +kernel
theorem dX7_requirePolygon_6 : decode cX7_requirePolygon 6 = .ok (.if_icmp .lt 14, 3) := by decide +kernel
theorem dX7_requirePolygon_9 : decode cX7_requirePolygon 9 = .ok (.new 102, 3) := by decide +kernel
theorem dX7_requirePolygon_12 : decode cX7_requirePolygon 12 = .ok (.dup, 1) := by decide +kernel
theorem dX7_requirePolygon_13 : decode cX7_requirePolygon 13 = .ok (.ldc_w 306, 3) := by decide +kernel
theorem dX7_requirePolygon_16 : decode cX7_requirePolygon 16 = .ok (.invokespecial 106, 3) := by decide +kernel
theorem dX7_requirePolygon_19 : decode cX7_requirePolygon 19 = .ok (.athrow, 1) := by decide +kernel
theorem dX7_requirePolygon_20 : decode cX7_requirePolygon 20 = .ok (.aload_n 0, 1) := by decide +kernel
theorem dX7_requirePolygon_21 : decode cX7_requirePolygon 21 = .ok (.getfield 12, 3) := by decide +kernel
theorem dX7_requirePolygon_24 : decode cX7_requirePolygon 24 = .ok (.iload_n 1, 1) := by decide +kernel
theorem dX7_requirePolygon_25 : decode cX7_requirePolygon 25 = .ok (.invokevirtual 283, 3) := by decide +kernel
theorem dX7_requirePolygon_28 : decode cX7_requirePolygon 28 = .ok (.areturn, 1) := by decide +kernel
theorem dX7_requireSimple_0 : decode cX7_requireSimple 0 = .ok (.aload_n 0, 1) := by decide +kernel
theorem dX7_requireSimple_1 : decode cX7_requireSimple 1 = .ok (.iload_n 1, 1) := by decide +kernel
theorem dX7_requireSimple_2 : decode cX7_requireSimple 2 = .ok (.invokevirtual 159, 3) := by decide +kernel
theorem dX7_requireSimple_5 : decode cX7_requireSimple 5 = .ok (.astore_n 2, 1) := by decide +kernel
theorem dX7_requireSimple_6 : decode cX7_requireSimple 6 = .ok (.aload_n 2, 1) := by decide +kernel
theorem dX7_requireSimple_7 : decode cX7_requireSimple 7 = .ok (.invokestatic 206, 3) := by decide +kernel
theorem dX7_requireSimple_10 : decode cX7_requireSimple 10 = .ok (.ifCond .ne 14, 3) := by decide +kernel
theorem dX7_requireSimple_13 : decode cX7_requireSimple 13 = .ok (.new 72, 3) := by decide +kernel
theorem dX7_requireSimple_16 : decode cX7_requireSimple 16 = .ok (.dup, 1) := by decide +kernel
theorem dX7_requireSimple_17 : decode cX7_requireSimple 17 = .ok (.ldc_w 308, 3) := by decide +kernel
theorem dX7_requireSimple_20 : decode cX7_requireSimple 20 = .ok (.invokespecial 76, 3) := by decide +kernel
theorem dX7_requireSimple_23 : decode cX7_requireSimple 23 = .ok (.athrow, 1) := by decide +kernel
theorem dX7_requireSimple_24 : decode cX7_requireSimple 24 = .ok (.aload_n 2, 1) := by decide +kernel
theorem dX7_requireSimple_25 : decode cX7_requireSimple 25 = .ok (.areturn, 1) := by decide +kernel
theorem dX7_orderHeap_0 : decode cX7_orderHeap 0 = .ok (.aload_n 0, 1) := by decide +kernel
theorem dX7_orderHeap_1 : decode cX7_orderHeap 1 = .ok (.getfield 32, 3) := by decide +kernel
theorem dX7_orderHeap_4 : decode cX7_orderHeap 4 = .ok (.invokevirtual 168, 3) := by decide +kernel
theorem dX7_orderHeap_7 : decode cX7_orderHeap 7 = .ok (.aload_n 0, 1) := by decide +kernel
theorem dX7_orderHeap_8 : decode cX7_orderHeap 8 = .ok (.getfield 12, 3) := by decide +kernel
theorem dX7_orderHeap_11 : decode cX7_orderHeap 11 = .ok (.iload_n 1, 1) := by decide +kernel
theorem dX7_orderHeap_12 : decode cX7_orderHeap 12 = .ok (.aload_n 0, 1) := by decide +kernel
theorem dX7_orderHeap_13 : decode cX7_orderHeap 13 = .ok (.getfield 32, 3) := by decide +kernel
theorem dX7_orderHeap_16 : decode cX7_orderHeap 16 = .ok (.invokevirtual 137, 3) := by decide +kernel
theorem dX7_orderHeap_19 : decode cX7_orderHeap 19 = .ok (.return_, 1) := by decide +kernel
theorem dX7_wrapTwo_0 : decode cX7_wrapTwo 0 = .ok (.aload_n 0, 1) := by decide +kernel
theorem dX7_wrapTwo_1 : decode cX7_wrapTwo 1 = .ok (.iload_n 1, 1) := by decide +kernel
theorem dX7_wrapTwo_2 : decode cX7_wrapTwo 2 = .ok (.invokevirtual 107, 3) := by decide +kernel
theorem dX7_wrapTwo_5 : decode cX7_wrapTwo 5 = .ok (.aload_n 0, 1) := by decide +kernel
theorem dX7_wrapTwo_6 : decode cX7_wrapTwo 6 = .ok (.getfield 32, 3) := by decide +kernel
theorem dX7_wrapTwo_9 : decode cX7_wrapTwo 9 = .ok (.aload_n 0, 1) := by decide +kernel
theorem dX7_wrapTwo_10 : decode cX7_wrapTwo 10 = .ok (.getfield 38, 3) := by decide +kernel
theorem dX7_wrapTwo_13 : decode cX7_wrapTwo 13 = .ok (.invokestatic 128, 3) := by decide +kernel
theorem dX7_wrapTwo_16 : decode cX7_wrapTwo 16 = .ok (.aload_n 0, 1) := by decide +kernel
theorem dX7_wrapTwo_17 : decode cX7_wrapTwo 17 = .ok (.iload_n 2, 1) := by decide +kernel
theorem dX7_wrapTwo_18 : decode cX7_wrapTwo 18 = .ok (.invokevirtual 107, 3) := by decide +kernel
theorem dX7_wrapTwo_21 : decode cX7_wrapTwo 21 = .ok (.aload_n 0, 1) := by decide +kernel
theorem dX7_wrapTwo_22 : decode cX7_wrapTwo 22 = .ok (.getfield 32, 3) := by decide +kernel
theorem dX7_wrapTwo_25 : decode cX7_wrapTwo 25 = .ok (.aload_n 0, 1) := by decide +kernel
theorem dX7_wrapTwo_26 : decode cX7_wrapTwo 26 = .ok (.getfield 41, 3) := by decide +kernel
theorem dX7_wrapTwo_29 : decode cX7_wrapTwo 29 = .ok (.invokestatic 128, 3) := by decide +kernel
theorem dX7_wrapTwo_32 : decode cX7_wrapTwo 32 = .ok (.return_, 1) := by decide +kernel
theorem dX7_leastFenceFrom_0 : decode cX7_leastFenceFrom 0 = .ok (.sipush 1000, 3) := by decide +kernel
theorem dX7_leastFenceFrom_3 : decode cX7_leastFenceFrom 3 = .ok (.istore_n 3, 1) := by decide +kernel
theorem dX7_leastFenceFrom_4 : decode cX7_leastFenceFrom 4 = .ok (.aload_n 0, 1) := by decide +kernel
theorem dX7_leastFenceFrom_5 : decode cX7_leastFenceFrom 5 = .ok (.getfield 35, 3) := by decide +kernel
theorem dX7_leastFenceFrom_8 : decode cX7_leastFenceFrom 8 = .ok (.invokevirtual 168, 3) := by decide +kernel
theorem dX7_leastFenceFrom_11 : decode cX7_leastFenceFrom 11 = .ok (.iload_n 1, 1) := by decide +kernel
theorem dX7_leastFenceFrom_12 : decode cX7_leastFenceFrom 12 = .ok (.istore 4, 2) := by decide +kernel
theorem dX7_leastFenceFrom_14 : decode cX7_leastFenceFrom 14 = .ok (.iload 4, 2) := by decide +kernel
theorem dX7_leastFenceFrom_16 : decode cX7_leastFenceFrom 16 = .ok (.aload_n 0, 1) := by decide +kernel
theorem dX7_leastFenceFrom_17 : decode cX7_leastFenceFrom 17 = .ok (.getfield 32, 3) := by decide +kernel
theorem dX7_leastFenceFrom_20 : decode cX7_leastFenceFrom 20 = .ok (.invokevirtual 68, 3) := by decide +kernel
theorem dX7_leastFenceFrom_23 : decode cX7_leastFenceFrom 23 = .ok (.if_icmp .ge 105, 3) := by decide +kernel
theorem dX7_leastFenceFrom_26 : decode cX7_leastFenceFrom 26 = .ok (.aload_n 0, 1) := by decide +kernel
theorem dX7_leastFenceFrom_27 : decode cX7_leastFenceFrom 27 = .ok (.getfield 35, 3) := by decide +kernel
theorem dX7_leastFenceFrom_30 : decode cX7_leastFenceFrom 30 = .ok (.aload_n 0, 1) := by decide +kernel
theorem dX7_leastFenceFrom_31 : decode cX7_leastFenceFrom 31 = .ok (.getfield 32, 3) := by decide +kernel
theorem dX7_leastFenceFrom_34 : decode cX7_leastFenceFrom 34 = .ok (.iload 4, 2) := by decide +kernel
theorem dX7_leastFenceFrom_36 : decode cX7_leastFenceFrom 36 = .ok (.invokevirtual 99, 3) := by decide +kernel
theorem dX7_leastFenceFrom_39 : decode cX7_leastFenceFrom 39 = .ok (.iconst 0, 1) := by decide +kernel
theorem dX7_leastFenceFrom_40 : decode cX7_leastFenceFrom 40 = .ok (.iconst 0, 1) := by decide +kernel
theorem dX7_leastFenceFrom_41 : decode cX7_leastFenceFrom 41 = .ok (.invokevirtual 171, 3) := by decide +kernel
theorem dX7_leastFenceFrom_44 : decode cX7_leastFenceFrom 44 = .ok (.aload_n 0, 1) := by decide +kernel
theorem dX7_leastFenceFrom_45 : decode cX7_leastFenceFrom 45 = .ok (.getfield 32, 3) := by decide +kernel
theorem dX7_leastFenceFrom_48 : decode cX7_leastFenceFrom 48 = .ok (.iload 4, 2) := by decide +kernel
theorem dX7_leastFenceFrom_50 : decode cX7_leastFenceFrom 50 = .ok (.invokevirtual 96, 3) := by decide +kernel
theorem dX7_leastFenceFrom_53 : decode cX7_leastFenceFrom 53 = .ok (.aload_n 0, 1) := by decide +kernel
theorem dX7_leastFenceFrom_54 : decode cX7_leastFenceFrom 54 = .ok (.getfield 32, 3) := by decide +kernel
theorem dX7_leastFenceFrom_57 : decode cX7_leastFenceFrom 57 = .ok (.iload_n 1, 1) := by decide +kernel
theorem dX7_leastFenceFrom_58 : decode cX7_leastFenceFrom 58 = .ok (.invokevirtual 96, 3) := by decide +kernel
theorem dX7_leastFenceFrom_61 : decode cX7_leastFenceFrom 61 = .ok (.isub, 1) := by decide +kernel
theorem dX7_leastFenceFrom_62 : decode cX7_leastFenceFrom 62 = .ok (.istore 5, 2) := by decide +kernel
theorem dX7_leastFenceFrom_64 : decode cX7_leastFenceFrom 64 = .ok (.iconst 0, 1) := by decide +kernel
theorem dX7_leastFenceFrom_65 : decode cX7_leastFenceFrom 65 = .ok (.istore 6, 2) := by decide +kernel
theorem dX7_leastFenceFrom_67 : decode cX7_leastFenceFrom 67 = .ok (.iload 6, 2) := by decide +kernel
theorem dX7_leastFenceFrom_69 : decode cX7_leastFenceFrom 69 = .ok (.iload_n 2, 1) := by decide +kernel
theorem dX7_leastFenceFrom_70 : decode cX7_leastFenceFrom 70 = .ok (.iadd, 1) := by decide +kernel
theorem dX7_leastFenceFrom_71 : decode cX7_leastFenceFrom 71 = .ok (.aload_n 0, 1) := by decide +kernel
theorem dX7_leastFenceFrom_72 : decode cX7_leastFenceFrom 72 = .ok (.getfield 35, 3) := by decide +kernel
theorem dX7_leastFenceFrom_75 : decode cX7_leastFenceFrom 75 = .ok (.invokevirtual 68, 3) := by decide +kernel
theorem dX7_leastFenceFrom_78 : decode cX7_leastFenceFrom 78 = .ok (.if_icmp .gt 44, 3) := by decide +kernel
theorem dX7_leastFenceFrom_81 : decode cX7_leastFenceFrom 81 = .ok (.aload_n 0, 1) := by decide +kernel
theorem dX7_leastFenceFrom_82 : decode cX7_leastFenceFrom 82 = .ok (.getfield 35, 3) := by decide +kernel
theorem dX7_leastFenceFrom_85 : decode cX7_leastFenceFrom 85 = .ok (.iload 6, 2) := by decide +kernel
theorem dX7_leastFenceFrom_87 : decode cX7_leastFenceFrom 87 = .ok (.iload_n 2, 1) := by decide +kernel
theorem dX7_leastFenceFrom_88 : decode cX7_leastFenceFrom 88 = .ok (.iadd, 1) := by decide +kernel
theorem dX7_leastFenceFrom_89 : decode cX7_leastFenceFrom 89 = .ok (.iconst 1, 1) := by decide +kernel
theorem dX7_leastFenceFrom_90 : decode cX7_leastFenceFrom 90 = .ok (.isub, 1) := by decide +kernel
theorem dX7_leastFenceFrom_91 : decode cX7_leastFenceFrom 91 = .ok (.invokevirtual 96, 3) := by decide +kernel
theorem dX7_leastFenceFrom_94 : decode cX7_leastFenceFrom 94 = .ok (.aload_n 0, 1) := by decide +kernel
theorem dX7_leastFenceFrom_95 : decode cX7_leastFenceFrom 95 = .ok (.getfield 35, 3) := by decide +kernel
theorem dX7_leastFenceFrom_98 : decode cX7_leastFenceFrom 98 = .ok (.iload 6, 2) := by decide +kernel
theorem dX7_leastFenceFrom_100 : decode cX7_leastFenceFrom 100 = .ok (.invokevirtual 96, 3) := by decide +kernel
theorem dX7_leastFenceFrom_103 : decode cX7_leastFenceFrom 103 = .ok (.isub, 1) := by decide +kernel
theorem dX7_leastFenceFrom_104 : decode cX7_leastFenceFrom 104 = .ok (.istore 7, 2) := by decide +kernel
theorem dX7_leastFenceFrom_106 : decode cX7_leastFenceFrom 106 = .ok (.iload_n 3, 1) := by decide +kernel
theorem dX7_leastFenceFrom_107 : decode cX7_leastFenceFrom 107 = .ok (.iload 5, 2) := by decide +kernel
theorem dX7_leastFenceFrom_109 : decode cX7_leastFenceFrom 109 = .ok (.iload 7, 2) := by decide +kernel
theorem dX7_leastFenceFrom_111 : decode cX7_leastFenceFrom 111 = .ok (.iadd, 1) := by decide +kernel
theorem dX7_leastFenceFrom_112 : decode cX7_leastFenceFrom 112 = .ok (.invokestatic 151, 3) := by decide +kernel
theorem dX7_leastFenceFrom_115 : decode cX7_leastFenceFrom 115 = .ok (.istore_n 3, 1) := by decide +kernel
theorem dX7_leastFenceFrom_116 : decode cX7_leastFenceFrom 116 = .ok (.iinc 6 1, 3) := by decide +kernel
theorem dX7_leastFenceFrom_119 : decode cX7_leastFenceFrom 119 = .ok (.goto (-52), 3) := by decide +kernel
theorem dX7_leastFenceFrom_122 : decode cX7_leastFenceFrom 122 = .ok (.iinc 4 1, 3) := by decide +kernel
theorem dX7_leastFenceFrom_125 : decode cX7_leastFenceFrom 125 = .ok (.goto (-111), 3) := by decide +kernel
theorem dX7_leastFenceFrom_128 : decode cX7_leastFenceFrom 128 = .ok (.iload_n 3, 1) := by decide +kernel
theorem dX7_leastFenceFrom_129 : decode cX7_leastFenceFrom 129 = .ok (.ireturn, 1) := by decide +kernel
theorem dX7_hasStray_0 : decode cX7_hasStray 0 = .ok (.aload_n 0, 1) := by decide +kernel
theorem dX7_hasStray_1 : decode cX7_hasStray 1 = .ok (.iload_n 1, 1) := by decide +kernel
theorem dX7_hasStray_2 : decode cX7_hasStray 2 = .ok (.invokevirtual 107, 3) := by decide +kernel
theorem dX7_hasStray_5 : decode cX7_hasStray 5 = .ok (.aload_n 0, 1) := by decide +kernel
theorem dX7_hasStray_6 : decode cX7_hasStray 6 = .ok (.getfield 32, 3) := by decide +kernel
theorem dX7_hasStray_9 : decode cX7_hasStray 9 = .ok (.aload_n 0, 1) := by decide +kernel
theorem dX7_hasStray_10 : decode cX7_hasStray 10 = .ok (.getfield 38, 3) := by decide +kernel
theorem dX7_hasStray_13 : decode cX7_hasStray 13 = .ok (.invokestatic 128, 3) := by decide +kernel
theorem dX7_hasStray_16 : decode cX7_hasStray 16 = .ok (.iconst 0, 1) := by decide +kernel
theorem dX7_hasStray_17 : decode cX7_hasStray 17 = .ok (.istore_n 2, 1) := by decide +kernel
theorem dX7_hasStray_18 : decode cX7_hasStray 18 = .ok (.iload_n 2, 1) := by decide +kernel
theorem dX7_hasStray_19 : decode cX7_hasStray 19 = .ok (.aload_n 0, 1) := by decide +kernel
theorem dX7_hasStray_20 : decode cX7_hasStray 20 = .ok (.getfield 32, 3) := by decide +kernel
theorem dX7_hasStray_23 : decode cX7_hasStray 23 = .ok (.invokevirtual 68, 3) := by decide +kernel
theorem dX7_hasStray_26 : decode cX7_hasStray 26 = .ok (.if_icmp .ge 40, 3) := by decide +kernel
theorem dX7_hasStray_29 : decode cX7_hasStray 29 = .ok (.aload_n 0, 1) := by decide +kernel
theorem dX7_hasStray_30 : decode cX7_hasStray 30 = .ok (.getfield 38, 3) := by decide +kernel
theorem dX7_hasStray_33 : decode cX7_hasStray 33 = .ok (.iconst 1, 1) := by decide +kernel
theorem dX7_hasStray_34 : decode cX7_hasStray 34 = .ok (.aload_n 0, 1) := by decide +kernel
theorem dX7_hasStray_35 : decode cX7_hasStray 35 = .ok (.getfield 32, 3) := by decide +kernel
theorem dX7_hasStray_38 : decode cX7_hasStray 38 = .ok (.iload_n 2, 1) := by decide +kernel
theorem dX7_hasStray_39 : decode cX7_hasStray 39 = .ok (.invokevirtual 96, 3) := by decide +kernel
theorem dX7_hasStray_42 : decode cX7_hasStray 42 = .ok (.i2l, 1) := by decide +kernel
theorem dX7_hasStray_43 : decode cX7_hasStray 43 = .ok (.aload_n 0, 1) := by decide +kernel
theorem dX7_hasStray_44 : decode cX7_hasStray 44 = .ok (.getfield 32, 3) := by decide +kernel
theorem dX7_hasStray_47 : decode cX7_hasStray 47 = .ok (.iload_n 2, 1) := by decide +kernel
theorem dX7_hasStray_48 : decode cX7_hasStray 48 = .ok (.invokevirtual 99, 3) := by decide +kernel
theorem dX7_hasStray_51 : decode cX7_hasStray 51 = .ok (.i2l, 1) := by decide +kernel
theorem dX7_hasStray_52 : decode cX7_hasStray 52 = .ok (.invokestatic 194, 3) := by decide +kernel
theorem dX7_hasStray_55 : decode cX7_hasStray 55 = .ok (.ifCond .ge 5, 3) := by decide +kernel
theorem dX7_hasStray_58 : decode cX7_hasStray 58 = .ok (.iconst 1, 1) := by decide +kernel
theorem dX7_hasStray_59 : decode cX7_hasStray 59 = .ok (.ireturn, 1) := by decide +kernel
theorem dX7_hasStray_60 : decode cX7_hasStray 60 = .ok (.iinc 2 1, 3) := by decide +kernel
theorem dX7_hasStray_63 : decode cX7_hasStray 63 = .ok (.goto (-45), 3) := by decide +kernel
theorem dX7_hasStray_66 : decode cX7_hasStray 66 = .ok (.iconst 0, 1) := by decide +kernel
theorem dX7_hasStray_67 : decode cX7_hasStray 67 = .ok (.ireturn, 1) := by decide +kernel
theorem dX7_faultsOf_0 : decode cX7_faultsOf 0 = .ok (.aload_n 1, 1) := by decide +kernel
theorem dX7_faultsOf_1 : decode cX7_faultsOf 1 = .ok (.invokestatic 178, 3) := by decide +kernel
theorem dX7_faultsOf_4 : decode cX7_faultsOf 4 = .ok (.invokestatic 276, 3) := by decide +kernel
theorem dX7_faultsOf_7 : decode cX7_faultsOf 7 = .ok (.istore_n 2, 1) := by decide +kernel
theorem dX7_faultsOf_8 : decode cX7_faultsOf 8 = .ok (.iconst 0, 1) := by decide +kernel
theorem dX7_faultsOf_9 : decode cX7_faultsOf 9 = .ok (.istore_n 3, 1) := by decide +kernel
theorem dX7_faultsOf_10 : decode cX7_faultsOf 10 = .ok (.iconst 2, 1) := by decide +kernel
theorem dX7_faultsOf_11 : decode cX7_faultsOf 11 = .ok (.aload_n 0, 1) := by decide +kernel
theorem dX7_faultsOf_12 : decode cX7_faultsOf 12 = .ok (.getfield 54, 3) := by decide +kernel
theorem dX7_faultsOf_15 : decode cX7_faultsOf 15 = .ok (.aload_n 1, 1) := by decide +kernel
theorem dX7_faultsOf_16 : decode cX7_faultsOf 16 = .ok (.invokevirtual 310, 3) := by decide +kernel
theorem dX7_faultsOf_19 : decode cX7_faultsOf 19 = .ok (.imul, 1) := by decide +kernel
theorem dX7_faultsOf_20 : decode cX7_faultsOf 20 = .ok (.aload_n 1, 1) := by decide +kernel
theorem dX7_faultsOf_21 : decode cX7_faultsOf 21 = .ok (.invokestatic 188, 3) := by decide +kernel
theorem dX7_faultsOf_24 : decode cX7_faultsOf 24 = .ok (.iadd, 1) := by decide +kernel
theorem dX7_faultsOf_25 : decode cX7_faultsOf 25 = .ok (.iconst 2, 1) := by decide +kernel
theorem dX7_faultsOf_26 : decode cX7_faultsOf 26 = .ok (.isub, 1) := by decide +kernel
theorem dX7_faultsOf_27 : decode cX7_faultsOf 27 = .ok (.iload_n 2, 1) := by decide +kernel
theorem dX7_faultsOf_28 : decode cX7_faultsOf 28 = .ok (.if_icmp .eq 6, 3) := by decide +kernel
theorem dX7_faultsOf_31 : decode cX7_faultsOf 31 = .ok (.iinc 3 1, 3) := by decide +kernel
theorem dX7_faultsOf_34 : decode cX7_faultsOf 34 = .ok (.aload_n 0, 1) := by decide +kernel
theorem dX7_faultsOf_35 : decode cX7_faultsOf 35 = .ok (.getfield 47, 3) := by decide +kernel
theorem dX7_faultsOf_38 : decode cX7_faultsOf 38 = .ok (.aload_n 1, 1) := by decide +kernel
theorem dX7_faultsOf_39 : decode cX7_faultsOf 39 = .ok (.invokevirtual 213, 3) := by decide +kernel
theorem dX7_faultsOf_42 : decode cX7_faultsOf 42 = .ok (.aload_n 0, 1) := by decide +kernel
theorem dX7_faultsOf_43 : decode cX7_faultsOf 43 = .ok (.getfield 47, 3) := by decide +kernel
theorem dX7_faultsOf_46 : decode cX7_faultsOf 46 = .ok (.invokevirtual 313, 3) := by decide +kernel
theorem dX7_faultsOf_49 : decode cX7_faultsOf 49 = .ok (.iload_n 2, 1) := by decide +kernel
theorem dX7_faultsOf_50 : decode cX7_faultsOf 50 = .ok (.i2l, 1) := by decide +kernel
theorem dX7_faultsOf_51 : decode cX7_faultsOf 51 = .ok (.lcmp, 1) := by decide +kernel
theorem dX7_faultsOf_52 : decode cX7_faultsOf 52 = .ok (.ifCond .eq 6, 3) := by decide +kernel
theorem dX7_faultsOf_55 : decode cX7_faultsOf 55 = .ok (.iinc 3 1, 3) := by decide +kernel
theorem dX7_faultsOf_58 : decode cX7_faultsOf 58 = .ok (.iload_n 3, 1) := by decide +kernel
theorem dX7_faultsOf_59 : decode cX7_faultsOf 59 = .ok (.ireturn, 1) := by decide +kernel

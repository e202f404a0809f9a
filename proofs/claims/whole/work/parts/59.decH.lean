theorem dL_point_0 : decode cL_point 0 = .ok (.aload 4, 2) := by decide +kernel
theorem dL_point_2 : decode cL_point 2 = .ok (.iconst 0, 1) := by decide +kernel
theorem dL_point_3 : decode cL_point 3 = .ok (.aload_n 0, 1) := by decide +kernel
theorem dL_point_4 : decode cL_point 4 = .ok (.iload_n 1, 1) := by decide +kernel
theorem dL_point_5 : decode cL_point 5 = .ok (.iload_n 2, 1) := by decide +kernel
theorem dL_point_6 : decode cL_point 6 = .ok (.iload_n 3, 1) := by decide +kernel
theorem dL_point_7 : decode cL_point 7 = .ok (.invokevirtual 7, 3) := by decide +kernel
theorem dL_point_10 : decode cL_point 10 = .ok (.i2l, 1) := by decide +kernel
theorem dL_point_11 : decode cL_point 11 = .ok (.lastore, 1) := by decide +kernel
theorem dL_point_12 : decode cL_point 12 = .ok (.goto 11, 3) := by decide +kernel
theorem dL_point_15 : decode cL_point 15 = .ok (.astore 5, 2) := by decide +kernel
theorem dL_point_17 : decode cL_point 17 = .ok (.iconst 1, 1) := by decide +kernel
theorem dL_point_18 : decode cL_point 18 = .ok (.ireturn, 1) := by decide +kernel
theorem dL_point_19 : decode cL_point 19 = .ok (.astore 5, 2) := by decide +kernel
theorem dL_point_21 : decode cL_point 21 = .ok (.iconst 2, 1) := by decide +kernel
theorem dL_point_22 : decode cL_point 22 = .ok (.ireturn, 1) := by decide +kernel
theorem dL_point_23 : decode cL_point 23 = .ok (.iconst 0, 1) := by decide +kernel
theorem dL_point_24 : decode cL_point 24 = .ok (.ireturn, 1) := by decide +kernel
theorem dL_drop_0 : decode cL_drop 0 = .ok (.aload_n 2, 1) := by decide +kernel
theorem dL_drop_1 : decode cL_drop 1 = .ok (.iconst 0, 1) := by decide +kernel
theorem dL_drop_2 : decode cL_drop 2 = .ok (.aload_n 0, 1) := by decide +kernel
theorem dL_drop_3 : decode cL_drop 3 = .ok (.iload_n 1, 1) := by decide +kernel
theorem dL_drop_4 : decode cL_drop 4 = .ok (.invokevirtual 17, 3) := by decide +kernel
theorem dL_drop_7 : decode cL_drop 7 = .ok (.i2l, 1) := by decide +kernel
theorem dL_drop_8 : decode cL_drop 8 = .ok (.lastore, 1) := by decide +kernel
theorem dL_drop_9 : decode cL_drop 9 = .ok (.goto 6, 3) := by decide +kernel
theorem dL_drop_12 : decode cL_drop 12 = .ok (.astore_n 3, 1) := by decide +kernel
theorem dL_drop_13 : decode cL_drop 13 = .ok (.iconst 1, 1) := by decide +kernel
theorem dL_drop_14 : decode cL_drop 14 = .ok (.ireturn, 1) := by decide +kernel
theorem dL_drop_15 : decode cL_drop 15 = .ok (.iconst 0, 1) := by decide +kernel
theorem dL_drop_16 : decode cL_drop 16 = .ok (.ireturn, 1) := by decide +kernel
theorem dL_pointOf_0 : decode cL_pointOf 0 = .ok (.aload_n 3, 1) := by decide +kernel
theorem dL_pointOf_1 : decode cL_pointOf 1 = .ok (.iconst 0, 1) := by decide +kernel
theorem dL_pointOf_2 : decode cL_pointOf 2 = .ok (.aload_n 0, 1) := by decide +kernel
theorem dL_pointOf_3 : decode cL_pointOf 3 = .ok (.iload_n 1, 1) := by decide +kernel
theorem dL_pointOf_4 : decode cL_pointOf 4 = .ok (.iload_n 2, 1) := by decide +kernel
theorem dL_pointOf_5 : decode cL_pointOf 5 = .ok (.invokevirtual 23, 3) := by decide +kernel
theorem dL_pointOf_8 : decode cL_pointOf 8 = .ok (.i2l, 1) := by decide +kernel
theorem dL_pointOf_9 : decode cL_pointOf 9 = .ok (.lastore, 1) := by decide +kernel
theorem dL_pointOf_10 : decode cL_pointOf 10 = .ok (.goto 11, 3) := by decide +kernel
theorem dL_pointOf_13 : decode cL_pointOf 13 = .ok (.astore 4, 2) := by decide +kernel
theorem dL_pointOf_15 : decode cL_pointOf 15 = .ok (.iconst 1, 1) := by decide +kernel
theorem dL_pointOf_16 : decode cL_pointOf 16 = .ok (.ireturn, 1) := by decide +kernel
theorem dL_pointOf_17 : decode cL_pointOf 17 = .ok (.astore 4, 2) := by decide +kernel
theorem dL_pointOf_19 : decode cL_pointOf 19 = .ok (.iconst 2, 1) := by decide +kernel
theorem dL_pointOf_20 : decode cL_pointOf 20 = .ok (.ireturn, 1) := by decide +kernel
theorem dL_pointOf_21 : decode cL_pointOf 21 = .ok (.iconst 0, 1) := by decide +kernel
theorem dL_pointOf_22 : decode cL_pointOf 22 = .ok (.ireturn, 1) := by decide +kernel
theorem dL_count_0 : decode cL_count 0 = .ok (.aload_n 2, 1) := by decide +kernel
theorem dL_count_1 : decode cL_count 1 = .ok (.iconst 0, 1) := by decide +kernel
theorem dL_count_2 : decode cL_count 2 = .ok (.aload_n 0, 1) := by decide +kernel
theorem dL_count_3 : decode cL_count 3 = .ok (.iload_n 1, 1) := by decide +kernel
theorem dL_count_4 : decode cL_count 4 = .ok (.invokevirtual 27, 3) := by decide +kernel
theorem dL_count_7 : decode cL_count 7 = .ok (.i2l, 1) := by decide +kernel
theorem dL_count_8 : decode cL_count 8 = .ok (.lastore, 1) := by decide +kernel
theorem dL_count_9 : decode cL_count 9 = .ok (.goto 6, 3) := by decide +kernel
theorem dL_count_12 : decode cL_count 12 = .ok (.astore_n 3, 1) := by decide +kernel
theorem dL_count_13 : decode cL_count 13 = .ok (.iconst 1, 1) := by decide +kernel
theorem dL_count_14 : decode cL_count 14 = .ok (.ireturn, 1) := by decide +kernel
theorem dL_count_15 : decode cL_count 15 = .ok (.iconst 0, 1) := by decide +kernel
theorem dL_count_16 : decode cL_count 16 = .ok (.ireturn, 1) := by decide +kernel
theorem dL_sorted_0 : decode cL_sorted 0 = .ok (.aload_n 3, 1) := by decide +kernel
theorem dL_sorted_1 : decode cL_sorted 1 = .ok (.iconst 0, 1) := by decide +kernel
theorem dL_sorted_2 : decode cL_sorted 2 = .ok (.aload_n 0, 1) := by decide +kernel
theorem dL_sorted_3 : decode cL_sorted 3 = .ok (.iload_n 1, 1) := by decide +kernel
theorem dL_sorted_4 : decode cL_sorted 4 = .ok (.iload_n 2, 1) := by decide +kernel
theorem dL_sorted_5 : decode cL_sorted 5 = .ok (.invokevirtual 30, 3) := by decide +kernel
theorem dL_sorted_8 : decode cL_sorted 8 = .ok (.i2l, 1) := by decide +kernel
theorem dL_sorted_9 : decode cL_sorted 9 = .ok (.lastore, 1) := by decide +kernel
theorem dL_sorted_10 : decode cL_sorted 10 = .ok (.goto 11, 3) := by decide +kernel
theorem dL_sorted_13 : decode cL_sorted 13 = .ok (.astore 4, 2) := by decide +kernel
theorem dL_sorted_15 : decode cL_sorted 15 = .ok (.iconst 1, 1) := by decide +kernel
theorem dL_sorted_16 : decode cL_sorted 16 = .ok (.ireturn, 1) := by decide +kernel
theorem dL_sorted_17 : decode cL_sorted 17 = .ok (.astore 4, 2) := by decide +kernel
theorem dL_sorted_19 : decode cL_sorted 19 = .ok (.iconst 2, 1) := by decide +kernel
theorem dL_sorted_20 : decode cL_sorted 20 = .ok (.ireturn, 1) := by decide +kernel
theorem dL_sorted_21 : decode cL_sorted 21 = .ok (.iconst 0, 1) := by decide +kernel
theorem dL_sorted_22 : decode cL_sorted 22 = .ok (.ireturn, 1) := by decide +kernel
theorem dL_places_0 : decode cL_places 0 = .ok (.aload_n 2, 1) := by decide +kernel
theorem dL_places_1 : decode cL_places 1 = .ok (.iconst 0, 1) := by decide +kernel
theorem dL_places_2 : decode cL_places 2 = .ok (.aload_n 0, 1) := by decide +kernel
theorem dL_places_3 : decode cL_places 3 = .ok (.iload_n 1, 1) := by decide +kernel
theorem dL_places_4 : decode cL_places 4 = .ok (.invokevirtual 33, 3) := by decide +kernel
theorem dL_places_7 : decode cL_places 7 = .ok (.i2l, 1) := by decide +kernel
theorem dL_places_8 : decode cL_places 8 = .ok (.lastore, 1) := by decide +kernel
theorem dL_places_9 : decode cL_places 9 = .ok (.goto 6, 3) := by decide +kernel
theorem dL_places_12 : decode cL_places 12 = .ok (.astore_n 3, 1) := by decide +kernel
theorem dL_places_13 : decode cL_places 13 = .ok (.iconst 1, 1) := by decide +kernel
theorem dL_places_14 : decode cL_places 14 = .ok (.ireturn, 1) := by decide +kernel
theorem dL_places_15 : decode cL_places 15 = .ok (.iconst 0, 1) := by decide +kernel
theorem dL_places_16 : decode cL_places 16 = .ok (.ireturn, 1) := by decide +kernel
theorem dL_turn_0 : decode cL_turn 0 = .ok (.aload 4, 2) := by decide +kernel
theorem dL_turn_2 : decode cL_turn 2 = .ok (.iconst 0, 1) := by decide +kernel
theorem dL_turn_3 : decode cL_turn 3 = .ok (.aload_n 0, 1) := by decide +kernel
theorem dL_turn_4 : decode cL_turn 4 = .ok (.iload_n 1, 1) := by decide +kernel
theorem dL_turn_5 : decode cL_turn 5 = .ok (.iload_n 2, 1) := by decide +kernel
theorem dL_turn_6 : decode cL_turn 6 = .ok (.iload_n 3, 1) := by decide +kernel
theorem dL_turn_7 : decode cL_turn 7 = .ok (.invokevirtual 36, 3) := by decide +kernel
theorem dL_turn_10 : decode cL_turn 10 = .ok (.i2l, 1) := by decide +kernel
theorem dL_turn_11 : decode cL_turn 11 = .ok (.lastore, 1) := by decide +kernel
theorem dL_turn_12 : decode cL_turn 12 = .ok (.goto 7, 3) := by decide +kernel
theorem dL_turn_15 : decode cL_turn 15 = .ok (.astore 5, 2) := by decide +kernel
theorem dL_turn_17 : decode cL_turn 17 = .ok (.iconst 1, 1) := by decide +kernel
theorem dL_turn_18 : decode cL_turn 18 = .ok (.ireturn, 1) := by decide +kernel
theorem dL_turn_19 : decode cL_turn 19 = .ok (.iconst 0, 1) := by decide +kernel
theorem dL_turn_20 : decode cL_turn 20 = .ok (.ireturn, 1) := by decide +kernel
theorem dL_hull_0 : decode cL_hull 0 = .ok (.aload_n 2, 1) := by decide +kernel
theorem dL_hull_1 : decode cL_hull 1 = .ok (.iconst 0, 1) := by decide +kernel
theorem dL_hull_2 : decode cL_hull 2 = .ok (.aload_n 0, 1) := by decide +kernel
theorem dL_hull_3 : decode cL_hull 3 = .ok (.iload_n 1, 1) := by decide +kernel
theorem dL_hull_4 : decode cL_hull 4 = .ok (.invokevirtual 39, 3) := by decide +kernel
theorem dL_hull_7 : decode cL_hull 7 = .ok (.i2l, 1) := by decide +kernel
theorem dL_hull_8 : decode cL_hull 8 = .ok (.lastore, 1) := by decide +kernel
theorem dL_hull_9 : decode cL_hull 9 = .ok (.goto 9, 3) := by decide +kernel
theorem dL_hull_12 : decode cL_hull 12 = .ok (.astore_n 3, 1) := by decide +kernel
theorem dL_hull_13 : decode cL_hull 13 = .ok (.iconst 1, 1) := by decide +kernel
theorem dL_hull_14 : decode cL_hull 14 = .ok (.ireturn, 1) := by decide +kernel
theorem dL_hull_15 : decode cL_hull 15 = .ok (.astore_n 3, 1) := by decide +kernel
theorem dL_hull_16 : decode cL_hull 16 = .ok (.iconst 2, 1) := by decide +kernel
theorem dL_hull_17 : decode cL_hull 17 = .ok (.ireturn, 1) := by decide +kernel
theorem dL_hull_18 : decode cL_hull 18 = .ok (.iconst 0, 1) := by decide +kernel
theorem dL_hull_19 : decode cL_hull 19 = .ok (.ireturn, 1) := by decide +kernel
theorem dL_join_0 : decode cL_join 0 = .ok (.aload_n 3, 1) := by decide +kernel
theorem dL_join_1 : decode cL_join 1 = .ok (.iconst 0, 1) := by decide +kernel
theorem dL_join_2 : decode cL_join 2 = .ok (.aload_n 0, 1) := by decide +kernel
theorem dL_join_3 : decode cL_join 3 = .ok (.iload_n 1, 1) := by decide +kernel
theorem dL_join_4 : decode cL_join 4 = .ok (.iload_n 2, 1) := by decide +kernel
theorem dL_join_5 : decode cL_join 5 = .ok (.invokevirtual 44, 3) := by decide +kernel
theorem dL_join_8 : decode cL_join 8 = .ok (.i2l, 1) := by decide +kernel
theorem dL_join_9 : decode cL_join 9 = .ok (.lastore, 1) := by decide +kernel
theorem dL_join_10 : decode cL_join 10 = .ok (.goto 11, 3) := by decide +kernel
theorem dL_join_13 : decode cL_join 13 = .ok (.astore 4, 2) := by decide +kernel
theorem dL_join_15 : decode cL_join 15 = .ok (.iconst 1, 1) := by decide +kernel
theorem dL_join_16 : decode cL_join 16 = .ok (.ireturn, 1) := by decide +kernel
theorem dL_join_17 : decode cL_join 17 = .ok (.astore 4, 2) := by decide +kernel
theorem dL_join_19 : decode cL_join 19 = .ok (.iconst 2, 1) := by decide +kernel
theorem dL_join_20 : decode cL_join 20 = .ok (.ireturn, 1) := by decide +kernel
theorem dL_join_21 : decode cL_join 21 = .ok (.iconst 0, 1) := by decide +kernel
theorem dL_join_22 : decode cL_join 22 = .ok (.ireturn, 1) := by decide +kernel
theorem dL_sum_0 : decode cL_sum 0 = .ok (.aload_n 3, 1) := by decide +kernel
theorem dL_sum_1 : decode cL_sum 1 = .ok (.iconst 0, 1) := by decide +kernel
theorem dL_sum_2 : decode cL_sum 2 = .ok (.aload_n 0, 1) := by decide +kernel
theorem dL_sum_3 : decode cL_sum 3 = .ok (.iload_n 1, 1) := by decide +kernel
theorem dL_sum_4 : decode cL_sum 4 = .ok (.iload_n 2, 1) := by decide +kernel
theorem dL_sum_5 : decode cL_sum 5 = .ok (.invokevirtual 47, 3) := by decide +kernel
theorem dL_sum_8 : decode cL_sum 8 = .ok (.i2l, 1) := by decide +kernel
theorem dL_sum_9 : decode cL_sum 9 = .ok (.lastore, 1) := by decide +kernel
theorem dL_sum_10 : decode cL_sum 10 = .ok (.goto 11, 3) := by decide +kernel
theorem dL_sum_13 : decode cL_sum 13 = .ok (.astore 4, 2) := by decide +kernel
theorem dL_sum_15 : decode cL_sum 15 = .ok (.iconst 1, 1) := by decide +kernel
theorem dL_sum_16 : decode cL_sum 16 = .ok (.ireturn, 1) := by decide +kernel
theorem dL_sum_17 : decode cL_sum 17 = .ok (.astore 4, 2) := by decide +kernel
theorem dL_sum_19 : decode cL_sum 19 = .ok (.iconst 2, 1) := by decide +kernel
theorem dL_sum_20 : decode cL_sum 20 = .ok (.ireturn, 1) := by decide +kernel
theorem dL_sum_21 : decode cL_sum 21 = .ok (.iconst 0, 1) := by decide +kernel
theorem dL_sum_22 : decode cL_sum 22 = .ok (.ireturn, 1) := by decide +kernel
theorem dL_layers_0 : decode cL_layers 0 = .ok (.aload_n 2, 1) := by decide +kernel
theorem dL_layers_1 : decode cL_layers 1 = .ok (.iconst 0, 1) := by decide +kernel
theorem dL_layers_2 : decode cL_layers 2 = .ok (.aload_n 0, 1) := by decide +kernel
theorem dL_layers_3 : decode cL_layers 3 = .ok (.iload_n 1, 1) := by decide +kernel
theorem dL_layers_4 : decode cL_layers 4 = .ok (.invokevirtual 50, 3) := by decide +kernel
theorem dL_layers_7 : decode cL_layers 7 = .ok (.i2l, 1) := by decide +kernel
theorem dL_layers_8 : decode cL_layers 8 = .ok (.lastore, 1) := by decide +kernel
theorem dL_layers_9 : decode cL_layers 9 = .ok (.goto 6, 3) := by decide +kernel
theorem dL_layers_12 : decode cL_layers 12 = .ok (.astore_n 3, 1) := by decide +kernel
theorem dL_layers_13 : decode cL_layers 13 = .ok (.iconst 1, 1) := by decide +kernel
theorem dL_layers_14 : decode cL_layers 14 = .ok (.ireturn, 1) := by decide +kernel
theorem dL_layers_15 : decode cL_layers 15 = .ok (.iconst 0, 1) := by decide +kernel
theorem dL_layers_16 : decode cL_layers 16 = .ok (.ireturn, 1) := by decide +kernel
theorem dL_layer_0 : decode cL_layer 0 = .ok (.aload_n 3, 1) := by decide +kernel
theorem dL_layer_1 : decode cL_layer 1 = .ok (.iconst 0, 1) := by decide +kernel
theorem dL_layer_2 : decode cL_layer 2 = .ok (.aload_n 0, 1) := by decide +kernel
theorem dL_layer_3 : decode cL_layer 3 = .ok (.iload_n 1, 1) := by decide +kernel
theorem dL_layer_4 : decode cL_layer 4 = .ok (.iload_n 2, 1) := by decide +kernel
theorem dL_layer_5 : decode cL_layer 5 = .ok (.invokevirtual 53, 3) := by decide +kernel
theorem dL_layer_8 : decode cL_layer 8 = .ok (.i2l, 1) := by decide +kernel
theorem dL_layer_9 : decode cL_layer 9 = .ok (.lastore, 1) := by decide +kernel
theorem dL_layer_10 : decode cL_layer 10 = .ok (.goto 11, 3) := by decide +kernel
theorem dL_layer_13 : decode cL_layer 13 = .ok (.astore 4, 2) := by decide +kernel
theorem dL_layer_15 : decode cL_layer 15 = .ok (.iconst 1, 1) := by decide +kernel
theorem dL_layer_16 : decode cL_layer 16 = .ok (.ireturn, 1) := by decide +kernel
theorem dL_layer_17 : decode cL_layer 17 = .ok (.astore 4, 2) := by decide +kernel
theorem dL_layer_19 : decode cL_layer 19 = .ok (.iconst 2, 1) := by decide +kernel
theorem dL_layer_20 : decode cL_layer 20 = .ok (.ireturn, 1) := by decide +kernel
theorem dL_layer_21 : decode cL_layer 21 = .ok (.iconst 0, 1) := by decide +kernel
theorem dL_layer_22 : decode cL_layer 22 = .ok (.ireturn, 1) := by decide +kernel
theorem dL_hullOf_0 : decode cL_hullOf 0 = .ok (.aload_n 2, 1) := by decide +kernel
theorem dL_hullOf_1 : decode cL_hullOf 1 = .ok (.iconst 0, 1) := by decide +kernel
theorem dL_hullOf_2 : decode cL_hullOf 2 = .ok (.aload_n 0, 1) := by decide +kernel
theorem dL_hullOf_3 : decode cL_hullOf 3 = .ok (.iload_n 1, 1) := by decide +kernel
theorem dL_hullOf_4 : decode cL_hullOf 4 = .ok (.invokevirtual 56, 3) := by decide +kernel
theorem dL_hullOf_7 : decode cL_hullOf 7 = .ok (.i2l, 1) := by decide +kernel
theorem dL_hullOf_8 : decode cL_hullOf 8 = .ok (.lastore, 1) := by decide +kernel
theorem dL_hullOf_9 : decode cL_hullOf 9 = .ok (.goto 9, 3) := by decide +kernel
theorem dL_hullOf_12 : decode cL_hullOf 12 = .ok (.astore_n 3, 1) := by decide +kernel
theorem dL_hullOf_13 : decode cL_hullOf 13 = .ok (.iconst 1, 1) := by decide +kernel
theorem dL_hullOf_14 : decode cL_hullOf 14 = .ok (.ireturn, 1) := by decide +kernel
theorem dL_hullOf_15 : decode cL_hullOf 15 = .ok (.astore_n 3, 1) := by decide +kernel
theorem dL_hullOf_16 : decode cL_hullOf 16 = .ok (.iconst 2, 1) := by decide +kernel
theorem dL_hullOf_17 : decode cL_hullOf 17 = .ok (.ireturn, 1) := by decide +kernel
theorem dL_hullOf_18 : decode cL_hullOf 18 = .ok (.iconst 0, 1) := by decide +kernel
theorem dL_hullOf_19 : decode cL_hullOf 19 = .ok (.ireturn, 1) := by decide +kernel
theorem dL_corner_0 : decode cL_corner 0 = .ok (.aload_n 3, 1) := by decide +kernel
theorem dL_corner_1 : decode cL_corner 1 = .ok (.iconst 0, 1) := by decide +kernel
theorem dL_corner_2 : decode cL_corner 2 = .ok (.aload_n 0, 1) := by decide +kernel
theorem dL_corner_3 : decode cL_corner 3 = .ok (.iload_n 1, 1) := by decide +kernel
theorem dL_corner_4 : decode cL_corner 4 = .ok (.iload_n 2, 1) := by decide +kernel
theorem dL_corner_5 : decode cL_corner 5 = .ok (.invokevirtual 59, 3) := by decide +kernel
theorem dL_corner_8 : decode cL_corner 8 = .ok (.i2l, 1) := by decide +kernel
theorem dL_corner_9 : decode cL_corner 9 = .ok (.lastore, 1) := by decide +kernel
theorem dL_corner_10 : decode cL_corner 10 = .ok (.goto 7, 3) := by decide +kernel
theorem dL_corner_13 : decode cL_corner 13 = .ok (.astore 4, 2) := by decide +kernel
theorem dL_corner_15 : decode cL_corner 15 = .ok (.iconst 1, 1) := by decide +kernel
theorem dL_corner_16 : decode cL_corner 16 = .ok (.ireturn, 1) := by decide +kernel
theorem dL_corner_17 : decode cL_corner 17 = .ok (.iconst 0, 1) := by decide +kernel
theorem dL_corner_18 : decode cL_corner 18 = .ok (.ireturn, 1) := by decide +kernel
theorem dL_width_0 : decode cL_width 0 = .ok (.aload_n 2, 1) := by decide +kernel
theorem dL_width_1 : decode cL_width 1 = .ok (.iconst 0, 1) := by decide +kernel
theorem dL_width_2 : decode cL_width 2 = .ok (.aload_n 0, 1) := by decide +kernel
theorem dL_width_3 : decode cL_width 3 = .ok (.iload_n 1, 1) := by decide +kernel
theorem dL_width_4 : decode cL_width 4 = .ok (.invokevirtual 63, 3) := by decide +kernel
theorem dL_width_7 : decode cL_width 7 = .ok (.lastore, 1) := by decide +kernel
theorem dL_width_8 : decode cL_width 8 = .ok (.goto 6, 3) := by decide +kernel
theorem dL_width_11 : decode cL_width 11 = .ok (.astore_n 3, 1) := by decide +kernel
theorem dL_width_12 : decode cL_width 12 = .ok (.iconst 1, 1) := by decide +kernel
theorem dL_width_13 : decode cL_width 13 = .ok (.ireturn, 1) := by decide +kernel
theorem dL_width_14 : decode cL_width 14 = .ok (.iconst 0, 1) := by decide +kernel
theorem dL_width_15 : decode cL_width 15 = .ok (.ireturn, 1) := by decide +kernel
theorem dL_add_0 : decode cL_add 0 = .ok (.aload 4, 2) := by decide +kernel
theorem dL_add_2 : decode cL_add 2 = .ok (.iconst 0, 1) := by decide +kernel
theorem dL_add_3 : decode cL_add 3 = .ok (.aload_n 0, 1) := by decide +kernel
theorem dL_add_4 : decode cL_add 4 = .ok (.iload_n 1, 1) := by decide +kernel
theorem dL_add_5 : decode cL_add 5 = .ok (.iload_n 2, 1) := by decide +kernel
theorem dL_add_6 : decode cL_add 6 = .ok (.iload_n 3, 1) := by decide +kernel
theorem dL_add_7 : decode cL_add 7 = .ok (.invokevirtual 67, 3) := by decide +kernel
theorem dL_add_10 : decode cL_add 10 = .ok (.i2l, 1) := by decide +kernel
theorem dL_add_11 : decode cL_add 11 = .ok (.lastore, 1) := by decide +kernel
theorem dL_add_12 : decode cL_add 12 = .ok (.goto 11, 3) := by decide +kernel
theorem dL_add_15 : decode cL_add 15 = .ok (.astore 5, 2) := by decide +kernel
theorem dL_add_17 : decode cL_add 17 = .ok (.iconst 1, 1) := by decide +kernel
theorem dL_add_18 : decode cL_add 18 = .ok (.ireturn, 1) := by decide +kernel
theorem dL_add_19 : decode cL_add 19 = .ok (.astore 5, 2) := by decide +kernel
theorem dL_add_21 : decode cL_add 21 = .ok (.iconst 2, 1) := by decide +kernel
theorem dL_add_22 : decode cL_add 22 = .ok (.ireturn, 1) := by decide +kernel
theorem dL_add_23 : decode cL_add 23 = .ok (.iconst 0, 1) := by decide +kernel
theorem dL_add_24 : decode cL_add 24 = .ok (.ireturn, 1) := by decide +kernel
theorem dL_clear_0 : decode cL_clear 0 = .ok (.aload_n 2, 1) := by decide +kernel
theorem dL_clear_1 : decode cL_clear 1 = .ok (.iconst 0, 1) := by decide +kernel
theorem dL_clear_2 : decode cL_clear 2 = .ok (.aload_n 0, 1) := by decide +kernel
theorem dL_clear_3 : decode cL_clear 3 = .ok (.iload_n 1, 1) := by decide +kernel
theorem dL_clear_4 : decode cL_clear 4 = .ok (.invokevirtual 70, 3) := by decide +kernel
theorem dL_clear_7 : decode cL_clear 7 = .ok (.i2l, 1) := by decide +kernel
theorem dL_clear_8 : decode cL_clear 8 = .ok (.lastore, 1) := by decide +kernel
theorem dL_clear_9 : decode cL_clear 9 = .ok (.goto 6, 3) := by decide +kernel
theorem dL_clear_12 : decode cL_clear 12 = .ok (.astore_n 3, 1) := by decide +kernel
theorem dL_clear_13 : decode cL_clear 13 = .ok (.iconst 1, 1) := by decide +kernel
theorem dL_clear_14 : decode cL_clear 14 = .ok (.ireturn, 1) := by decide +kernel
theorem dL_clear_15 : decode cL_clear 15 = .ok (.iconst 0, 1) := by decide +kernel
theorem dL_clear_16 : decode cL_clear 16 = .ok (.ireturn, 1) := by decide +kernel
theorem dL_isSimple_0 : decode cL_isSimple 0 = .ok (.aload_n 2, 1) := by decide +kernel
theorem dL_isSimple_1 : decode cL_isSimple 1 = .ok (.iconst 0, 1) := by decide +kernel
theorem dL_isSimple_2 : decode cL_isSimple 2 = .ok (.aload_n 0, 1) := by decide +kernel
theorem dL_isSimple_3 : decode cL_isSimple 3 = .ok (.iload_n 1, 1) := by decide +kernel
theorem dL_isSimple_4 : decode cL_isSimple 4 = .ok (.invokevirtual 73, 3) := by decide +kernel
theorem dL_isSimple_7 : decode cL_isSimple 7 = .ok (.ifCond .eq 7, 3) := by decide +kernel
theorem dL_isSimple_10 : decode cL_isSimple 10 = .ok (.lconst 1, 1) := by decide +kernel
theorem dL_isSimple_11 : decode cL_isSimple 11 = .ok (.goto 4, 3) := by decide +kernel
theorem dL_isSimple_14 : decode cL_isSimple 14 = .ok (.lconst 0, 1) := by decide +kernel
theorem dL_isSimple_15 : decode cL_isSimple 15 = .ok (.lastore, 1) := by decide +kernel
theorem dL_isSimple_16 : decode cL_isSimple 16 = .ok (.goto 6, 3) := by decide +kernel
theorem dL_isSimple_19 : decode cL_isSimple 19 = .ok (.astore_n 3, 1) := by decide +kernel
theorem dL_isSimple_20 : decode cL_isSimple 20 = .ok (.iconst 1, 1) := by decide +kernel
theorem dL_isSimple_21 : decode cL_isSimple 21 = .ok (.ireturn, 1) := by decide +kernel
theorem dL_isSimple_22 : decode cL_isSimple 22 = .ok (.iconst 0, 1) := by decide +kernel
theorem dL_isSimple_23 : decode cL_isSimple 23 = .ok (.ireturn, 1) := by decide +kernel
theorem dL_polygonArea_0 : decode cL_polygonArea 0 = .ok (.aload_n 2, 1) := by decide +kernel
theorem dL_polygonArea_1 : decode cL_polygonArea 1 = .ok (.iconst 0, 1) := by decide +kernel
theorem dL_polygonArea_2 : decode cL_polygonArea 2 = .ok (.aload_n 0, 1) := by decide +kernel
theorem dL_polygonArea_3 : decode cL_polygonArea 3 = .ok (.iload_n 1, 1) := by decide +kernel
theorem dL_polygonArea_4 : decode cL_polygonArea 4 = .ok (.invokevirtual 77, 3) := by decide +kernel
theorem dL_polygonArea_7 : decode cL_polygonArea 7 = .ok (.i2l, 1) := by decide +kernel
theorem dL_polygonArea_8 : decode cL_polygonArea 8 = .ok (.lastore, 1) := by decide +kernel
theorem dL_polygonArea_9 : decode cL_polygonArea 9 = .ok (.goto 6, 3) := by decide +kernel
theorem dL_polygonArea_12 : decode cL_polygonArea 12 = .ok (.astore_n 3, 1) := by decide +kernel
theorem dL_polygonArea_13 : decode cL_polygonArea 13 = .ok (.iconst 1, 1) := by decide +kernel
theorem dL_polygonArea_14 : decode cL_polygonArea 14 = .ok (.ireturn, 1) := by decide +kernel
theorem dL_polygonArea_15 : decode cL_polygonArea 15 = .ok (.iconst 0, 1) := by decide +kernel
theorem dL_polygonArea_16 : decode cL_polygonArea 16 = .ok (.ireturn, 1) := by decide +kernel
theorem dL_polygonEdge_0 : decode cL_polygonEdge 0 = .ok (.aload_n 2, 1) := by decide +kernel
theorem dL_polygonEdge_1 : decode cL_polygonEdge 1 = .ok (.iconst 0, 1) := by decide +kernel
theorem dL_polygonEdge_2 : decode cL_polygonEdge 2 = .ok (.aload_n 0, 1) := by decide +kernel
theorem dL_polygonEdge_3 : decode cL_polygonEdge 3 = .ok (.iload_n 1, 1) := by decide +kernel
theorem dL_polygonEdge_4 : decode cL_polygonEdge 4 = .ok (.invokevirtual 80, 3) := by decide +kernel
theorem dL_polygonEdge_7 : decode cL_polygonEdge 7 = .ok (.i2l, 1) := by decide +kernel
theorem dL_polygonEdge_8 : decode cL_polygonEdge 8 = .ok (.lastore, 1) := by decide +kernel
theorem dL_polygonEdge_9 : decode cL_polygonEdge 9 = .ok (.goto 9, 3) := by decide +kernel
theorem dL_polygonEdge_12 : decode cL_polygonEdge 12 = .ok (.astore_n 3, 1) := by decide +kernel
theorem dL_polygonEdge_13 : decode cL_polygonEdge 13 = .ok (.iconst 1, 1) := by decide +kernel
theorem dL_polygonEdge_14 : decode cL_polygonEdge 14 = .ok (.ireturn, 1) := by decide +kernel
theorem dL_polygonEdge_15 : decode cL_polygonEdge 15 = .ok (.astore_n 3, 1) := by decide +kernel
theorem dL_polygonEdge_16 : decode cL_polygonEdge 16 = .ok (.iconst 2, 1) := by decide +kernel
theorem dL_polygonEdge_17 : decode cL_polygonEdge 17 = .ok (.ireturn, 1) := by decide +kernel
theorem dL_polygonEdge_18 : decode cL_polygonEdge 18 = .ok (.iconst 0, 1) := by decide +kernel
theorem dL_polygonEdge_19 : decode cL_polygonEdge 19 = .ok (.ireturn, 1) := by decide +kernel
theorem dL_polygonInner_0 : decode cL_polygonInner 0 = .ok (.aload_n 2, 1) := by decide +kernel
theorem dL_polygonInner_1 : decode cL_polygonInner 1 = .ok (.iconst 0, 1) := by decide +kernel
theorem dL_polygonInner_2 : decode cL_polygonInner 2 = .ok (.aload_n 0, 1) := by decide +kernel
theorem dL_polygonInner_3 : decode cL_polygonInner 3 = .ok (.iload_n 1, 1) := by decide +kernel
theorem dL_polygonInner_4 : decode cL_polygonInner 4 = .ok (.invokevirtual 83, 3) := by decide +kernel
theorem dL_polygonInner_7 : decode cL_polygonInner 7 = .ok (.i2l, 1) := by decide +kernel
theorem dL_polygonInner_8 : decode cL_polygonInner 8 = .ok (.lastore, 1) := by decide +kernel
theorem dL_polygonInner_9 : decode cL_polygonInner 9 = .ok (.goto 9, 3) := by decide +kernel
theorem dL_polygonInner_12 : decode cL_polygonInner 12 = .ok (.astore_n 3, 1) := by decide +kernel
theorem dL_polygonInner_13 : decode cL_polygonInner 13 = .ok (.iconst 1, 1) := by decide +kernel
theorem dL_polygonInner_14 : decode cL_polygonInner 14 = .ok (.ireturn, 1) := by decide +kernel
theorem dL_polygonInner_15 : decode cL_polygonInner 15 = .ok (.astore_n 3, 1) := by decide +kernel
theorem dL_polygonInner_16 : decode cL_polygonInner 16 = .ok (.iconst 2, 1) := by decide +kernel
theorem dL_polygonInner_17 : decode cL_polygonInner 17 = .ok (.ireturn, 1) := by decide +kernel
theorem dL_polygonInner_18 : decode cL_polygonInner 18 = .ok (.iconst 0, 1) := by decide +kernel
theorem dL_polygonInner_19 : decode cL_polygonInner 19 = .ok (.ireturn, 1) := by decide +kernel
theorem dL_polygonLies_0 : decode cL_polygonLies 0 = .ok (.aload 4, 2) := by decide +kernel
theorem dL_polygonLies_2 : decode cL_polygonLies 2 = .ok (.iconst 0, 1) := by decide +kernel
theorem dL_polygonLies_3 : decode cL_polygonLies 3 = .ok (.aload_n 0, 1) := by decide +kernel
theorem dL_polygonLies_4 : decode cL_polygonLies 4 = .ok (.iload_n 1, 1) := by decide +kernel
theorem dL_polygonLies_5 : decode cL_polygonLies 5 = .ok (.iload_n 2, 1) := by decide +kernel
theorem dL_polygonLies_6 : decode cL_polygonLies 6 = .ok (.iload_n 3, 1) := by decide +kernel
theorem dL_polygonLies_7 : decode cL_polygonLies 7 = .ok (.invokevirtual 86, 3) := by decide +kernel
theorem dL_polygonLies_10 : decode cL_polygonLies 10 = .ok (.i2l, 1) := by decide +kernel
theorem dL_polygonLies_11 : decode cL_polygonLies 11 = .ok (.lastore, 1) := by decide +kernel
theorem dL_polygonLies_12 : decode cL_polygonLies 12 = .ok (.goto 11, 3) := by decide +kernel
theorem dL_polygonLies_15 : decode cL_polygonLies 15 = .ok (.astore 5, 2) := by decide +kernel
theorem dL_polygonLies_17 : decode cL_polygonLies 17 = .ok (.iconst 1, 1) := by decide +kernel
theorem dL_polygonLies_18 : decode cL_polygonLies 18 = .ok (.ireturn, 1) := by decide +kernel
theorem dL_polygonLies_19 : decode cL_polygonLies 19 = .ok (.astore 5, 2) := by decide +kernel
theorem dL_polygonLies_21 : decode cL_polygonLies 21 = .ok (.iconst 2, 1) := by decide +kernel
theorem dL_polygonLies_22 : decode cL_polygonLies 22 = .ok (.ireturn, 1) := by decide +kernel
theorem dL_polygonLies_23 : decode cL_polygonLies 23 = .ok (.iconst 0, 1) := by decide +kernel
theorem dL_polygonLies_24 : decode cL_polygonLies 24 = .ok (.ireturn, 1) := by decide +kernel
theorem dL_holds_0 : decode cL_holds 0 = .ok (.aload_n 3, 1) := by decide +kernel
theorem dL_holds_1 : decode cL_holds 1 = .ok (.iconst 0, 1) := by decide +kernel
theorem dL_holds_2 : decode cL_holds 2 = .ok (.aload_n 0, 1) := by decide +kernel
theorem dL_holds_3 : decode cL_holds 3 = .ok (.iload_n 1, 1) := by decide +kernel
theorem dL_holds_4 : decode cL_holds 4 = .ok (.iload_n 2, 1) := by decide +kernel
theorem dL_holds_5 : decode cL_holds 5 = .ok (.invokevirtual 89, 3) := by decide +kernel
theorem dL_holds_8 : decode cL_holds 8 = .ok (.i2l, 1) := by decide +kernel
theorem dL_holds_9 : decode cL_holds 9 = .ok (.lastore, 1) := by decide +kernel
theorem dL_holds_10 : decode cL_holds 10 = .ok (.goto 11, 3) := by decide +kernel
theorem dL_holds_13 : decode cL_holds 13 = .ok (.astore 4, 2) := by decide +kernel
theorem dL_holds_15 : decode cL_holds 15 = .ok (.iconst 1, 1) := by decide +kernel
theorem dL_holds_16 : decode cL_holds 16 = .ok (.ireturn, 1) := by decide +kernel
theorem dL_holds_17 : decode cL_holds 17 = .ok (.astore 4, 2) := by decide +kernel
theorem dL_holds_19 : decode cL_holds 19 = .ok (.iconst 2, 1) := by decide +kernel
theorem dL_holds_20 : decode cL_holds 20 = .ok (.ireturn, 1) := by decide +kernel
theorem dL_holds_21 : decode cL_holds 21 = .ok (.iconst 0, 1) := by decide +kernel
theorem dL_holds_22 : decode cL_holds 22 = .ok (.ireturn, 1) := by decide +kernel
theorem dL_triangles_0 : decode cL_triangles 0 = .ok (.aload_n 2, 1) := by decide +kernel
theorem dL_triangles_1 : decode cL_triangles 1 = .ok (.iconst 0, 1) := by decide +kernel
theorem dL_triangles_2 : decode cL_triangles 2 = .ok (.aload_n 0, 1) := by decide +kernel
theorem dL_triangles_3 : decode cL_triangles 3 = .ok (.iload_n 1, 1) := by decide +kernel
theorem dL_triangles_4 : decode cL_triangles 4 = .ok (.invokevirtual 92, 3) := by decide +kernel
theorem dL_triangles_7 : decode cL_triangles 7 = .ok (.i2l, 1) := by decide +kernel
theorem dL_triangles_8 : decode cL_triangles 8 = .ok (.lastore, 1) := by decide +kernel
theorem dL_triangles_9 : decode cL_triangles 9 = .ok (.goto 9, 3) := by decide +kernel
theorem dL_triangles_12 : decode cL_triangles 12 = .ok (.astore_n 3, 1) := by decide +kernel
theorem dL_triangles_13 : decode cL_triangles 13 = .ok (.iconst 1, 1) := by decide +kernel
theorem dL_triangles_14 : decode cL_triangles 14 = .ok (.ireturn, 1) := by decide +kernel
theorem dL_triangles_15 : decode cL_triangles 15 = .ok (.astore_n 3, 1) := by decide +kernel
theorem dL_triangles_16 : decode cL_triangles 16 = .ok (.iconst 2, 1) := by decide +kernel
theorem dL_triangles_17 : decode cL_triangles 17 = .ok (.ireturn, 1) := by decide +kernel
theorem dL_triangles_18 : decode cL_triangles 18 = .ok (.iconst 0, 1) := by decide +kernel
theorem dL_triangles_19 : decode cL_triangles 19 = .ok (.ireturn, 1) := by decide +kernel
theorem dL_triangleAt_0 : decode cL_triangleAt 0 = .ok (.aload_n 3, 1) := by decide +kernel
theorem dL_triangleAt_1 : decode cL_triangleAt 1 = .ok (.iconst 0, 1) := by decide +kernel
theorem dL_triangleAt_2 : decode cL_triangleAt 2 = .ok (.aload_n 0, 1) := by decide +kernel
theorem dL_triangleAt_3 : decode cL_triangleAt 3 = .ok (.iload_n 1, 1) := by decide +kernel
theorem dL_triangleAt_4 : decode cL_triangleAt 4 = .ok (.iload_n 2, 1) := by decide +kernel
theorem dL_triangleAt_5 : decode cL_triangleAt 5 = .ok (.invokevirtual 95, 3) := by decide +kernel
theorem dL_triangleAt_8 : decode cL_triangleAt 8 = .ok (.i2l, 1) := by decide +kernel
theorem dL_triangleAt_9 : decode cL_triangleAt 9 = .ok (.lastore, 1) := by decide +kernel
theorem dL_triangleAt_10 : decode cL_triangleAt 10 = .ok (.goto 15, 3) := by decide +kernel
theorem dL_triangleAt_13 : decode cL_triangleAt 13 = .ok (.astore 4, 2) := by decide +kernel
theorem dL_triangleAt_15 : decode cL_triangleAt 15 = .ok (.iconst 1, 1) := by decide +kernel
theorem dL_triangleAt_16 : decode cL_triangleAt 16 = .ok (.ireturn, 1) := by decide +kernel
theorem dL_triangleAt_17 : decode cL_triangleAt 17 = .ok (.astore 4, 2) := by decide +kernel
theorem dL_triangleAt_19 : decode cL_triangleAt 19 = .ok (.iconst 2, 1) := by decide +kernel
theorem dL_triangleAt_20 : decode cL_triangleAt 20 = .ok (.ireturn, 1) := by decide +kernel
theorem dL_triangleAt_21 : decode cL_triangleAt 21 = .ok (.astore 4, 2) := by decide +kernel
theorem dL_triangleAt_23 : decode cL_triangleAt 23 = .ok (.iconst 3, 1) := by decide +kernel
theorem dL_triangleAt_24 : decode cL_triangleAt 24 = .ok (.ireturn, 1) := by decide +kernel
theorem dL_triangleAt_25 : decode cL_triangleAt 25 = .ok (.iconst 0, 1) := by decide +kernel
theorem dL_triangleAt_26 : decode cL_triangleAt 26 = .ok (.ireturn, 1) := by decide +kernel
theorem dL_sees_0 : decode cL_sees 0 = .ok (.aload 4, 2) := by decide +kernel
theorem dL_sees_2 : decode cL_sees 2 = .ok (.iconst 0, 1) := by decide +kernel
theorem dL_sees_3 : decode cL_sees 3 = .ok (.aload_n 0, 1) := by decide +kernel
theorem dL_sees_4 : decode cL_sees 4 = .ok (.iload_n 1, 1) := by decide +kernel
theorem dL_sees_5 : decode cL_sees 5 = .ok (.iload_n 2, 1) := by decide +kernel
theorem dL_sees_6 : decode cL_sees 6 = .ok (.iload_n 3, 1) := by decide +kernel
theorem dL_sees_7 : decode cL_sees 7 = .ok (.invokevirtual 98, 3) := by decide +kernel
theorem dL_sees_10 : decode cL_sees 10 = .ok (.ifCond .eq 7, 3) := by decide +kernel
theorem dL_sees_13 : decode cL_sees 13 = .ok (.lconst 1, 1) := by decide +kernel
theorem dL_sees_14 : decode cL_sees 14 = .ok (.goto 4, 3) := by decide +kernel
theorem dL_sees_17 : decode cL_sees 17 = .ok (.lconst 0, 1) := by decide +kernel
theorem dL_sees_18 : decode cL_sees 18 = .ok (.lastore, 1) := by decide +kernel
theorem dL_sees_19 : decode cL_sees 19 = .ok (.goto 15, 3) := by decide +kernel
theorem dL_sees_22 : decode cL_sees 22 = .ok (.astore 5, 2) := by decide +kernel
theorem dL_sees_24 : decode cL_sees 24 = .ok (.iconst 1, 1) := by decide +kernel
theorem dL_sees_25 : decode cL_sees 25 = .ok (.ireturn, 1) := by decide +kernel
theorem dL_sees_26 : decode cL_sees 26 = .ok (.astore 5, 2) := by decide +kernel
theorem dL_sees_28 : decode cL_sees 28 = .ok (.iconst 2, 1) := by decide +kernel
theorem dL_sees_29 : decode cL_sees 29 = .ok (.ireturn, 1) := by decide +kernel
theorem dL_sees_30 : decode cL_sees 30 = .ok (.astore 5, 2) := by decide +kernel
theorem dL_sees_32 : decode cL_sees 32 = .ok (.iconst 3, 1) := by decide +kernel
theorem dL_sees_33 : decode cL_sees 33 = .ok (.ireturn, 1) := by decide +kernel
theorem dL_sees_34 : decode cL_sees 34 = .ok (.iconst 0, 1) := by decide +kernel
theorem dL_sees_35 : decode cL_sees 35 = .ok (.ireturn, 1) := by decide +kernel
theorem dL_view_0 : decode cL_view 0 = .ok (.aload_n 3, 1) := by decide +kernel
theorem dL_view_1 : decode cL_view 1 = .ok (.iconst 0, 1) := by decide +kernel
theorem dL_view_2 : decode cL_view 2 = .ok (.aload_n 0, 1) := by decide +kernel
theorem dL_view_3 : decode cL_view 3 = .ok (.iload_n 1, 1) := by decide +kernel
theorem dL_view_4 : decode cL_view 4 = .ok (.iload_n 2, 1) := by decide +kernel
theorem dL_view_5 : decode cL_view 5 = .ok (.invokevirtual 102, 3) := by decide +kernel
theorem dL_view_8 : decode cL_view 8 = .ok (.i2l, 1) := by decide +kernel
theorem dL_view_9 : decode cL_view 9 = .ok (.lastore, 1) := by decide +kernel
theorem dL_view_10 : decode cL_view 10 = .ok (.goto 15, 3) := by decide +kernel
theorem dL_view_13 : decode cL_view 13 = .ok (.astore 4, 2) := by decide +kernel
theorem dL_view_15 : decode cL_view 15 = .ok (.iconst 1, 1) := by decide +kernel
theorem dL_view_16 : decode cL_view 16 = .ok (.ireturn, 1) := by decide +kernel
theorem dL_view_17 : decode cL_view 17 = .ok (.astore 4, 2) := by decide +kernel
theorem dL_view_19 : decode cL_view 19 = .ok (.iconst 2, 1) := by decide +kernel
theorem dL_view_20 : decode cL_view 20 = .ok (.ireturn, 1) := by decide +kernel
theorem dL_view_21 : decode cL_view 21 = .ok (.astore 4, 2) := by decide +kernel
theorem dL_view_23 : decode cL_view 23 = .ok (.iconst 3, 1) := by decide +kernel
theorem dL_view_24 : decode cL_view 24 = .ok (.ireturn, 1) := by decide +kernel
theorem dL_view_25 : decode cL_view 25 = .ok (.iconst 0, 1) := by decide +kernel
theorem dL_view_26 : decode cL_view 26 = .ok (.ireturn, 1) := by decide +kernel
theorem dL_line_0 : decode cL_line 0 = .ok (.aload 5, 2) := by decide +kernel
theorem dL_line_2 : decode cL_line 2 = .ok (.iconst 0, 1) := by decide +kernel
theorem dL_line_3 : decode cL_line 3 = .ok (.aload_n 0, 1) := by decide +kernel
theorem dL_line_4 : decode cL_line 4 = .ok (.iload_n 1, 1) := by decide +kernel
theorem dL_line_5 : decode cL_line 5 = .ok (.iload_n 2, 1) := by decide +kernel
theorem dL_line_6 : decode cL_line 6 = .ok (.iload_n 3, 1) := by decide +kernel
theorem dL_line_7 : decode cL_line 7 = .ok (.iload 4, 2) := by decide +kernel
theorem dL_line_9 : decode cL_line 9 = .ok (.invokevirtual 105, 3) := by decide +kernel
theorem dL_line_12 : decode cL_line 12 = .ok (.i2l, 1) := by decide +kernel
theorem dL_line_13 : decode cL_line 13 = .ok (.lastore, 1) := by decide +kernel
theorem dL_line_14 : decode cL_line 14 = .ok (.goto 11, 3) := by decide +kernel
theorem dL_line_17 : decode cL_line 17 = .ok (.astore 6, 2) := by decide +kernel
theorem dL_line_19 : decode cL_line 19 = .ok (.iconst 1, 1) := by decide +kernel
theorem dL_line_20 : decode cL_line 20 = .ok (.ireturn, 1) := by decide +kernel
theorem dL_line_21 : decode cL_line 21 = .ok (.astore 6, 2) := by decide +kernel
theorem dL_line_23 : decode cL_line 23 = .ok (.iconst 2, 1) := by decide +kernel
theorem dL_line_24 : decode cL_line 24 = .ok (.ireturn, 1) := by decide +kernel
theorem dL_line_25 : decode cL_line 25 = .ok (.iconst 0, 1) := by decide +kernel
theorem dL_line_26 : decode cL_line 26 = .ok (.ireturn, 1) := by decide +kernel
theorem dL_cross_0 : decode cL_cross 0 = .ok (.aload_n 3, 1) := by decide +kernel
theorem dL_cross_1 : decode cL_cross 1 = .ok (.iconst 0, 1) := by decide +kernel
theorem dL_cross_2 : decode cL_cross 2 = .ok (.aload_n 0, 1) := by decide +kernel
theorem dL_cross_3 : decode cL_cross 3 = .ok (.iload_n 1, 1) := by decide +kernel
theorem dL_cross_4 : decode cL_cross 4 = .ok (.iload_n 2, 1) := by decide +kernel
theorem dL_cross_5 : decode cL_cross 5 = .ok (.invokevirtual 109, 3) := by decide +kernel
theorem dL_cross_8 : decode cL_cross 8 = .ok (.ifCond .eq 7, 3) := by decide +kernel
theorem dL_cross_11 : decode cL_cross 11 = .ok (.lconst 1, 1) := by decide +kernel
theorem dL_cross_12 : decode cL_cross 12 = .ok (.goto 4, 3) := by decide +kernel
theorem dL_cross_15 : decode cL_cross 15 = .ok (.lconst 0, 1) := by decide +kernel
theorem dL_cross_16 : decode cL_cross 16 = .ok (.lastore, 1) := by decide +kernel
theorem dL_cross_17 : decode cL_cross 17 = .ok (.goto 7, 3) := by decide +kernel
theorem dL_cross_20 : decode cL_cross 20 = .ok (.astore 4, 2) := by decide +kernel
theorem dL_cross_22 : decode cL_cross 22 = .ok (.iconst 1, 1) := by decide +kernel
theorem dL_cross_23 : decode cL_cross 23 = .ok (.ireturn, 1) := by decide +kernel
theorem dL_cross_24 : decode cL_cross 24 = .ok (.iconst 0, 1) := by decide +kernel
theorem dL_cross_25 : decode cL_cross 25 = .ok (.ireturn, 1) := by decide +kernel
theorem dL_crossingAt_0 : decode cL_crossingAt 0 = .ok (.aload_n 2, 1) := by decide +kernel
theorem dL_crossingAt_1 : decode cL_crossingAt 1 = .ok (.iconst 0, 1) := by decide +kernel
theorem dL_crossingAt_2 : decode cL_crossingAt 2 = .ok (.aload_n 0, 1) := by decide +kernel
theorem dL_crossingAt_3 : decode cL_crossingAt 3 = .ok (.iload_n 1, 1) := by decide +kernel
theorem dL_crossingAt_4 : decode cL_crossingAt 4 = .ok (.invokevirtual 113, 3) := by decide +kernel
theorem dL_crossingAt_7 : decode cL_crossingAt 7 = .ok (.i2l, 1) := by decide +kernel
theorem dL_crossingAt_8 : decode cL_crossingAt 8 = .ok (.lastore, 1) := by decide +kernel
theorem dL_crossingAt_9 : decode cL_crossingAt 9 = .ok (.goto 6, 3) := by decide +kernel
theorem dL_crossingAt_12 : decode cL_crossingAt 12 = .ok (.astore_n 3, 1) := by decide +kernel
theorem dL_crossingAt_13 : decode cL_crossingAt 13 = .ok (.iconst 1, 1) := by decide +kernel
theorem dL_crossingAt_14 : decode cL_crossingAt 14 = .ok (.ireturn, 1) := by decide +kernel
theorem dL_crossingAt_15 : decode cL_crossingAt 15 = .ok (.iconst 0, 1) := by decide +kernel
theorem dL_crossingAt_16 : decode cL_crossingAt 16 = .ok (.ireturn, 1) := by decide +kernel
theorem dL_pair_0 : decode cL_pair 0 = .ok (.aload_n 3, 1) := by decide +kernel
theorem dL_pair_1 : decode cL_pair 1 = .ok (.iconst 0, 1) := by decide +kernel
theorem dL_pair_2 : decode cL_pair 2 = .ok (.aload_n 0, 1) := by decide +kernel
theorem dL_pair_3 : decode cL_pair 3 = .ok (.iload_n 1, 1) := by decide +kernel
theorem dL_pair_4 : decode cL_pair 4 = .ok (.iload_n 2, 1) := by decide +kernel
theorem dL_pair_5 : decode cL_pair 5 = .ok (.invokevirtual 116, 3) := by decide +kernel
theorem dL_pair_8 : decode cL_pair 8 = .ok (.i2l, 1) := by decide +kernel
theorem dL_pair_9 : decode cL_pair 9 = .ok (.lastore, 1) := by decide +kernel
theorem dL_pair_10 : decode cL_pair 10 = .ok (.goto 11, 3) := by decide +kernel
theorem dL_pair_13 : decode cL_pair 13 = .ok (.astore 4, 2) := by decide +kernel
theorem dL_pair_15 : decode cL_pair 15 = .ok (.iconst 1, 1) := by decide +kernel
theorem dL_pair_16 : decode cL_pair 16 = .ok (.ireturn, 1) := by decide +kernel
theorem dL_pair_17 : decode cL_pair 17 = .ok (.astore 4, 2) := by decide +kernel
theorem dL_pair_19 : decode cL_pair 19 = .ok (.iconst 2, 1) := by decide +kernel
theorem dL_pair_20 : decode cL_pair 20 = .ok (.ireturn, 1) := by decide +kernel
theorem dL_pair_21 : decode cL_pair 21 = .ok (.iconst 0, 1) := by decide +kernel
theorem dL_pair_22 : decode cL_pair 22 = .ok (.ireturn, 1) := by decide +kernel
theorem dL_distance_0 : decode cL_distance 0 = .ok (.aload_n 3, 1) := by decide +kernel
theorem dL_distance_1 : decode cL_distance 1 = .ok (.iconst 0, 1) := by decide +kernel
theorem dL_distance_2 : decode cL_distance 2 = .ok (.aload_n 0, 1) := by decide +kernel
theorem dL_distance_3 : decode cL_distance 3 = .ok (.iload_n 1, 1) := by decide +kernel
theorem dL_distance_4 : decode cL_distance 4 = .ok (.iload_n 2, 1) := by decide +kernel
theorem dL_distance_5 : decode cL_distance 5 = .ok (.invokevirtual 119, 3) := by decide +kernel
theorem dL_distance_8 : decode cL_distance 8 = .ok (.i2l, 1) := by decide +kernel
theorem dL_distance_9 : decode cL_distance 9 = .ok (.lastore, 1) := by decide +kernel
theorem dL_distance_10 : decode cL_distance 10 = .ok (.goto 11, 3) := by decide +kernel
theorem dL_distance_13 : decode cL_distance 13 = .ok (.astore 4, 2) := by decide +kernel
theorem dL_distance_15 : decode cL_distance 15 = .ok (.iconst 1, 1) := by decide +kernel
theorem dL_distance_16 : decode cL_distance 16 = .ok (.ireturn, 1) := by decide +kernel
theorem dL_distance_17 : decode cL_distance 17 = .ok (.astore 4, 2) := by decide +kernel
theorem dL_distance_19 : decode cL_distance 19 = .ok (.iconst 2, 1) := by decide +kernel
theorem dL_distance_20 : decode cL_distance 20 = .ok (.ireturn, 1) := by decide +kernel
theorem dL_distance_21 : decode cL_distance 21 = .ok (.iconst 0, 1) := by decide +kernel
theorem dL_distance_22 : decode cL_distance 22 = .ok (.ireturn, 1) := by decide +kernel
theorem dL_box_0 : decode cL_box 0 = .ok (.aload_n 3, 1) := by decide +kernel
theorem dL_box_1 : decode cL_box 1 = .ok (.iconst 0, 1) := by decide +kernel
theorem dL_box_2 : decode cL_box 2 = .ok (.aload_n 0, 1) := by decide +kernel
theorem dL_box_3 : decode cL_box 3 = .ok (.iload_n 1, 1) := by decide +kernel
theorem dL_box_4 : decode cL_box 4 = .ok (.iload_n 2, 1) := by decide +kernel
theorem dL_box_5 : decode cL_box 5 = .ok (.invokevirtual 122, 3) := by decide +kernel
theorem dL_box_8 : decode cL_box 8 = .ok (.i2l, 1) := by decide +kernel
theorem dL_box_9 : decode cL_box 9 = .ok (.lastore, 1) := by decide +kernel
theorem dL_box_10 : decode cL_box 10 = .ok (.goto 11, 3) := by decide +kernel
theorem dL_box_13 : decode cL_box 13 = .ok (.astore 4, 2) := by decide +kernel
theorem dL_box_15 : decode cL_box 15 = .ok (.iconst 1, 1) := by decide +kernel
theorem dL_box_16 : decode cL_box 16 = .ok (.ireturn, 1) := by decide +kernel
theorem dL_box_17 : decode cL_box 17 = .ok (.astore 4, 2) := by decide +kernel
theorem dL_box_19 : decode cL_box 19 = .ok (.iconst 2, 1) := by decide +kernel
theorem dL_box_20 : decode cL_box 20 = .ok (.ireturn, 1) := by decide +kernel
theorem dL_box_21 : decode cL_box 21 = .ok (.iconst 0, 1) := by decide +kernel
theorem dL_box_22 : decode cL_box 22 = .ok (.ireturn, 1) := by decide +kernel
theorem dL_fence_0 : decode cL_fence 0 = .ok (.aload_n 3, 1) := by decide +kernel
theorem dL_fence_1 : decode cL_fence 1 = .ok (.iconst 0, 1) := by decide +kernel
theorem dL_fence_2 : decode cL_fence 2 = .ok (.aload_n 0, 1) := by decide +kernel
theorem dL_fence_3 : decode cL_fence 3 = .ok (.iload_n 1, 1) := by decide +kernel
theorem dL_fence_4 : decode cL_fence 4 = .ok (.iload_n 2, 1) := by decide +kernel
theorem dL_fence_5 : decode cL_fence 5 = .ok (.invokevirtual 125, 3) := by decide +kernel
theorem dL_fence_8 : decode cL_fence 8 = .ok (.i2l, 1) := by decide +kernel
theorem dL_fence_9 : decode cL_fence 9 = .ok (.lastore, 1) := by decide +kernel
theorem dL_fence_10 : decode cL_fence 10 = .ok (.goto 11, 3) := by decide +kernel
theorem dL_fence_13 : decode cL_fence 13 = .ok (.astore 4, 2) := by decide +kernel
theorem dL_fence_15 : decode cL_fence 15 = .ok (.iconst 1, 1) := by decide +kernel
theorem dL_fence_16 : decode cL_fence 16 = .ok (.ireturn, 1) := by decide +kernel
theorem dL_fence_17 : decode cL_fence 17 = .ok (.astore 4, 2) := by decide +kernel
theorem dL_fence_19 : decode cL_fence 19 = .ok (.iconst 2, 1) := by decide +kernel
theorem dL_fence_20 : decode cL_fence 20 = .ok (.ireturn, 1) := by decide +kernel
theorem dL_fence_21 : decode cL_fence 21 = .ok (.iconst 0, 1) := by decide +kernel
theorem dL_fence_22 : decode cL_fence 22 = .ok (.ireturn, 1) := by decide +kernel
theorem dL_apart_0 : decode cL_apart 0 = .ok (.aload_n 3, 1) := by decide +kernel
theorem dL_apart_1 : decode cL_apart 1 = .ok (.iconst 0, 1) := by decide +kernel
theorem dL_apart_2 : decode cL_apart 2 = .ok (.aload_n 0, 1) := by decide +kernel
theorem dL_apart_3 : decode cL_apart 3 = .ok (.iload_n 1, 1) := by decide +kernel
theorem dL_apart_4 : decode cL_apart 4 = .ok (.iload_n 2, 1) := by decide +kernel
theorem dL_apart_5 : decode cL_apart 5 = .ok (.invokevirtual 128, 3) := by decide +kernel
theorem dL_apart_8 : decode cL_apart 8 = .ok (.ifCond .eq 7, 3) := by decide +kernel
theorem dL_apart_11 : decode cL_apart 11 = .ok (.lconst 1, 1) := by decide +kernel
theorem dL_apart_12 : decode cL_apart 12 = .ok (.goto 4, 3) := by decide +kernel
theorem dL_apart_15 : decode cL_apart 15 = .ok (.lconst 0, 1) := by decide +kernel
theorem dL_apart_16 : decode cL_apart 16 = .ok (.lastore, 1) := by decide +kernel
theorem dL_apart_17 : decode cL_apart 17 = .ok (.goto 11, 3) := by decide +kernel
theorem dL_apart_20 : decode cL_apart 20 = .ok (.astore 4, 2) := by decide +kernel
theorem dL_apart_22 : decode cL_apart 22 = .ok (.iconst 1, 1) := by decide +kernel
theorem dL_apart_23 : decode cL_apart 23 = .ok (.ireturn, 1) := by decide +kernel
theorem dL_apart_24 : decode cL_apart 24 = .ok (.astore 4, 2) := by decide +kernel
theorem dL_apart_26 : decode cL_apart 26 = .ok (.iconst 2, 1) := by decide +kernel
theorem dL_apart_27 : decode cL_apart 27 = .ok (.ireturn, 1) := by decide +kernel
theorem dL_apart_28 : decode cL_apart 28 = .ok (.iconst 0, 1) := by decide +kernel
theorem dL_apart_29 : decode cL_apart 29 = .ok (.ireturn, 1) := by decide +kernel
theorem dL_restore_0 : decode cL_restore 0 = .ok (.aload_n 1, 1) := by decide +kernel
theorem dL_restore_1 : decode cL_restore 1 = .ok (.iconst 0, 1) := by decide +kernel
theorem dL_restore_2 : decode cL_restore 2 = .ok (.aload_n 0, 1) := by decide +kernel
theorem dL_restore_3 : decode cL_restore 3 = .ok (.invokevirtual 131, 3) := by decide +kernel
theorem dL_restore_6 : decode cL_restore 6 = .ok (.i2l, 1) := by decide +kernel
theorem dL_restore_7 : decode cL_restore 7 = .ok (.lastore, 1) := by decide +kernel
theorem dL_restore_8 : decode cL_restore 8 = .ok (.goto 6, 3) := by decide +kernel
theorem dL_restore_11 : decode cL_restore 11 = .ok (.astore_n 2, 1) := by decide +kernel
theorem dL_restore_12 : decode cL_restore 12 = .ok (.iconst 1, 1) := by decide +kernel
theorem dL_restore_13 : decode cL_restore 13 = .ok (.ireturn, 1) := by decide +kernel
theorem dL_restore_14 : decode cL_restore 14 = .ok (.iconst 0, 1) := by decide +kernel
theorem dL_restore_15 : decode cL_restore 15 = .ok (.ireturn, 1) := by decide +kernel
theorem dL_meanFar_0 : decode cL_meanFar 0 = .ok (.aload_n 2, 1) := by decide +kernel
theorem dL_meanFar_1 : decode cL_meanFar 1 = .ok (.iconst 0, 1) := by decide +kernel
theorem dL_meanFar_2 : decode cL_meanFar 2 = .ok (.aload_n 0, 1) := by decide +kernel
theorem dL_meanFar_3 : decode cL_meanFar 3 = .ok (.iload_n 1, 1) := by decide +kernel
theorem dL_meanFar_4 : decode cL_meanFar 4 = .ok (.invokevirtual 135, 3) := by decide +kernel
theorem dL_meanFar_7 : decode cL_meanFar 7 = .ok (.dastore, 1) := by decide +kernel
theorem dL_meanFar_8 : decode cL_meanFar 8 = .ok (.goto 6, 3) := by decide +kernel
theorem dL_meanFar_11 : decode cL_meanFar 11 = .ok (.astore_n 3, 1) := by decide +kernel
theorem dL_meanFar_12 : decode cL_meanFar 12 = .ok (.iconst 1, 1) := by decide +kernel
theorem dL_meanFar_13 : decode cL_meanFar 13 = .ok (.ireturn, 1) := by decide +kernel
theorem dL_meanFar_14 : decode cL_meanFar 14 = .ok (.iconst 0, 1) := by decide +kernel
theorem dL_meanFar_15 : decode cL_meanFar 15 = .ok (.ireturn, 1) := by decide +kernel

theorem dX11_rounds_25 : decode cX11_rounds 25 = .ok (.aload_n 2, 1) := by decide +kernel
theorem dX11_rounds_26 : decode cX11_rounds 26 = .ok (.invokevirtual 140, 3) := by decide +kernel
theorem dX11_rounds_29 : decode cX11_rounds 29 = .ok (.invokevirtual 187, 3) := by decide +kernel
theorem dX11_rounds_32 : decode cX11_rounds 32 = .ok (.ireturn, 1) := by decide +kernel
theorem dX11_ordered_0 : decode cX11_ordered 0 = .ok (.iload_n 1, 1) := by decide +kernel
theorem dX11_ordered_1 : decode cX11_ordered 1 = .ok (.ifCond .lt 8, 3) := by decide +kernel
theorem dX11_ordered_4 : decode cX11_ordered 4 = .ok (.iload_n 1, 1) := by decide +kernel
theorem dX11_ordered_5 : decode cX11_ordered 5 = .ok (.iconst 4, 1) := by decide +kernel
theorem dX11_ordered_6 : decode cX11_ordered 6 = .ok (.if_icmp .lt 7, 3) := by decide +kernel
theorem dX11_ordered_9 : decode cX11_ordered 9 = .ok (.iconst (-1), 1) := by decide +kernel
theorem dX11_ordered_10 : decode cX11_ordered 10 = .ok (.goto 12, 3) := by decide +kernel
theorem dX11_ordered_13 : decode cX11_ordered 13 = .ok (.aload_n 0, 1) := by decide +kernel
theorem dX11_ordered_14 : decode cX11_ordered 14 = .ok (.getfield 12, 3) := by decide +kernel
theorem dX11_ordered_17 : decode cX11_ordered 17 = .ok (.iload_n 1, 1) := by decide +kernel
theorem dX11_ordered_18 : decode cX11_ordered 18 = .ok (.iload_n 2, 1) := by decide +kernel
theorem dX11_ordered_19 : decode cX11_ordered 19 = .ok (.invokevirtual 190, 3) := by decide +kernel
theorem dX11_ordered_22 : decode cX11_ordered 22 = .ok (.ireturn, 1) := by decide +kernel
theorem dX11_first_0 : decode cX11_first 0 = .ok (.iload_n 1, 1) := by decide +kernel
theorem dX11_first_1 : decode cX11_first 1 = .ok (.ifCond .lt 23, 3) := by decide +kernel
theorem dX11_first_4 : decode cX11_first 4 = .ok (.iload_n 1, 1) := by decide +kernel
theorem dX11_first_5 : decode cX11_first 5 = .ok (.iconst 4, 1) := by decide +kernel
theorem dX11_first_6 : decode cX11_first 6 = .ok (.if_icmp .ge 18, 3) := by decide +kernel
theorem dX11_first_9 : decode cX11_first 9 = .ok (.iload_n 2, 1) := by decide +kernel
theorem dX11_first_10 : decode cX11_first 10 = .ok (.ifCond .lt 14, 3) := by decide +kernel
theorem dX11_first_13 : decode cX11_first 13 = .ok (.iload_n 2, 1) := by decide +kernel
theorem dX11_first_14 : decode cX11_first 14 = .ok (.aload_n 0, 1) := by decide +kernel
theorem dX11_first_15 : decode cX11_first 15 = .ok (.getfield 12, 3) := by decide +kernel
theorem dX11_first_18 : decode cX11_first 18 = .ok (.invokevirtual 194, 3) := by decide +kernel
theorem dX11_first_21 : decode cX11_first 21 = .ok (.if_icmp .le 5, 3) := by decide +kernel
theorem dX11_first_24 : decode cX11_first 24 = .ok (.iconst (-1), 1) := by decide +kernel
theorem dX11_first_25 : decode cX11_first 25 = .ok (.ireturn, 1) := by decide +kernel
theorem dX11_first_26 : decode cX11_first 26 = .ok (.aload_n 0, 1) := by decide +kernel
theorem dX11_first_27 : decode cX11_first 27 = .ok (.aload_n 0, 1) := by decide +kernel
theorem dX11_first_28 : decode cX11_first 28 = .ok (.getfield 12, 3) := by decide +kernel
theorem dX11_first_31 : decode cX11_first 31 = .ok (.iload_n 1, 1) := by decide +kernel
theorem dX11_first_32 : decode cX11_first 32 = .ok (.iload_n 2, 1) := by decide +kernel
theorem dX11_first_33 : decode cX11_first 33 = .ok (.invokevirtual 197, 3) := by decide +kernel
theorem dX11_first_36 : decode cX11_first 36 = .ok (.invokevirtual 99, 3) := by decide +kernel
theorem dX11_first_39 : decode cX11_first 39 = .ok (.ireturn, 1) := by decide +kernel
theorem dX11_least_0 : decode cX11_least 0 = .ok (.aload_n 0, 1) := by decide +kernel
theorem dX11_least_1 : decode cX11_least 1 = .ok (.iload_n 1, 1) := by decide +kernel
theorem dX11_least_2 : decode cX11_least 2 = .ok (.iload_n 2, 1) := by decide +kernel
theorem dX11_least_3 : decode cX11_least 3 = .ok (.iload_n 3, 1) := by decide +kernel
theorem dX11_least_4 : decode cX11_least 4 = .ok (.invokevirtual 201, 3) := by decide +kernel
theorem dX11_least_7 : decode cX11_least 7 = .ok (.istore 4, 2) := by decide +kernel
theorem dX11_least_9 : decode cX11_least 9 = .ok (.iload 4, 2) := by decide +kernel
theorem dX11_least_11 : decode cX11_least 11 = .ok (.ifCond .eq 8, 3) := by decide +kernel
theorem dX11_least_14 : decode cX11_least 14 = .ok (.iload 4, 2) := by decide +kernel
theorem dX11_least_16 : decode cX11_least 16 = .ok (.goto 26, 3) := by decide +kernel
theorem dX11_least_19 : decode cX11_least 19 = .ok (.aload_n 0, 1) := by decide +kernel
theorem dX11_least_20 : decode cX11_least 20 = .ok (.getfield 12, 3) := by decide +kernel
theorem dX11_least_23 : decode cX11_least 23 = .ok (.iload_n 1, 1) := by decide +kernel
theorem dX11_least_24 : decode cX11_least 24 = .ok (.aload_n 0, 1) := by decide +kernel
theorem dX11_least_25 : decode cX11_least 25 = .ok (.getfield 12, 3) := by decide +kernel
theorem dX11_least_28 : decode cX11_least 28 = .ok (.iload_n 1, 1) := by decide +kernel
theorem dX11_least_29 : decode cX11_least 29 = .ok (.iload_n 2, 1) := by decide +kernel
theorem dX11_least_30 : decode cX11_least 30 = .ok (.aload_n 0, 1) := by decide +kernel
theorem dX11_least_31 : decode cX11_least 31 = .ok (.iload_n 1, 1) := by decide +kernel
theorem dX11_least_32 : decode cX11_least 32 = .ok (.iload_n 3, 1) := by decide +kernel
theorem dX11_least_33 : decode cX11_least 33 = .ok (.invokevirtual 205, 3) := by decide +kernel
theorem dX11_least_36 : decode cX11_least 36 = .ok (.invokevirtual 208, 3) := by decide +kernel
theorem dX11_least_39 : decode cX11_least 39 = .ok (.invokevirtual 212, 3) := by decide +kernel
theorem dX11_least_42 : decode cX11_least 42 = .ok (.ireturn, 1) := by decide +kernel
theorem dX11_leastSets_0 : decode cX11_leastSets 0 = .ok (.aload_n 0, 1) := by decide +kernel
theorem dX11_leastSets_1 : decode cX11_leastSets 1 = .ok (.iload_n 1, 1) := by decide +kernel
theorem dX11_leastSets_2 : decode cX11_leastSets 2 = .ok (.iload_n 2, 1) := by decide +kernel
theorem dX11_leastSets_3 : decode cX11_leastSets 3 = .ok (.iload_n 3, 1) := by decide +kernel
theorem dX11_leastSets_4 : decode cX11_leastSets 4 = .ok (.invokevirtual 201, 3) := by decide +kernel
theorem dX11_leastSets_7 : decode cX11_leastSets 7 = .ok (.ifCond .eq 9, 3) := by decide +kernel
theorem dX11_leastSets_10 : decode cX11_leastSets 10 = .ok (.ldc2_w 138, 3) := by decide +kernel
theorem dX11_leastSets_13 : decode cX11_leastSets 13 = .ok (.goto 18, 3) := by decide +kernel
theorem dX11_leastSets_16 : decode cX11_leastSets 16 = .ok (.aload_n 0, 1) := by decide +kernel
theorem dX11_leastSets_17 : decode cX11_leastSets 17 = .ok (.getfield 12, 3) := by decide +kernel
theorem dX11_leastSets_20 : decode cX11_leastSets 20 = .ok (.iload_n 1, 1) := by decide +kernel
theorem dX11_leastSets_21 : decode cX11_leastSets 21 = .ok (.iload_n 2, 1) := by decide +kernel
theorem dX11_leastSets_22 : decode cX11_leastSets 22 = .ok (.aload_n 0, 1) := by decide +kernel
theorem dX11_leastSets_23 : decode cX11_leastSets 23 = .ok (.iload_n 1, 1) := by decide +kernel
theorem dX11_leastSets_24 : decode cX11_leastSets 24 = .ok (.iload_n 3, 1) := by decide +kernel
theorem dX11_leastSets_25 : decode cX11_leastSets 25 = .ok (.invokevirtual 205, 3) := by decide +kernel
theorem dX11_leastSets_28 : decode cX11_leastSets 28 = .ok (.invokevirtual 208, 3) := by decide +kernel
theorem dX11_leastSets_31 : decode cX11_leastSets 31 = .ok (.lreturn, 1) := by decide +kernel
theorem dX11_meets_0 : decode cX11_meets 0 = .ok (.iload_n 1, 1) := by decide +kernel
theorem dX11_meets_1 : decode cX11_meets 1 = .ok (.ifCond .lt 8, 3) := by decide +kernel
theorem dX11_meets_4 : decode cX11_meets 4 = .ok (.iload_n 1, 1) := by decide +kernel
theorem dX11_meets_5 : decode cX11_meets 5 = .ok (.iconst 4, 1) := by decide +kernel
theorem dX11_meets_6 : decode cX11_meets 6 = .ok (.if_icmp .lt 7, 3) := by decide +kernel
theorem dX11_meets_9 : decode cX11_meets 9 = .ok (.iconst (-1), 1) := by decide +kernel
theorem dX11_meets_10 : decode cX11_meets 10 = .ok (.goto 13, 3) := by decide +kernel
theorem dX11_meets_13 : decode cX11_meets 13 = .ok (.aload_n 0, 1) := by decide +kernel
theorem dX11_meets_14 : decode cX11_meets 14 = .ok (.getfield 12, 3) := by decide +kernel
theorem dX11_meets_17 : decode cX11_meets 17 = .ok (.iload_n 1, 1) := by decide +kernel
theorem dX11_meets_18 : decode cX11_meets 18 = .ok (.iload_n 2, 1) := by decide +kernel
theorem dX11_meets_19 : decode cX11_meets 19 = .ok (.iload_n 3, 1) := by decide +kernel
theorem dX11_meets_20 : decode cX11_meets 20 = .ok (.invokestatic 216, 3) := by decide +kernel
theorem dX11_meets_23 : decode cX11_meets 23 = .ok (.ireturn, 1) := by decide +kernel
theorem dX11_cascade_0 : decode cX11_cascade 0 = .ok (.iload_n 1, 1) := by decide +kernel
theorem dX11_cascade_1 : decode cX11_cascade 1 = .ok (.iload_n 2, 1) := by decide +kernel
theorem dX11_cascade_2 : decode cX11_cascade 2 = .ok (.invokestatic 220, 3) := by decide +kernel
theorem dX11_cascade_5 : decode cX11_cascade 5 = .ok (.ifCond .ne 8, 3) := by decide +kernel
theorem dX11_cascade_8 : decode cX11_cascade 8 = .ok (.iload_n 3, 1) := by decide +kernel
theorem dX11_cascade_9 : decode cX11_cascade 9 = .ok (.iconst (-1), 1) := by decide +kernel
theorem dX11_cascade_10 : decode cX11_cascade 10 = .ok (.if_icmp .ge 5, 3) := by decide +kernel
theorem dX11_cascade_13 : decode cX11_cascade 13 = .ok (.iconst (-1), 1) := by decide +kernel
theorem dX11_cascade_14 : decode cX11_cascade 14 = .ok (.ireturn, 1) := by decide +kernel
theorem dX11_cascade_15 : decode cX11_cascade 15 = .ok (.aload_n 0, 1) := by decide +kernel
theorem dX11_cascade_16 : decode cX11_cascade 16 = .ok (.getfield 52, 3) := by decide +kernel
theorem dX11_cascade_19 : decode cX11_cascade 19 = .ok (.iload_n 1, 1) := by decide +kernel
theorem dX11_cascade_20 : decode cX11_cascade 20 = .ok (.iload_n 2, 1) := by decide +kernel
theorem dX11_cascade_21 : decode cX11_cascade 21 = .ok (.invokevirtual 224, 3) := by decide +kernel
theorem dX11_cascade_24 : decode cX11_cascade 24 = .ok (.iload_n 3, 1) := by decide +kernel
theorem dX11_cascade_25 : decode cX11_cascade 25 = .ok (.iconst (-1), 1) := by decide +kernel
theorem dX11_cascade_26 : decode cX11_cascade 26 = .ok (.if_icmp .ne 13, 3) := by decide +kernel
theorem dX11_cascade_29 : decode cX11_cascade 29 = .ok (.aload_n 0, 1) := by decide +kernel
theorem dX11_cascade_30 : decode cX11_cascade 30 = .ok (.getfield 52, 3) := by decide +kernel
theorem dX11_cascade_33 : decode cX11_cascade 33 = .ok (.invokevirtual 228, 3) := by decide +kernel
theorem dX11_cascade_36 : decode cX11_cascade 36 = .ok (.goto 11, 3) := by decide +kernel
theorem dX11_cascade_39 : decode cX11_cascade 39 = .ok (.aload_n 0, 1) := by decide +kernel
theorem dX11_cascade_40 : decode cX11_cascade 40 = .ok (.getfield 52, 3) := by decide +kernel
theorem dX11_cascade_43 : decode cX11_cascade 43 = .ok (.iload_n 3, 1) := by decide +kernel
theorem dX11_cascade_44 : decode cX11_cascade 44 = .ok (.invokevirtual 229, 3) := by decide +kernel
theorem dX11_cascade_47 : decode cX11_cascade 47 = .ok (.ireturn, 1) := by decide +kernel
theorem dX11_bound_0 : decode cX11_bound 0 = .ok (.iload_n 1, 1) := by decide +kernel
theorem dX11_bound_1 : decode cX11_bound 1 = .ok (.iload_n 2, 1) := by decide +kernel
theorem dX11_bound_2 : decode cX11_bound 2 = .ok (.invokestatic 220, 3) := by decide +kernel
theorem dX11_bound_5 : decode cX11_bound 5 = .ok (.ifCond .eq 5, 3) := by decide +kernel
theorem dX11_bound_8 : decode cX11_bound 8 = .ok (.iconst (-1), 1) := by decide +kernel
theorem dX11_bound_9 : decode cX11_bound 9 = .ok (.ireturn, 1) := by decide +kernel
theorem dX11_bound_10 : decode cX11_bound 10 = .ok (.aload_n 0, 1) := by decide +kernel
theorem dX11_bound_11 : decode cX11_bound 11 = .ok (.getfield 52, 3) := by decide +kernel
theorem dX11_bound_14 : decode cX11_bound 14 = .ok (.iload_n 1, 1) := by decide +kernel
theorem dX11_bound_15 : decode cX11_bound 15 = .ok (.iload_n 2, 1) := by decide +kernel
theorem dX11_bound_16 : decode cX11_bound 16 = .ok (.invokevirtual 224, 3) := by decide +kernel
theorem dX11_bound_19 : decode cX11_bound 19 = .ok (.aload_n 0, 1) := by decide +kernel
theorem dX11_bound_20 : decode cX11_bound 20 = .ok (.getfield 52, 3) := by decide +kernel
theorem dX11_bound_23 : decode cX11_bound 23 = .ok (.invokevirtual 232, 3) := by decide +kernel
theorem dX11_bound_26 : decode cX11_bound 26 = .ok (.l2i, 1) := by decide +kernel
theorem dX11_bound_27 : decode cX11_bound 27 = .ok (.ireturn, 1) := by decide +kernel
theorem dX11_scaled_0 : decode cX11_scaled 0 = .ok (.iload_n 1, 1) := by decide +kernel
theorem dX11_scaled_1 : decode cX11_scaled 1 = .ok (.iload_n 2, 1) := by decide +kernel
theorem dX11_scaled_2 : decode cX11_scaled 2 = .ok (.invokestatic 220, 3) := by decide +kernel
theorem dX11_scaled_5 : decode cX11_scaled 5 = .ok (.ifCond .ne 14, 3) := by decide +kernel
theorem dX11_scaled_8 : decode cX11_scaled 8 = .ok (.iload_n 3, 1) := by decide +kernel
theorem dX11_scaled_9 : decode cX11_scaled 9 = .ok (.iconst 1, 1) := by decide +kernel
theorem dX11_scaled_10 : decode cX11_scaled 10 = .ok (.if_icmp .lt 9, 3) := by decide +kernel
theorem dX11_scaled_13 : decode cX11_scaled 13 = .ok (.iload_n 3, 1) := by decide +kernel
theorem dX11_scaled_14 : decode cX11_scaled 14 = .ok (.ldc 236, 2) := by decide +kernel
theorem dX11_scaled_16 : decode cX11_scaled 16 = .ok (.if_icmp .le 5, 3) := by decide +kernel
theorem dX11_scaled_19 : decode cX11_scaled 19 = .ok (.iconst (-1), 1) := by decide +kernel
theorem dX11_scaled_20 : decode cX11_scaled 20 = .ok (.ireturn, 1) := by decide +kernel
theorem dX11_scaled_21 : decode cX11_scaled 21 = .ok (.aload_n 0, 1) := by decide +kernel
theorem dX11_scaled_22 : decode cX11_scaled 22 = .ok (.getfield 52, 3) := by decide +kernel
theorem dX11_scaled_25 : decode cX11_scaled 25 = .ok (.iload_n 1, 1) := by decide +kernel
theorem dX11_scaled_26 : decode cX11_scaled 26 = .ok (.iload_n 2, 1) := by decide +kernel
theorem dX11_scaled_27 : decode cX11_scaled 27 = .ok (.invokevirtual 224, 3) := by decide +kernel
theorem dX11_scaled_30 : decode cX11_scaled 30 = .ok (.aload_n 0, 1) := by decide +kernel
theorem dX11_scaled_31 : decode cX11_scaled 31 = .ok (.getfield 52, 3) := by decide +kernel
theorem dX11_scaled_34 : decode cX11_scaled 34 = .ok (.invokevirtual 232, 3) := by decide +kernel
theorem dX11_scaled_37 : decode cX11_scaled 37 = .ok (.iload_n 3, 1) := by decide +kernel
theorem dX11_scaled_38 : decode cX11_scaled 38 = .ok (.i2l, 1) := by decide +kernel
theorem dX11_scaled_39 : decode cX11_scaled 39 = .ok (.lmul, 1) := by decide +kernel
theorem dX11_scaled_40 : decode cX11_scaled 40 = .ok (.lstore 4, 2) := by decide +kernel
theorem dX11_scaled_42 : decode cX11_scaled 42 = .ok (.lload 4, 2) := by decide +kernel
theorem dX11_scaled_44 : decode cX11_scaled 44 = .ok (.ldc2_w 237, 3) := by decide +kernel
theorem dX11_scaled_47 : decode cX11_scaled 47 = .ok (.lcmp, 1) := by decide +kernel
theorem dX11_scaled_48 : decode cX11_scaled 48 = .ok (.ifCond .le 8, 3) := by decide +kernel
theorem dX11_scaled_51 : decode cX11_scaled 51 = .ok (.bipush (-6), 2) := by decide +kernel
theorem dX11_scaled_53 : decode cX11_scaled 53 = .ok (.goto 6, 3) := by decide +kernel
theorem dX11_scaled_56 : decode cX11_scaled 56 = .ok (.lload 4, 2) := by decide +kernel
theorem dX11_scaled_58 : decode cX11_scaled 58 = .ok (.l2i, 1) := by decide +kernel
theorem dX11_scaled_59 : decode cX11_scaled 59 = .ok (.ireturn, 1) := by decide +kernel
theorem dX11_grid_0 : decode cX11_grid 0 = .ok (.iload_n 1, 1) := by decide +kernel
theorem dX11_grid_1 : decode cX11_grid 1 = .ok (.iconst 1, 1) := by decide +kernel
theorem dX11_grid_2 : decode cX11_grid 2 = .ok (.if_icmp .lt 20, 3) := by decide +kernel
theorem dX11_grid_5 : decode cX11_grid 5 = .ok (.iload_n 1, 1) := by decide +kernel
theorem dX11_grid_6 : decode cX11_grid 6 = .ok (.bipush 8, 2) := by decide +kernel
theorem dX11_grid_8 : decode cX11_grid 8 = .ok (.if_icmp .gt 14, 3) := by decide +kernel
theorem dX11_grid_11 : decode cX11_grid 11 = .ok (.iload_n 2, 1) := by decide +kernel
theorem dX11_grid_12 : decode cX11_grid 12 = .ok (.iconst 1, 1) := by decide +kernel
theorem dX11_grid_13 : decode cX11_grid 13 = .ok (.if_icmp .lt 9, 3) := by decide +kernel
theorem dX11_grid_16 : decode cX11_grid 16 = .ok (.iload_n 2, 1) := by decide +kernel
theorem dX11_grid_17 : decode cX11_grid 17 = .ok (.bipush 8, 2) := by decide +kernel
theorem dX11_grid_19 : decode cX11_grid 19 = .ok (.if_icmp .le 5, 3) := by decide +kernel
theorem dX11_grid_22 : decode cX11_grid 22 = .ok (.iconst (-1), 1) := by decide +kernel
theorem dX11_grid_23 : decode cX11_grid 23 = .ok (.ireturn, 1) := by decide +kernel
theorem dX11_grid_24 : decode cX11_grid 24 = .ok (.bipush 10, 2) := by decide +kernel
theorem dX11_grid_26 : decode cX11_grid 26 = .ok (.aload_n 0, 1) := by decide +kernel
theorem dX11_grid_27 : decode cX11_grid 27 = .ok (.getfield 21, 3) := by decide +kernel
theorem dX11_grid_30 : decode cX11_grid 30 = .ok (.invokevirtual 239, 3) := by decide +kernel
theorem dX11_grid_33 : decode cX11_grid 33 = .ok (.imul, 1) := by decide +kernel
theorem dX11_grid_34 : decode cX11_grid 34 = .ok (.aload_n 0, 1) := by decide +kernel
theorem dX11_grid_35 : decode cX11_grid 35 = .ok (.getfield 21, 3) := by decide +kernel
theorem dX11_grid_38 : decode cX11_grid 38 = .ok (.invokevirtual 242, 3) := by decide +kernel
theorem dX11_grid_41 : decode cX11_grid 41 = .ok (.iadd, 1) := by decide +kernel
theorem dX11_grid_42 : decode cX11_grid 42 = .ok (.istore_n 3, 1) := by decide +kernel
theorem dX11_grid_43 : decode cX11_grid 43 = .ok (.aload_n 0, 1) := by decide +kernel
theorem dX11_grid_44 : decode cX11_grid 44 = .ok (.getfield 21, 3) := by decide +kernel
theorem dX11_grid_47 : decode cX11_grid 47 = .ok (.iload_n 1, 1) := by decide +kernel
theorem dX11_grid_48 : decode cX11_grid 48 = .ok (.iload_n 2, 1) := by decide +kernel
theorem dX11_grid_49 : decode cX11_grid 49 = .ok (.invokevirtual 245, 3) := by decide +kernel
theorem dX11_grid_52 : decode cX11_grid 52 = .ok (.iload_n 3, 1) := by decide +kernel
theorem dX11_grid_53 : decode cX11_grid 53 = .ok (.ireturn, 1) := by decide +kernel
theorem dX11_cells_0 : decode cX11_cells 0 = .ok (.aload_n 0, 1) := by decide +kernel
theorem dX11_cells_1 : decode cX11_cells 1 = .ok (.getfield 21, 3) := by decide +kernel
theorem dX11_cells_4 : decode cX11_cells 4 = .ok (.lload_n 1, 1) := by decide +kernel
theorem dX11_cells_5 : decode cX11_cells 5 = .ok (.invokevirtual 247, 3) := by decide +kernel
theorem dX11_cells_8 : decode cX11_cells 8 = .ok (.ifCond .eq 12, 3) := by decide +kernel
theorem dX11_cells_11 : decode cX11_cells 11 = .ok (.iload_n 3, 1) := by decide +kernel
theorem dX11_cells_12 : decode cX11_cells 12 = .ok (.ifCond .lt 8, 3) := by decide +kernel
theorem dX11_cells_15 : decode cX11_cells 15 = .ok (.iload_n 3, 1) := by decide +kernel
theorem dX11_cells_16 : decode cX11_cells 16 = .ok (.iconst 1, 1) := by decide +kernel
theorem dX11_cells_17 : decode cX11_cells 17 = .ok (.if_icmp .le 7, 3) := by decide +kernel
theorem dX11_cells_20 : decode cX11_cells 20 = .ok (.iconst (-1), 1) := by decide +kernel
theorem dX11_cells_21 : decode cX11_cells 21 = .ok (.goto 12, 3) := by decide +kernel
theorem dX11_cells_24 : decode cX11_cells 24 = .ok (.aload_n 0, 1) := by decide +kernel
theorem dX11_cells_25 : decode cX11_cells 25 = .ok (.getfield 21, 3) := by decide +kernel
theorem dX11_cells_28 : decode cX11_cells 28 = .ok (.iload_n 3, 1) := by decide +kernel
theorem dX11_cells_29 : decode cX11_cells 29 = .ok (.lload_n 1, 1) := by decide +kernel
theorem dX11_cells_30 : decode cX11_cells 30 = .ok (.invokevirtual 248, 3) := by decide +kernel
theorem dX11_cells_33 : decode cX11_cells 33 = .ok (.ireturn, 1) := by decide +kernel
theorem dX11_border_0 : decode cX11_border 0 = .ok (.aload_n 0, 1) := by decide +kernel
theorem dX11_border_1 : decode cX11_border 1 = .ok (.getfield 21, 3) := by decide +kernel
theorem dX11_border_4 : decode cX11_border 4 = .ok (.lload_n 1, 1) := by decide +kernel
theorem dX11_border_5 : decode cX11_border 5 = .ok (.invokevirtual 247, 3) := by decide +kernel
theorem dX11_border_8 : decode cX11_border 8 = .ok (.ifCond .eq 14, 3) := by decide +kernel
theorem dX11_border_11 : decode cX11_border 11 = .ok (.aload_n 0, 1) := by decide +kernel
theorem dX11_border_12 : decode cX11_border 12 = .ok (.getfield 21, 3) := by decide +kernel
theorem dX11_border_15 : decode cX11_border 15 = .ok (.lload_n 1, 1) := by decide +kernel
theorem dX11_border_16 : decode cX11_border 16 = .ok (.invokevirtual 249, 3) := by decide +kernel
theorem dX11_border_19 : decode cX11_border 19 = .ok (.goto 6, 3) := by decide +kernel
theorem dX11_border_22 : decode cX11_border 22 = .ok (.ldc2_w 138, 3) := by decide +kernel
theorem dX11_border_25 : decode cX11_border 25 = .ok (.lreturn, 1) := by decide +kernel
theorem dX11_firstCells_0 : decode cX11_firstCells 0 = .ok (.iload_n 1, 1) := by decide +kernel
theorem dX11_firstCells_1 : decode cX11_firstCells 1 = .ok (.ifCond .lt 23, 3) := by decide +kernel
theorem dX11_firstCells_4 : decode cX11_firstCells 4 = .ok (.iload_n 1, 1) := by decide +kernel
theorem dX11_firstCells_5 : decode cX11_firstCells 5 = .ok (.iconst 3, 1) := by decide +kernel
theorem dX11_firstCells_6 : decode cX11_firstCells 6 = .ok (.if_icmp .ge 18, 3) := by decide +kernel
theorem dX11_firstCells_9 : decode cX11_firstCells 9 = .ok (.iload_n 2, 1) := by decide +kernel
theorem dX11_firstCells_10 : decode cX11_firstCells 10 = .ok (.ifCond .lt 14, 3) := by decide +kernel
theorem dX11_firstCells_13 : decode cX11_firstCells 13 = .ok (.iload_n 2, 1) := by decide +kernel
theorem dX11_firstCells_14 : decode cX11_firstCells 14 = .ok (.aload_n 0, 1) := by decide +kernel
theorem dX11_firstCells_15 : decode cX11_firstCells 15 = .ok (.getfield 21, 3) := by decide +kernel
theorem dX11_firstCells_18 : decode cX11_firstCells 18 = .ok (.invokevirtual 250, 3) := by decide +kernel
theorem dX11_firstCells_21 : decode cX11_firstCells 21 = .ok (.if_icmp .le 7, 3) := by decide +kernel
theorem dX11_firstCells_24 : decode cX11_firstCells 24 = .ok (.ldc2_w 138, 3) := by decide +kernel
theorem dX11_firstCells_27 : decode cX11_firstCells 27 = .ok (.lreturn, 1) := by decide +kernel
theorem dX11_firstCells_28 : decode cX11_firstCells 28 = .ok (.aload_n 0, 1) := by decide +kernel
theorem dX11_firstCells_29 : decode cX11_firstCells 29 = .ok (.getfield 21, 3) := by decide +kernel
theorem dX11_firstCells_32 : decode cX11_firstCells 32 = .ok (.iload_n 1, 1) := by decide +kernel
theorem dX11_firstCells_33 : decode cX11_firstCells 33 = .ok (.iload_n 2, 1) := by decide +kernel
theorem dX11_firstCells_34 : decode cX11_firstCells 34 = .ok (.invokevirtual 251, 3) := by decide +kernel
theorem dX11_firstCells_37 : decode cX11_firstCells 37 = .ok (.lreturn, 1) := by decide +kernel
theorem dX11_leastCells_0 : decode cX11_leastCells 0 = .ok (.aload_n 0, 1) := by decide +kernel
theorem dX11_leastCells_1 : decode cX11_leastCells 1 = .ok (.getfield 21, 3) := by decide +kernel
theorem dX11_leastCells_4 : decode cX11_leastCells 4 = .ok (.iload_n 1, 1) := by decide +kernel
theorem dX11_leastCells_5 : decode cX11_leastCells 5 = .ok (.iload_n 2, 1) := by decide +kernel
theorem dX11_leastCells_6 : decode cX11_leastCells 6 = .ok (.invokestatic 252, 3) := by decide +kernel
theorem dX11_leastCells_9 : decode cX11_leastCells 9 = .ok (.istore_n 3, 1) := by decide +kernel
theorem dX11_leastCells_10 : decode cX11_leastCells 10 = .ok (.iload_n 3, 1) := by decide +kernel
theorem dX11_leastCells_11 : decode cX11_leastCells 11 = .ok (.ifCond .eq 7, 3) := by decide +kernel
theorem dX11_leastCells_14 : decode cX11_leastCells 14 = .ok (.iload_n 3, 1) := by decide +kernel
theorem dX11_leastCells_15 : decode cX11_leastCells 15 = .ok (.goto 27, 3) := by decide +kernel
theorem dX11_leastCells_18 : decode cX11_leastCells 18 = .ok (.aload_n 0, 1) := by decide +kernel
theorem dX11_leastCells_19 : decode cX11_leastCells 19 = .ok (.getfield 21, 3) := by decide +kernel
theorem dX11_leastCells_22 : decode cX11_leastCells 22 = .ok (.iload_n 1, 1) := by decide +kernel
theorem dX11_leastCells_23 : decode cX11_leastCells 23 = .ok (.aload_n 0, 1) := by decide +kernel
theorem dX11_leastCells_24 : decode cX11_leastCells 24 = .ok (.getfield 21, 3) := by decide +kernel
theorem dX11_leastCells_27 : decode cX11_leastCells 27 = .ok (.iload_n 1, 1) := by decide +kernel
theorem dX11_leastCells_28 : decode cX11_leastCells 28 = .ok (.iload_n 2, 1) := by decide +kernel
theorem dX11_leastCells_29 : decode cX11_leastCells 29 = .ok (.aload_n 0, 1) := by decide +kernel
theorem dX11_leastCells_30 : decode cX11_leastCells 30 = .ok (.getfield 21, 3) := by decide +kernel
theorem dX11_leastCells_33 : decode cX11_leastCells 33 = .ok (.invokevirtual 256, 3) := by decide +kernel
theorem dX11_leastCells_36 : decode cX11_leastCells 36 = .ok (.invokevirtual 259, 3) := by decide +kernel
theorem dX11_leastCells_39 : decode cX11_leastCells 39 = .ok (.invokevirtual 248, 3) := by decide +kernel
theorem dX11_leastCells_42 : decode cX11_leastCells 42 = .ok (.ireturn, 1) := by decide +kernel
theorem dX11_meetsCells_0 : decode cX11_meetsCells 0 = .ok (.iload_n 1, 1) := by decide +kernel
theorem dX11_meetsCells_1 : decode cX11_meetsCells 1 = .ok (.ifCond .lt 8, 3) := by decide +kernel
theorem dX11_meetsCells_4 : decode cX11_meetsCells 4 = .ok (.iload_n 1, 1) := by decide +kernel
theorem dX11_meetsCells_5 : decode cX11_meetsCells 5 = .ok (.iconst 3, 1) := by decide +kernel
theorem dX11_meetsCells_6 : decode cX11_meetsCells 6 = .ok (.if_icmp .lt 7, 3) := by decide +kernel
theorem dX11_meetsCells_9 : decode cX11_meetsCells 9 = .ok (.iconst (-1), 1) := by decide +kernel
theorem dX11_meetsCells_10 : decode cX11_meetsCells 10 = .ok (.goto 13, 3) := by decide +kernel
theorem dX11_meetsCells_13 : decode cX11_meetsCells 13 = .ok (.aload_n 0, 1) := by decide +kernel
theorem dX11_meetsCells_14 : decode cX11_meetsCells 14 = .ok (.getfield 21, 3) := by decide +kernel
theorem dX11_meetsCells_17 : decode cX11_meetsCells 17 = .ok (.iload_n 1, 1) := by decide +kernel
theorem dX11_meetsCells_18 : decode cX11_meetsCells 18 = .ok (.iload_n 2, 1) := by decide +kernel
theorem dX11_meetsCells_19 : decode cX11_meetsCells 19 = .ok (.iload_n 3, 1) := by decide +kernel
theorem dX11_meetsCells_20 : decode cX11_meetsCells 20 = .ok (.invokestatic 216, 3) := by decide +kernel
theorem dX11_meetsCells_23 : decode cX11_meetsCells 23 = .ok (.ireturn, 1) := by decide +kernel
theorem dX11_bits_0 : decode cX11_bits 0 = .ok (.aload_n 0, 1) := by decide +kernel
theorem dX11_bits_1 : decode cX11_bits 1 = .ok (.getfield 28, 3) := by decide +kernel
theorem dX11_bits_4 : decode cX11_bits 4 = .ok (.iload_n 1, 1) := by decide +kernel
theorem dX11_bits_5 : decode cX11_bits 5 = .ok (.invokevirtual 110, 3) := by decide +kernel
theorem dX11_bits_8 : decode cX11_bits 8 = .ok (.astore_n 3, 1) := by decide +kernel
theorem dX11_bits_9 : decode cX11_bits 9 = .ok (.aload_n 3, 1) := by decide +kernel
theorem dX11_bits_10 : decode cX11_bits 10 = .ok (.ifnonnull 7, 3) := by decide +kernel
theorem dX11_bits_13 : decode cX11_bits 13 = .ok (.ldc2_w 138, 3) := by decide +kernel
theorem dX11_bits_16 : decode cX11_bits 16 = .ok (.lreturn, 1) := by decide +kernel
theorem dX11_bits_17 : decode cX11_bits 17 = .ok (.aload_n 0, 1) := by decide +kernel
theorem dX11_bits_18 : decode cX11_bits 18 = .ok (.getfield 12, 3) := by decide +kernel
theorem dX11_bits_21 : decode cX11_bits 21 = .ok (.aload_n 3, 1) := by decide +kernel
theorem dX11_bits_22 : decode cX11_bits 22 = .ok (.invokevirtual 140, 3) := by decide +kernel
theorem dX11_bits_25 : decode cX11_bits 25 = .ok (.lstore 4, 2) := by decide +kernel
theorem dX11_bits_27 : decode cX11_bits 27 = .ok (.lload 4, 2) := by decide +kernel
theorem dX11_bits_29 : decode cX11_bits 29 = .ok (.invokestatic 154, 3) := by decide +kernel
theorem dX11_bits_32 : decode cX11_bits 32 = .ok (.i2f, 1) := by decide +kernel
theorem dX11_bits_33 : decode cX11_bits 33 = .ok (.aload_n 0, 1) := by decide +kernel
theorem dX11_bits_34 : decode cX11_bits 34 = .ok (.getfield 12, 3) := by decide +kernel
theorem dX11_bits_37 : decode cX11_bits 37 = .ok (.invokevirtual 194, 3) := by decide +kernel
theorem dX11_bits_40 : decode cX11_bits 40 = .ok (.i2f, 1) := by decide +kernel
theorem dX11_bits_41 : decode cX11_bits 41 = .ok (.fdiv, 1) := by decide +kernel
theorem dX11_bits_42 : decode cX11_bits 42 = .ok (.fstore 6, 2) := by decide +kernel
theorem dX11_bits_44 : decode cX11_bits 44 = .ok (.iload_n 2, 1) := by decide +kernel
theorem dX11_bits_45 : decode cX11_bits 45 = .ok (.tableswitch 76 0 2 #[27, 33, 67], 27) := by decide +kernel
theorem dX11_bits_72 : decode cX11_bits 72 = .ok (.fload 6, 2) := by decide +kernel
theorem dX11_bits_74 : decode cX11_bits 74 = .ok (.invokestatic 260, 3) := by decide +kernel
theorem dX11_bits_77 : decode cX11_bits 77 = .ok (.lreturn, 1) := by decide +kernel
theorem dX11_bits_78 : decode cX11_bits 78 = .ok (.lload 4, 2) := by decide +kernel
theorem dX11_bits_80 : decode cX11_bits 80 = .ok (.lconst 0, 1) := by decide +kernel
theorem dX11_bits_81 : decode cX11_bits 81 = .ok (.lcmp, 1) := by decide +kernel
theorem dX11_bits_82 : decode cX11_bits 82 = .ok (.ifCond .ne 9, 3) := by decide +kernel
theorem dX11_bits_85 : decode cX11_bits 85 = .ok (.ldc2_w 138, 3) := by decide +kernel
theorem dX11_bits_88 : decode cX11_bits 88 = .ok (.goto 23, 3) := by decide +kernel
theorem dX11_bits_91 : decode cX11_bits 91 = .ok (.aload_n 0, 1) := by decide +kernel
theorem dX11_bits_92 : decode cX11_bits 92 = .ok (.getfield 12, 3) := by decide +kernel
theorem dX11_bits_95 : decode cX11_bits 95 = .ok (.lload 4, 2) := by decide +kernel
theorem dX11_bits_97 : decode cX11_bits 97 = .ok (.invokevirtual 264, 3) := by decide +kernel
theorem dX11_bits_100 : decode cX11_bits 100 = .ok (.i2f, 1) := by decide +kernel
theorem dX11_bits_101 : decode cX11_bits 101 = .ok (.lload 4, 2) := by decide +kernel
theorem dX11_bits_103 : decode cX11_bits 103 = .ok (.invokestatic 154, 3) := by decide +kernel
theorem dX11_bits_106 : decode cX11_bits 106 = .ok (.i2f, 1) := by decide +kernel
theorem dX11_bits_107 : decode cX11_bits 107 = .ok (.fdiv, 1) := by decide +kernel
theorem dX11_bits_108 : decode cX11_bits 108 = .ok (.invokestatic 260, 3) := by decide +kernel
theorem dX11_bits_111 : decode cX11_bits 111 = .ok (.lreturn, 1) := by decide +kernel
theorem dX11_bits_112 : decode cX11_bits 112 = .ok (.fload 6, 2) := by decide +kernel
theorem dX11_bits_114 : decode cX11_bits 114 = .ok (.ldc_w 267, 3) := by decide +kernel
theorem dX11_bits_117 : decode cX11_bits 117 = .ok (.fmul, 1) := by decide +kernel
theorem dX11_bits_118 : decode cX11_bits 118 = .ok (.f2i, 1) := by decide +kernel
theorem dX11_bits_119 : decode cX11_bits 119 = .ok (.i2l, 1) := by decide +kernel
theorem dX11_bits_120 : decode cX11_bits 120 = .ok (.lreturn, 1) := by decide +kernel
theorem dX11_bits_121 : decode cX11_bits 121 = .ok (.ldc2_w 138, 3) := by decide +kernel
theorem dX11_bits_124 : decode cX11_bits 124 = .ok (.lreturn, 1) := by decide +kernel
theorem dX11_weight_0 : decode cX11_weight 0 = .ok (.aload_n 0, 1) := by decide +kernel
theorem dX11_weight_1 : decode cX11_weight 1 = .ok (.getfield 28, 3) := by decide +kernel
theorem dX11_weight_4 : decode cX11_weight 4 = .ok (.iload_n 1, 1) := by decide +kernel
theorem dX11_weight_5 : decode cX11_weight 5 = .ok (.invokevirtual 110, 3) := by decide +kernel
theorem dX11_weight_8 : decode cX11_weight 8 = .ok (.astore_n 2, 1) := by decide +kernel
theorem dX11_weight_9 : decode cX11_weight 9 = .ok (.aload_n 2, 1) := by decide +kernel
theorem dX11_weight_10 : decode cX11_weight 10 = .ok (.ifnonnull 9, 3) := by decide +kernel
theorem dX11_weight_13 : decode cX11_weight 13 = .ok (.ldc2_w 138, 3) := by decide +kernel
theorem dX11_weight_16 : decode cX11_weight 16 = .ok (.goto 21, 3) := by decide +kernel
theorem dX11_weight_19 : decode cX11_weight 19 = .ok (.aload_n 0, 1) := by decide +kernel
theorem dX11_weight_20 : decode cX11_weight 20 = .ok (.getfield 12, 3) := by decide +kernel
theorem dX11_weight_23 : decode cX11_weight 23 = .ok (.aload_n 0, 1) := by decide +kernel
theorem dX11_weight_24 : decode cX11_weight 24 = .ok (.getfield 12, 3) := by decide +kernel
theorem dX11_weight_27 : decode cX11_weight 27 = .ok (.aload_n 2, 1) := by decide +kernel
theorem dX11_weight_28 : decode cX11_weight 28 = .ok (.invokevirtual 140, 3) := by decide +kernel
theorem dX11_weight_31 : decode cX11_weight 31 = .ok (.invokevirtual 268, 3) := by decide +kernel
theorem dX11_weight_34 : decode cX11_weight 34 = .ok (.invokestatic 272, 3) := by decide +kernel
theorem dX11_weight_37 : decode cX11_weight 37 = .ok (.lreturn, 1) := by decide +kernel
theorem dX11_judge_0 : decode cX11_judge 0 = .ok (.aload_n 0, 1) := by decide +kernel
theorem dX11_judge_1 : decode cX11_judge 1 = .ok (.iload_n 1, 1) := by decide +kernel
theorem dX11_judge_2 : decode cX11_judge 2 = .ok (.invokevirtual 276, 3) := by decide +kernel
theorem dX11_judge_5 : decode cX11_judge 5 = .ok (.astore_n 3, 1) := by decide +kernel
theorem dX11_judge_6 : decode cX11_judge 6 = .ok (.aload_n 0, 1) := by decide +kernel
theorem dX11_judge_7 : decode cX11_judge 7 = .ok (.getfield 28, 3) := by decide +kernel
theorem dX11_judge_10 : decode cX11_judge 10 = .ok (.iload_n 2, 1) := by decide +kernel
theorem dX11_judge_11 : decode cX11_judge 11 = .ok (.invokevirtual 110, 3) := by decide +kernel
theorem dX11_judge_14 : decode cX11_judge 14 = .ok (.astore 4, 2) := by decide +kernel
theorem dX11_judge_16 : decode cX11_judge 16 = .ok (.aload_n 3, 1) := by decide +kernel
theorem dX11_judge_17 : decode cX11_judge 17 = .ok (.ifnull 8, 3) := by decide +kernel
theorem dX11_judge_20 : decode cX11_judge 20 = .ok (.aload 4, 2) := by decide +kernel
theorem dX11_judge_22 : decode cX11_judge 22 = .ok (.ifnonnull 5, 3) := by decide +kernel
theorem dX11_judge_25 : decode cX11_judge 25 = .ok (.iconst (-1), 1) := by decide +kernel
theorem dX11_judge_26 : decode cX11_judge 26 = .ok (.ireturn, 1) := by decide +kernel
theorem dX11_judge_27 : decode cX11_judge 27 = .ok (.aload_n 3, 1) := by decide +kernel
theorem dX11_judge_28 : decode cX11_judge 28 = .ok (.invokevirtual 280, 3) := by decide +kernel
theorem dX11_judge_31 : decode cX11_judge 31 = .ok (.ifCond .eq 6, 3) := by decide +kernel
theorem dX11_judge_34 : decode cX11_judge 34 = .ok (.bipush (-11), 2) := by decide +kernel
theorem dX11_judge_36 : decode cX11_judge 36 = .ok (.ireturn, 1) := by decide +kernel
theorem dX11_judge_37 : decode cX11_judge 37 = .ok (.aload_n 0, 1) := by decide +kernel
theorem dX11_judge_38 : decode cX11_judge 38 = .ok (.getfield 12, 3) := by decide +kernel
theorem dX11_judge_41 : decode cX11_judge 41 = .ok (.aload 4, 2) := by decide +kernel
theorem dX11_judge_43 : decode cX11_judge 43 = .ok (.invokevirtual 140, 3) := by decide +kernel
theorem dX11_judge_46 : decode cX11_judge 46 = .ok (.lstore 5, 2) := by decide +kernel
theorem dX11_judge_48 : decode cX11_judge 48 = .ok (.iconst 0, 1) := by decide +kernel
theorem dX11_judge_49 : decode cX11_judge 49 = .ok (.istore 7, 2) := by decide +kernel
theorem dX11_judge_51 : decode cX11_judge 51 = .ok (.iload 7, 2) := by decide +kernel
theorem dX11_judge_53 : decode cX11_judge 53 = .ok (.aload_n 0, 1) := by decide +kernel
theorem dX11_judge_54 : decode cX11_judge 54 = .ok (.getfield 12, 3) := by decide +kernel
theorem dX11_judge_57 : decode cX11_judge 57 = .ok (.invokevirtual 82, 3) := by decide +kernel
theorem dX11_judge_60 : decode cX11_judge 60 = .ok (.if_icmp .gt 49, 3) := by decide +kernel
theorem dX11_judge_63 : decode cX11_judge 63 = .ok (.aload_n 3, 1) := by decide +kernel
theorem dX11_judge_64 : decode cX11_judge 64 = .ok (.iload 7, 2) := by decide +kernel
theorem dX11_judge_66 : decode cX11_judge 66 = .ok (.invokevirtual 283, 3) := by decide +kernel
theorem dX11_judge_69 : decode cX11_judge 69 = .ok (.ifCond .ne 9, 3) := by decide +kernel
theorem dX11_judge_72 : decode cX11_judge 72 = .ok (.bipush 100, 2) := by decide +kernel
theorem dX11_judge_74 : decode cX11_judge 74 = .ok (.iload 7, 2) := by decide +kernel
theorem dX11_judge_76 : decode cX11_judge 76 = .ok (.iadd, 1) := by decide +kernel
theorem dX11_judge_77 : decode cX11_judge 77 = .ok (.ireturn, 1) := by decide +kernel
theorem dX11_judge_78 : decode cX11_judge 78 = .ok (.aload_n 3, 1) := by decide +kernel
theorem dX11_judge_79 : decode cX11_judge 79 = .ok (.iload 7, 2) := by decide +kernel
theorem dX11_judge_81 : decode cX11_judge 81 = .ok (.invokevirtual 287, 3) := by decide +kernel
theorem dX11_judge_84 : decode cX11_judge 84 = .ok (.aload_n 0, 1) := by decide +kernel
theorem dX11_judge_85 : decode cX11_judge 85 = .ok (.getfield 12, 3) := by decide +kernel
theorem dX11_judge_88 : decode cX11_judge 88 = .ok (.lload 5, 2) := by decide +kernel
theorem dX11_judge_90 : decode cX11_judge 90 = .ok (.iload 7, 2) := by decide +kernel
theorem dX11_judge_92 : decode cX11_judge 92 = .ok (.invokevirtual 176, 3) := by decide +kernel
theorem dX11_judge_95 : decode cX11_judge 95 = .ok (.i2l, 1) := by decide +kernel
theorem dX11_judge_96 : decode cX11_judge 96 = .ok (.lcmp, 1) := by decide +kernel
theorem dX11_judge_97 : decode cX11_judge 97 = .ok (.ifCond .eq 6, 3) := by decide +kernel
theorem dX11_judge_100 : decode cX11_judge 100 = .ok (.iload 7, 2) := by decide +kernel
theorem dX11_judge_102 : decode cX11_judge 102 = .ok (.ireturn, 1) := by decide +kernel
theorem dX11_judge_103 : decode cX11_judge 103 = .ok (.iinc 7 1, 3) := by decide +kernel
theorem dX11_judge_106 : decode cX11_judge 106 = .ok (.goto (-55), 3) := by decide +kernel
theorem dX11_judge_109 : decode cX11_judge 109 = .ok (.bipush (-2), 2) := by decide +kernel
theorem dX11_judge_111 : decode cX11_judge 111 = .ok (.ireturn, 1) := by decide +kernel
theorem dX11_lots_0 : decode cX11_lots 0 = .ok (.iload_n 1, 1) := by decide +kernel
theorem dX11_lots_1 : decode cX11_lots 1 = .ok (.iconst 1, 1) := by decide +kernel
theorem dX11_lots_2 : decode cX11_lots 2 = .ok (.if_icmp .lt 30, 3) := by decide +kernel
theorem dX11_lots_5 : decode cX11_lots 5 = .ok (.iload_n 1, 1) := by decide +kernel
theorem dX11_lots_6 : decode cX11_lots 6 = .ok (.bipush 20, 2) := by decide +kernel
theorem dX11_lots_8 : decode cX11_lots 8 = .ok (.if_icmp .gt 24, 3) := by decide +kernel
theorem dX11_lots_11 : decode cX11_lots 11 = .ok (.iload_n 2, 1) := by decide +kernel
theorem dX11_lots_12 : decode cX11_lots 12 = .ok (.ifCond .lt 20, 3) := by decide +kernel
theorem dX11_lots_15 : decode cX11_lots 15 = .ok (.iload_n 2, 1) := by decide +kernel
theorem dX11_lots_16 : decode cX11_lots 16 = .ok (.bipush 100, 2) := by decide +kernel
theorem dX11_lots_18 : decode cX11_lots 18 = .ok (.if_icmp .gt 14, 3) := by decide +kernel
theorem dX11_lots_21 : decode cX11_lots 21 = .ok (.iload 4, 2) := by decide +kernel
theorem dX11_lots_23 : decode cX11_lots 23 = .ok (.ifCond .lt 9, 3) := by decide +kernel
theorem dX11_lots_26 : decode cX11_lots 26 = .ok (.iload 4, 2) := by decide +kernel
theorem dX11_lots_28 : decode cX11_lots 28 = .ok (.iconst 1, 1) := by decide +kernel
theorem dX11_lots_29 : decode cX11_lots 29 = .ok (.if_icmp .le 5, 3) := by decide +kernel
theorem dX11_lots_32 : decode cX11_lots 32 = .ok (.iconst (-1), 1) := by decide +kernel
theorem dX11_lots_33 : decode cX11_lots 33 = .ok (.ireturn, 1) := by decide +kernel
theorem dX11_lots_34 : decode cX11_lots 34 = .ok (.iload_n 3, 1) := by decide +kernel
theorem dX11_lots_35 : decode cX11_lots 35 = .ok (.istore 5, 2) := by decide +kernel
theorem dX11_lots_37 : decode cX11_lots 37 = .ok (.iconst 0, 1) := by decide +kernel
theorem dX11_lots_38 : decode cX11_lots 38 = .ok (.istore 6, 2) := by decide +kernel
theorem dX11_lots_40 : decode cX11_lots 40 = .ok (.iconst 0, 1) := by decide +kernel
theorem dX11_lots_41 : decode cX11_lots 41 = .ok (.istore 7, 2) := by decide +kernel
theorem dX11_lots_43 : decode cX11_lots 43 = .ok (.iload 7, 2) := by decide +kernel
theorem dX11_lots_45 : decode cX11_lots 45 = .ok (.iload_n 1, 1) := by decide +kernel
theorem dX11_lots_46 : decode cX11_lots 46 = .ok (.if_icmp .ge 87, 3) := by decide +kernel
theorem dX11_lots_49 : decode cX11_lots 49 = .ok (.lconst 0, 1) := by decide +kernel
theorem dX11_lots_50 : decode cX11_lots 50 = .ok (.lstore 8, 2) := by decide +kernel
theorem dX11_lots_52 : decode cX11_lots 52 = .ok (.iconst 0, 1) := by decide +kernel
theorem dX11_lots_53 : decode cX11_lots 53 = .ok (.istore 10, 2) := by decide +kernel
theorem dX11_lots_55 : decode cX11_lots 55 = .ok (.iload 10, 2) := by decide +kernel
theorem dX11_lots_57 : decode cX11_lots 57 = .ok (.aload_n 0, 1) := by decide +kernel
theorem dX11_lots_58 : decode cX11_lots 58 = .ok (.getfield 12, 3) := by decide +kernel
theorem dX11_lots_61 : decode cX11_lots 61 = .ok (.invokevirtual 194, 3) := by decide +kernel
theorem dX11_lots_64 : decode cX11_lots 64 = .ok (.if_icmp .ge 47, 3) := by decide +kernel
theorem dX11_lots_67 : decode cX11_lots 67 = .ok (.iload 5, 2) := by decide +kernel
theorem dX11_lots_69 : decode cX11_lots 69 = .ok (.ldc_w 290, 3) := by decide +kernel
theorem dX11_lots_72 : decode cX11_lots 72 = .ok (.imul, 1) := by decide +kernel
theorem dX11_lots_73 : decode cX11_lots 73 = .ok (.sipush 12345, 3) := by decide +kernel
theorem dX11_lots_76 : decode cX11_lots 76 = .ok (.iadd, 1) := by decide +kernel
theorem dX11_lots_77 : decode cX11_lots 77 = .ok (.istore 5, 2) := by decide +kernel
theorem dX11_lots_79 : decode cX11_lots 79 = .ok (.iload 5, 2) := by decide +kernel
theorem dX11_lots_81 : decode cX11_lots 81 = .ok (.ldc_w 291, 3) := by decide +kernel
theorem dX11_lots_84 : decode cX11_lots 84 = .ok (.iand, 1) := by decide +kernel
theorem dX11_lots_85 : decode cX11_lots 85 = .ok (.ldc_w 292, 3) := by decide +kernel
theorem dX11_lots_88 : decode cX11_lots 88 = .ok (.idiv, 1) := by decide +kernel
theorem dX11_lots_89 : decode cX11_lots 89 = .ok (.bipush 100, 2) := by decide +kernel
theorem dX11_lots_91 : decode cX11_lots 91 = .ok (.irem, 1) := by decide +kernel
theorem dX11_lots_92 : decode cX11_lots 92 = .ok (.iload_n 2, 1) := by decide +kernel
theorem dX11_lots_93 : decode cX11_lots 93 = .ok (.if_icmp .ge 12, 3) := by decide +kernel
theorem dX11_lots_96 : decode cX11_lots 96 = .ok (.lload 8, 2) := by decide +kernel
theorem dX11_lots_98 : decode cX11_lots 98 = .ok (.lconst 1, 1) := by decide +kernel
theorem dX11_lots_99 : decode cX11_lots 99 = .ok (.iload 10, 2) := by decide +kernel
theorem dX11_lots_101 : decode cX11_lots 101 = .ok (.lshl, 1) := by decide +kernel
theorem dX11_lots_102 : decode cX11_lots 102 = .ok (.lor, 1) := by decide +kernel
theorem dX11_lots_103 : decode cX11_lots 103 = .ok (.lstore 8, 2) := by decide +kernel
theorem dX11_lots_105 : decode cX11_lots 105 = .ok (.iinc 10 1, 3) := by decide +kernel
theorem dX11_lots_108 : decode cX11_lots 108 = .ok (.goto (-53), 3) := by decide +kernel
theorem dX11_lots_111 : decode cX11_lots 111 = .ok (.iload 6, 2) := by decide +kernel
theorem dX11_lots_113 : decode cX11_lots 113 = .ok (.aload_n 0, 1) := by decide +kernel
theorem dX11_lots_114 : decode cX11_lots 114 = .ok (.getfield 12, 3) := by decide +kernel
theorem dX11_lots_117 : decode cX11_lots 117 = .ok (.iload 4, 2) := by decide +kernel
theorem dX11_lots_119 : decode cX11_lots 119 = .ok (.lload 8, 2) := by decide +kernel
theorem dX11_lots_121 : decode cX11_lots 121 = .ok (.invokevirtual 212, 3) := by decide +kernel
theorem dX11_lots_124 : decode cX11_lots 124 = .ok (.iadd, 1) := by decide +kernel
theorem dX11_lots_125 : decode cX11_lots 125 = .ok (.istore 6, 2) := by decide +kernel
theorem dX11_lots_127 : decode cX11_lots 127 = .ok (.iinc 7 1, 3) := by decide +kernel
theorem dX11_lots_130 : decode cX11_lots 130 = .ok (.goto (-87), 3) := by decide +kernel
theorem dX11_lots_133 : decode cX11_lots 133 = .ok (.iload 6, 2) := by decide +kernel
theorem dX11_lots_135 : decode cX11_lots 135 = .ok (.ireturn, 1) := by decide +kernel
theorem dX11_feed_0 : decode cX11_feed 0 = .ok (.iload_n 1, 1) := by decide +kernel
theorem dX11_feed_1 : decode cX11_feed 1 = .ok (.bipush 32, 2) := by decide +kernel
theorem dX11_feed_3 : decode cX11_feed 3 = .ok (.if_icmp .lt 9, 3) := by decide +kernel
theorem dX11_feed_6 : decode cX11_feed 6 = .ok (.iload_n 1, 1) := by decide +kernel
theorem dX11_feed_7 : decode cX11_feed 7 = .ok (.bipush 126, 2) := by decide +kernel
theorem dX11_feed_9 : decode cX11_feed 9 = .ok (.if_icmp .le 5, 3) := by decide +kernel
theorem dX11_feed_12 : decode cX11_feed 12 = .ok (.iconst (-1), 1) := by decide +kernel
theorem dX11_feed_13 : decode cX11_feed 13 = .ok (.ireturn, 1) := by decide +kernel
theorem dX11_feed_14 : decode cX11_feed 14 = .ok (.aload_n 0, 1) := by decide +kernel
theorem dX11_feed_15 : decode cX11_feed 15 = .ok (.getfield 61, 3) := by decide +kernel
theorem dX11_feed_18 : decode cX11_feed 18 = .ok (.iload_n 1, 1) := by decide +kernel
theorem dX11_feed_19 : decode cX11_feed 19 = .ok (.invokevirtual 293, 3) := by decide +kernel
theorem dX11_feed_22 : decode cX11_feed 22 = .ok (.ifCond .eq 13, 3) := by decide +kernel
theorem dX11_feed_25 : decode cX11_feed 25 = .ok (.aload_n 0, 1) := by decide +kernel
theorem dX11_feed_26 : decode cX11_feed 26 = .ok (.getfield 61, 3) := by decide +kernel
theorem dX11_feed_29 : decode cX11_feed 29 = .ok (.invokevirtual 296, 3) := by decide +kernel
theorem dX11_feed_32 : decode cX11_feed 32 = .ok (.goto 5, 3) := by decide +kernel
theorem dX11_feed_35 : decode cX11_feed 35 = .ok (.bipush (-3), 2) := by decide +kernel
theorem dX11_feed_37 : decode cX11_feed 37 = .ok (.ireturn, 1) := by decide +kernel
theorem dX11_wipe_0 : decode cX11_wipe 0 = .ok (.aload_n 0, 1) := by decide +kernel
theorem dX11_wipe_1 : decode cX11_wipe 1 = .ok (.getfield 61, 3) := by decide +kernel
theorem dX11_wipe_4 : decode cX11_wipe 4 = .ok (.invokevirtual 296, 3) := by decide +kernel
theorem dX11_wipe_7 : decode cX11_wipe 7 = .ok (.istore_n 1, 1) := by decide +kernel
theorem dX11_wipe_8 : decode cX11_wipe 8 = .ok (.aload_n 0, 1) := by decide +kernel
theorem dX11_wipe_9 : decode cX11_wipe 9 = .ok (.getfield 61, 3) := by decide +kernel
theorem dX11_wipe_12 : decode cX11_wipe 12 = .ok (.invokevirtual 299, 3) := by decide +kernel
theorem dX11_wipe_15 : decode cX11_wipe 15 = .ok (.iload_n 1, 1) := by decide +kernel
theorem dX11_wipe_16 : decode cX11_wipe 16 = .ok (.ireturn, 1) := by decide +kernel
theorem dX11_read_0 : decode cX11_read 0 = .ok (.aload_n 0, 1) := by decide +kernel
theorem dX11_read_1 : decode cX11_read 1 = .ok (.invokevirtual 300, 3) := by decide +kernel
theorem dX11_read_4 : decode cX11_read 4 = .ok (.istore_n 1, 1) := by decide +kernel
theorem dX11_read_5 : decode cX11_read 5 = .ok (.iload_n 1, 1) := by decide +kernel
theorem dX11_read_6 : decode cX11_read 6 = .ok (.ifCond .ge 10, 3) := by decide +kernel
theorem dX11_read_9 : decode cX11_read 9 = .ok (.aload_n 0, 1) := by decide +kernel
theorem dX11_read_10 : decode cX11_read 10 = .ok (.invokevirtual 303, 3) := by decide +kernel
theorem dX11_read_13 : decode cX11_read 13 = .ok (.goto 4, 3) := by decide +kernel
theorem dX11_read_16 : decode cX11_read 16 = .ok (.lconst 0, 1) := by decide +kernel
theorem dX11_read_17 : decode cX11_read 17 = .ok (.lstore_n 2, 1) := by decide +kernel
theorem dX11_read_18 : decode cX11_read 18 = .ok (.aload_n 0, 1) := by decide +kernel
theorem dX11_read_19 : decode cX11_read 19 = .ok (.getfield 61, 3) := by decide +kernel
theorem dX11_read_22 : decode cX11_read 22 = .ok (.invokevirtual 299, 3) := by decide +kernel
theorem dX11_read_25 : decode cX11_read 25 = .ok (.iload_n 1, 1) := by decide +kernel
theorem dX11_read_26 : decode cX11_read 26 = .ok (.ifCond .ge 11, 3) := by decide +kernel
theorem dX11_read_29 : decode cX11_read 29 = .ok (.aload_n 0, 1) := by decide +kernel
theorem dX11_read_30 : decode cX11_read 30 = .ok (.lload_n 2, 1) := by decide +kernel
theorem dX11_read_31 : decode cX11_read 31 = .ok (.invokevirtual 99, 3) := by decide +kernel
theorem dX11_read_34 : decode cX11_read 34 = .ok (.goto 7, 3) := by decide +kernel
theorem dX11_read_37 : decode cX11_read 37 = .ok (.bipush (-100), 2) := by decide +kernel
theorem dX11_read_39 : decode cX11_read 39 = .ok (.iload_n 1, 1) := by decide +kernel
theorem dX11_read_40 : decode cX11_read 40 = .ok (.isub, 1) := by decide +kernel
theorem dX11_read_41 : decode cX11_read 41 = .ok (.ireturn, 1) := by decide +kernel
theorem dX11_write_0 : decode cX11_write 0 = .ok (.aload_n 0, 1) := by decide +kernel
theorem dX11_write_1 : decode cX11_write 1 = .ok (.getfield 28, 3) := by decide +kernel
theorem dX11_write_4 : decode cX11_write 4 = .ok (.iload_n 1, 1) := by decide +kernel
theorem dX11_write_5 : decode cX11_write 5 = .ok (.invokevirtual 110, 3) := by decide +kernel
theorem dX11_write_8 : decode cX11_write 8 = .ok (.astore_n 2, 1) := by decide +kernel
theorem dX11_write_9 : decode cX11_write 9 = .ok (.aload_n 2, 1) := by decide +kernel
theorem dX11_write_10 : decode cX11_write 10 = .ok (.ifnonnull 5, 3) := by decide +kernel
theorem dX11_write_13 : decode cX11_write 13 = .ok (.iconst (-1), 1) := by decide +kernel
theorem dX11_write_14 : decode cX11_write 14 = .ok (.ireturn, 1) := by decide +kernel
theorem dX11_write_15 : decode cX11_write 15 = .ok (.aload_n 0, 1) := by decide +kernel
theorem dX11_write_16 : decode cX11_write 16 = .ok (.getfield 12, 3) := by decide +kernel
theorem dX11_write_19 : decode cX11_write 19 = .ok (.aload_n 2, 1) := by decide +kernel
theorem dX11_write_20 : decode cX11_write 20 = .ok (.invokevirtual 140, 3) := by decide +kernel
theorem dX11_write_23 : decode cX11_write 23 = .ok (.lstore_n 3, 1) := by decide +kernel
theorem dX11_write_24 : decode cX11_write 24 = .ok (.aload_n 0, 1) := by decide +kernel
theorem dX11_write_25 : decode cX11_write 25 = .ok (.getfield 65, 3) := by decide +kernel
theorem dX11_write_28 : decode cX11_write 28 = .ok (.invokevirtual 299, 3) := by decide +kernel
theorem dX11_write_31 : decode cX11_write 31 = .ok (.iconst 0, 1) := by decide +kernel
theorem dX11_write_32 : decode cX11_write 32 = .ok (.istore 5, 2) := by decide +kernel
theorem dX11_write_34 : decode cX11_write 34 = .ok (.iload 5, 2) := by decide +kernel
theorem dX11_write_36 : decode cX11_write 36 = .ok (.aload_n 0, 1) := by decide +kernel
theorem dX11_write_37 : decode cX11_write 37 = .ok (.getfield 12, 3) := by decide +kernel
theorem dX11_write_40 : decode cX11_write 40 = .ok (.invokevirtual 194, 3) := by decide +kernel
theorem dX11_write_43 : decode cX11_write 43 = .ok (.if_icmp .ge 26, 3) := by decide +kernel
theorem dX11_write_46 : decode cX11_write 46 = .ok (.lload_n 3, 1) := by decide +kernel
theorem dX11_write_47 : decode cX11_write 47 = .ok (.iload 5, 2) := by decide +kernel
theorem dX11_write_49 : decode cX11_write 49 = .ok (.lushr, 1) := by decide +kernel
theorem dX11_write_50 : decode cX11_write 50 = .ok (.lconst 1, 1) := by decide +kernel
theorem dX11_write_51 : decode cX11_write 51 = .ok (.land, 1) := by decide +kernel
theorem dX11_write_52 : decode cX11_write 52 = .ok (.lconst 0, 1) := by decide +kernel
theorem dX11_write_53 : decode cX11_write 53 = .ok (.lcmp, 1) := by decide +kernel
theorem dX11_write_54 : decode cX11_write 54 = .ok (.ifCond .eq 9, 3) := by decide +kernel
theorem dX11_write_57 : decode cX11_write 57 = .ok (.aload_n 0, 1) := by decide +kernel
theorem dX11_write_58 : decode cX11_write 58 = .ok (.iload 5, 2) := by decide +kernel
theorem dX11_write_60 : decode cX11_write 60 = .ok (.invokevirtual 306, 3) := by decide +kernel
theorem dX11_write_63 : decode cX11_write 63 = .ok (.iinc 5 1, 3) := by decide +kernel
theorem dX11_write_66 : decode cX11_write 66 = .ok (.goto (-32), 3) := by decide +kernel
theorem dX11_write_69 : decode cX11_write 69 = .ok (.aload_n 0, 1) := by decide +kernel
theorem dX11_write_70 : decode cX11_write 70 = .ok (.getfield 65, 3) := by decide +kernel
theorem dX11_write_73 : decode cX11_write 73 = .ok (.invokevirtual 296, 3) := by decide +kernel
theorem dX11_write_76 : decode cX11_write 76 = .ok (.ireturn, 1) := by decide +kernel
theorem dX11_paper_0 : decode cX11_paper 0 = .ok (.aload_n 0, 1) := by decide +kernel
theorem dX11_paper_1 : decode cX11_paper 1 = .ok (.getfield 65, 3) := by decide +kernel
theorem dX11_paper_4 : decode cX11_paper 4 = .ok (.iload_n 1, 1) := by decide +kernel
theorem dX11_paper_5 : decode cX11_paper 5 = .ok (.invokevirtual 309, 3) := by decide +kernel
theorem dX11_paper_8 : decode cX11_paper 8 = .ok (.ireturn, 1) := by decide +kernel
theorem dX11_shelf_0 : decode cX11_shelf 0 = .ok (.aload_n 0, 1) := by decide +kernel
theorem dX11_shelf_1 : decode cX11_shelf 1 = .ok (.iload_n 1, 1) := by decide +kernel
theorem dX11_shelf_2 : decode cX11_shelf 2 = .ok (.invokevirtual 310, 3) := by decide +kernel
theorem dX11_shelf_5 : decode cX11_shelf 5 = .ok (.astore 4, 2) := by decide +kernel
theorem dX11_shelf_7 : decode cX11_shelf 7 = .ok (.aload 4, 2) := by decide +kernel
theorem dX11_shelf_9 : decode cX11_shelf 9 = .ok (.ifnull 13, 3) := by decide +kernel
theorem dX11_shelf_12 : decode cX11_shelf 12 = .ok (.iload_n 2, 1) := by decide +kernel
theorem dX11_shelf_13 : decode cX11_shelf 13 = .ok (.iconst (-1), 1) := by decide +kernel
theorem dX11_shelf_14 : decode cX11_shelf 14 = .ok (.if_icmp .lt 8, 3) := by decide +kernel
theorem dX11_shelf_17 : decode cX11_shelf 17 = .ok (.iload_n 2, 1) := by decide +kernel
theorem dX11_shelf_18 : decode cX11_shelf 18 = .ok (.iconst 3, 1) := by decide +kernel
theorem dX11_shelf_19 : decode cX11_shelf 19 = .ok (.if_icmp .lt 5, 3) := by decide +kernel
theorem dX11_shelf_22 : decode cX11_shelf 22 = .ok (.iconst (-1), 1) := by decide +kernel
theorem dX11_shelf_23 : decode cX11_shelf 23 = .ok (.ireturn, 1) := by decide +kernel
theorem dX11_shelf_24 : decode cX11_shelf 24 = .ok (.iload_n 2, 1) := by decide +kernel
theorem dX11_shelf_25 : decode cX11_shelf 25 = .ok (.iconst (-1), 1) := by decide +kernel
theorem dX11_shelf_26 : decode cX11_shelf 26 = .ok (.if_icmp .ne 10, 3) := by decide +kernel
theorem dX11_shelf_29 : decode cX11_shelf 29 = .ok (.aload 4, 2) := by decide +kernel
theorem dX11_shelf_31 : decode cX11_shelf 31 = .ok (.invokevirtual 314, 3) := by decide +kernel
theorem dX11_shelf_34 : decode cX11_shelf 34 = .ok (.iconst 1, 1) := by decide +kernel
theorem dX11_shelf_35 : decode cX11_shelf 35 = .ok (.ireturn, 1) := by decide +kernel
theorem dX11_shelf_36 : decode cX11_shelf 36 = .ok (.iload_n 3, 1) := by decide +kernel
theorem dX11_shelf_37 : decode cX11_shelf 37 = .ok (.bipush 6, 2) := by decide +kernel
theorem dX11_shelf_39 : decode cX11_shelf 39 = .ok (.if_icmp .le 5, 3) := by decide +kernel
theorem dX11_shelf_42 : decode cX11_shelf 42 = .ok (.iconst (-1), 1) := by decide +kernel
theorem dX11_shelf_43 : decode cX11_shelf 43 = .ok (.ireturn, 1) := by decide +kernel
theorem dX11_shelf_44 : decode cX11_shelf 44 = .ok (.iload_n 3, 1) := by decide +kernel
theorem dX11_shelf_45 : decode cX11_shelf 45 = .ok (.ifCond .ge 6, 3) := by decide +kernel
theorem dX11_shelf_48 : decode cX11_shelf 48 = .ok (.bipush (-14), 2) := by decide +kernel
theorem dX11_shelf_50 : decode cX11_shelf 50 = .ok (.ireturn, 1) := by decide +kernel
theorem dX11_shelf_51 : decode cX11_shelf 51 = .ok (.aload 4, 2) := by decide +kernel
theorem dX11_shelf_53 : decode cX11_shelf 53 = .ok (.iload_n 2, 1) := by decide +kernel
theorem dX11_shelf_54 : decode cX11_shelf 54 = .ok (.iload_n 3, 1) := by decide +kernel
theorem dX11_shelf_55 : decode cX11_shelf 55 = .ok (.invokevirtual 317, 3) := by decide +kernel
theorem dX11_shelf_58 : decode cX11_shelf 58 = .ok (.iconst 1, 1) := by decide +kernel
theorem dX11_shelf_59 : decode cX11_shelf 59 = .ok (.ireturn, 1) := by decide +kernel
theorem dX11_keep_0 : decode cX11_keep 0 = .ok (.aload_n 0, 1) := by decide +kernel
theorem dX11_keep_1 : decode cX11_keep 1 = .ok (.iload_n 1, 1) := by decide +kernel
theorem dX11_keep_2 : decode cX11_keep 2 = .ok (.invokevirtual 310, 3) := by decide +kernel
theorem dX11_keep_5 : decode cX11_keep 5 = .ok (.astore 4, 2) := by decide +kernel
theorem dX11_keep_7 : decode cX11_keep 7 = .ok (.aload_n 0, 1) := by decide +kernel
theorem dX11_keep_8 : decode cX11_keep 8 = .ok (.getfield 28, 3) := by decide +kernel
theorem dX11_keep_11 : decode cX11_keep 11 = .ok (.iload_n 3, 1) := by decide +kernel
theorem dX11_keep_12 : decode cX11_keep 12 = .ok (.invokevirtual 110, 3) := by decide +kernel
theorem dX11_keep_15 : decode cX11_keep 15 = .ok (.astore 5, 2) := by decide +kernel
theorem dX11_keep_17 : decode cX11_keep 17 = .ok (.aload 4, 2) := by decide +kernel
theorem dX11_keep_19 : decode cX11_keep 19 = .ok (.ifnull 8, 3) := by decide +kernel
theorem dX11_keep_22 : decode cX11_keep 22 = .ok (.aload 5, 2) := by decide +kernel
theorem dX11_keep_24 : decode cX11_keep 24 = .ok (.ifnonnull 5, 3) := by decide +kernel
theorem dX11_keep_27 : decode cX11_keep 27 = .ok (.iconst (-1), 1) := by decide +kernel
theorem dX11_keep_28 : decode cX11_keep 28 = .ok (.ireturn, 1) := by decide +kernel
theorem dX11_keep_29 : decode cX11_keep 29 = .ok (.aload 4, 2) := by decide +kernel
theorem dX11_keep_31 : decode cX11_keep 31 = .ok (.invokevirtual 318, 3) := by decide +kernel
theorem dX11_keep_34 : decode cX11_keep 34 = .ok (.ifCond .eq 6, 3) := by decide +kernel
theorem dX11_keep_37 : decode cX11_keep 37 = .ok (.bipush (-11), 2) := by decide +kernel
theorem dX11_keep_39 : decode cX11_keep 39 = .ok (.ireturn, 1) := by decide +kernel
theorem dX11_keep_40 : decode cX11_keep 40 = .ok (.aload 4, 2) := by decide +kernel
theorem dX11_keep_42 : decode cX11_keep 42 = .ok (.iload_n 2, 1) := by decide +kernel
theorem dX11_keep_43 : decode cX11_keep 43 = .ok (.iconst 1, 1) := by decide +kernel
theorem dX11_keep_44 : decode cX11_keep 44 = .ok (.invokevirtual 319, 3) := by decide +kernel
theorem dX11_keep_47 : decode cX11_keep 47 = .ok (.ifCond .ne 6, 3) := by decide +kernel
theorem dX11_keep_50 : decode cX11_keep 50 = .ok (.bipush (-13), 2) := by decide +kernel
theorem dX11_keep_52 : decode cX11_keep 52 = .ok (.ireturn, 1) := by decide +kernel
theorem dX11_keep_53 : decode cX11_keep 53 = .ok (.aload 4, 2) := by decide +kernel
theorem dX11_keep_55 : decode cX11_keep 55 = .ok (.iload_n 2, 1) := by decide +kernel
theorem dX11_keep_56 : decode cX11_keep 56 = .ok (.aload 5, 2) := by decide +kernel
theorem dX11_keep_58 : decode cX11_keep 58 = .ok (.invokevirtual 322, 3) := by decide +kernel
theorem dX11_keep_61 : decode cX11_keep 61 = .ok (.ifCond .eq 7, 3) := by decide +kernel
theorem dX11_keep_64 : decode cX11_keep 64 = .ok (.iconst 1, 1) := by decide +kernel
theorem dX11_keep_65 : decode cX11_keep 65 = .ok (.goto 5, 3) := by decide +kernel
theorem dX11_keep_68 : decode cX11_keep 68 = .ok (.bipush (-12), 2) := by decide +kernel
theorem dX11_keep_70 : decode cX11_keep 70 = .ok (.ireturn, 1) := by decide +kernel
theorem dX11_kept_0 : decode cX11_kept 0 = .ok (.aload_n 0, 1) := by decide +kernel
theorem dX11_kept_1 : decode cX11_kept 1 = .ok (.iload_n 1, 1) := by decide +kernel
theorem dX11_kept_2 : decode cX11_kept 2 = .ok (.invokevirtual 310, 3) := by decide +kernel
theorem dX11_kept_5 : decode cX11_kept 5 = .ok (.astore_n 3, 1) := by decide +kernel
theorem dX11_kept_6 : decode cX11_kept 6 = .ok (.aload_n 3, 1) := by decide +kernel
theorem dX11_kept_7 : decode cX11_kept 7 = .ok (.ifnonnull 7, 3) := by decide +kernel
theorem dX11_kept_10 : decode cX11_kept 10 = .ok (.aconst_null, 1) := by decide +kernel
theorem dX11_kept_11 : decode cX11_kept 11 = .ok (.goto 8, 3) := by decide +kernel
theorem dX11_kept_14 : decode cX11_kept 14 = .ok (.aload_n 3, 1) := by decide +kernel
theorem dX11_kept_15 : decode cX11_kept 15 = .ok (.iload_n 2, 1) := by decide +kernel
theorem dX11_kept_16 : decode cX11_kept 16 = .ok (.invokevirtual 326, 3) := by decide +kernel
theorem dX11_kept_19 : decode cX11_kept 19 = .ok (.astore 4, 2) := by decide +kernel
theorem dX11_kept_21 : decode cX11_kept 21 = .ok (.aload 4, 2) := by decide +kernel
theorem dX11_kept_23 : decode cX11_kept 23 = .ok (.ifnonnull 9, 3) := by decide +kernel
theorem dX11_kept_26 : decode cX11_kept 26 = .ok (.ldc2_w 138, 3) := by decide +kernel
theorem dX11_kept_29 : decode cX11_kept 29 = .ok (.goto 12, 3) := by decide +kernel
theorem dX11_kept_32 : decode cX11_kept 32 = .ok (.aload_n 0, 1) := by decide +kernel
theorem dX11_kept_33 : decode cX11_kept 33 = .ok (.getfield 12, 3) := by decide +kernel
theorem dX11_kept_36 : decode cX11_kept 36 = .ok (.aload 4, 2) := by decide +kernel
theorem dX11_kept_38 : decode cX11_kept 38 = .ok (.invokevirtual 140, 3) := by decide +kernel
theorem dX11_kept_41 : decode cX11_kept 41 = .ok (.lreturn, 1) := by decide +kernel
theorem dX11_like_0 : decode cX11_like 0 = .ok (.aload_n 0, 1) := by decide +kernel
theorem dX11_like_1 : decode cX11_like 1 = .ok (.iload_n 1, 1) := by decide +kernel
theorem dX11_like_2 : decode cX11_like 2 = .ok (.invokevirtual 310, 3) := by decide +kernel
theorem dX11_like_5 : decode cX11_like 5 = .ok (.astore_n 3, 1) := by decide +kernel
theorem dX11_like_6 : decode cX11_like 6 = .ok (.aload_n 0, 1) := by decide +kernel
theorem dX11_like_7 : decode cX11_like 7 = .ok (.iload_n 2, 1) := by decide +kernel
theorem dX11_like_8 : decode cX11_like 8 = .ok (.invokevirtual 310, 3) := by decide +kernel
theorem dX11_like_11 : decode cX11_like 11 = .ok (.astore 4, 2) := by decide +kernel
theorem dX11_like_13 : decode cX11_like 13 = .ok (.aload_n 3, 1) := by decide +kernel
theorem dX11_like_14 : decode cX11_like 14 = .ok (.ifnull 14, 3) := by decide +kernel
theorem dX11_like_17 : decode cX11_like 17 = .ok (.aload 4, 2) := by decide +kernel
theorem dX11_like_19 : decode cX11_like 19 = .ok (.ifnull 9, 3) := by decide +kernel
theorem dX11_like_22 : decode cX11_like 22 = .ok (.aload_n 3, 1) := by decide +kernel
theorem dX11_like_23 : decode cX11_like 23 = .ok (.aload 4, 2) := by decide +kernel
theorem dX11_like_25 : decode cX11_like 25 = .ok (.if_acmp .ne 5, 3) := by decide +kernel
theorem dX11_like_28 : decode cX11_like 28 = .ok (.iconst (-1), 1) := by decide +kernel
theorem dX11_like_29 : decode cX11_like 29 = .ok (.ireturn, 1) := by decide +kernel
theorem dX11_like_30 : decode cX11_like 30 = .ok (.aload 4, 2) := by decide +kernel
theorem dX11_like_32 : decode cX11_like 32 = .ok (.invokevirtual 318, 3) := by decide +kernel
theorem dX11_like_35 : decode cX11_like 35 = .ok (.ifCond .eq 6, 3) := by decide +kernel
theorem dX11_like_38 : decode cX11_like 38 = .ok (.bipush (-11), 2) := by decide +kernel
theorem dX11_like_40 : decode cX11_like 40 = .ok (.ireturn, 1) := by decide +kernel
theorem dX11_like_41 : decode cX11_like 41 = .ok (.aload_n 3, 1) := by decide +kernel
theorem dX11_like_42 : decode cX11_like 42 = .ok (.aload 4, 2) := by decide +kernel
theorem dX11_like_44 : decode cX11_like 44 = .ok (.invokevirtual 327, 3) := by decide +kernel
theorem dX11_like_47 : decode cX11_like 47 = .ok (.aload_n 3, 1) := by decide +kernel
theorem dX11_like_48 : decode cX11_like 48 = .ok (.invokevirtual 331, 3) := by decide +kernel
theorem dX11_like_51 : decode cX11_like 51 = .ok (.ireturn, 1) := by decide +kernel
theorem dX11_shift_0 : decode cX11_shift 0 = .ok (.aload_n 0, 1) := by decide +kernel
theorem dX11_shift_1 : decode cX11_shift 1 = .ok (.iload_n 1, 1) := by decide +kernel
theorem dX11_shift_2 : decode cX11_shift 2 = .ok (.invokevirtual 310, 3) := by decide +kernel
theorem dX11_shift_5 : decode cX11_shift 5 = .ok (.astore 6, 2) := by decide +kernel
theorem dX11_shift_7 : decode cX11_shift 7 = .ok (.aload_n 0, 1) := by decide +kernel
theorem dX11_shift_8 : decode cX11_shift 8 = .ok (.iload_n 3, 1) := by decide +kernel
theorem dX11_shift_9 : decode cX11_shift 9 = .ok (.invokevirtual 310, 3) := by decide +kernel
theorem dX11_shift_12 : decode cX11_shift 12 = .ok (.astore 7, 2) := by decide +kernel
theorem dX11_shift_14 : decode cX11_shift 14 = .ok (.aload 6, 2) := by decide +kernel
theorem dX11_shift_16 : decode cX11_shift 16 = .ok (.ifnull 8, 3) := by decide +kernel
theorem dX11_shift_19 : decode cX11_shift 19 = .ok (.aload 7, 2) := by decide +kernel
theorem dX11_shift_21 : decode cX11_shift 21 = .ok (.ifnonnull 5, 3) := by decide +kernel
theorem dX11_shift_24 : decode cX11_shift 24 = .ok (.iconst (-1), 1) := by decide +kernel
theorem dX11_shift_25 : decode cX11_shift 25 = .ok (.ireturn, 1) := by decide +kernel
theorem dX11_shift_26 : decode cX11_shift 26 = .ok (.aload 6, 2) := by decide +kernel
theorem dX11_shift_28 : decode cX11_shift 28 = .ok (.invokevirtual 318, 3) := by decide +kernel
theorem dX11_shift_31 : decode cX11_shift 31 = .ok (.ifCond .ne 11, 3) := by decide +kernel
theorem dX11_shift_34 : decode cX11_shift 34 = .ok (.aload 7, 2) := by decide +kernel
theorem dX11_shift_36 : decode cX11_shift 36 = .ok (.invokevirtual 318, 3) := by decide +kernel
theorem dX11_shift_39 : decode cX11_shift 39 = .ok (.ifCond .eq 6, 3) := by decide +kernel
theorem dX11_shift_42 : decode cX11_shift 42 = .ok (.bipush (-11), 2) := by decide +kernel
theorem dX11_shift_44 : decode cX11_shift 44 = .ok (.ireturn, 1) := by decide +kernel
theorem dX11_shift_45 : decode cX11_shift 45 = .ok (.aload 6, 2) := by decide +kernel
theorem dX11_shift_47 : decode cX11_shift 47 = .ok (.iload_n 2, 1) := by decide +kernel
theorem dX11_shift_48 : decode cX11_shift 48 = .ok (.iload 5, 2) := by decide +kernel
theorem dX11_shift_50 : decode cX11_shift 50 = .ok (.invokevirtual 319, 3) := by decide +kernel
theorem dX11_shift_53 : decode cX11_shift 53 = .ok (.ifCond .eq 15, 3) := by decide +kernel
theorem dX11_shift_56 : decode cX11_shift 56 = .ok (.aload 7, 2) := by decide +kernel
theorem dX11_shift_58 : decode cX11_shift 58 = .ok (.iload 4, 2) := by decide +kernel
theorem dX11_shift_60 : decode cX11_shift 60 = .ok (.iload 5, 2) := by decide +kernel
theorem dX11_shift_62 : decode cX11_shift 62 = .ok (.invokevirtual 319, 3) := by decide +kernel
theorem dX11_shift_65 : decode cX11_shift 65 = .ok (.ifCond .ne 6, 3) := by decide +kernel
theorem dX11_shift_68 : decode cX11_shift 68 = .ok (.bipush (-13), 2) := by decide +kernel
theorem dX11_shift_70 : decode cX11_shift 70 = .ok (.ireturn, 1) := by decide +kernel
theorem dX11_shift_71 : decode cX11_shift 71 = .ok (.aload 7, 2) := by decide +kernel
theorem dX11_shift_73 : decode cX11_shift 73 = .ok (.aload 6, 2) := by decide +kernel
theorem dX11_shift_75 : decode cX11_shift 75 = .ok (.iload_n 2, 1) := by decide +kernel
theorem dX11_shift_76 : decode cX11_shift 76 = .ok (.iload 4, 2) := by decide +kernel
theorem dX11_shift_78 : decode cX11_shift 78 = .ok (.iload 5, 2) := by decide +kernel
theorem dX11_shift_80 : decode cX11_shift 80 = .ok (.invokevirtual 332, 3) := by decide +kernel
theorem dX11_shift_83 : decode cX11_shift 83 = .ok (.ifCond .eq 8, 3) := by decide +kernel
theorem dX11_shift_86 : decode cX11_shift 86 = .ok (.iload 5, 2) := by decide +kernel
theorem dX11_shift_88 : decode cX11_shift 88 = .ok (.goto 5, 3) := by decide +kernel
theorem dX11_shift_91 : decode cX11_shift 91 = .ok (.bipush (-12), 2) := by decide +kernel
theorem dX11_shift_93 : decode cX11_shift 93 = .ok (.ireturn, 1) := by decide +kernel
theorem dX11_list_0 : decode cX11_list 0 = .ok (.aload_n 0, 1) := by decide +kernel
theorem dX11_list_1 : decode cX11_list 1 = .ok (.iload_n 1, 1) := by decide +kernel
theorem dX11_list_2 : decode cX11_list 2 = .ok (.invokevirtual 276, 3) := by decide +kernel
theorem dX11_list_5 : decode cX11_list 5 = .ok (.astore 4, 2) := by decide +kernel
theorem dX11_list_7 : decode cX11_list 7 = .ok (.aload 4, 2) := by decide +kernel
theorem dX11_list_9 : decode cX11_list 9 = .ok (.ifnull 13, 3) := by decide +kernel
theorem dX11_list_12 : decode cX11_list 12 = .ok (.iload_n 2, 1) := by decide +kernel
theorem dX11_list_13 : decode cX11_list 13 = .ok (.iconst (-1), 1) := by decide +kernel
theorem dX11_list_14 : decode cX11_list 14 = .ok (.if_icmp .lt 8, 3) := by decide +kernel
theorem dX11_list_17 : decode cX11_list 17 = .ok (.iload_n 2, 1) := by decide +kernel
theorem dX11_list_18 : decode cX11_list 18 = .ok (.iconst 2, 1) := by decide +kernel
theorem dX11_list_19 : decode cX11_list 19 = .ok (.if_icmp .lt 5, 3) := by decide +kernel
theorem dX11_list_22 : decode cX11_list 22 = .ok (.iconst (-1), 1) := by decide +kernel
theorem dX11_list_23 : decode cX11_list 23 = .ok (.ireturn, 1) := by decide +kernel
theorem dX11_list_24 : decode cX11_list 24 = .ok (.iload_n 2, 1) := by decide +kernel
theorem dX11_list_25 : decode cX11_list 25 = .ok (.iconst (-1), 1) := by decide +kernel
theorem dX11_list_26 : decode cX11_list 26 = .ok (.if_icmp .ne 10, 3) := by decide +kernel
theorem dX11_list_29 : decode cX11_list 29 = .ok (.aload 4, 2) := by decide +kernel
theorem dX11_list_31 : decode cX11_list 31 = .ok (.invokevirtual 336, 3) := by decide +kernel
theorem dX11_list_34 : decode cX11_list 34 = .ok (.iconst 1, 1) := by decide +kernel
theorem dX11_list_35 : decode cX11_list 35 = .ok (.ireturn, 1) := by decide +kernel
theorem dX11_list_36 : decode cX11_list 36 = .ok (.iload_n 3, 1) := by decide +kernel
theorem dX11_list_37 : decode cX11_list 37 = .ok (.bipush 20, 2) := by decide +kernel
theorem dX11_list_39 : decode cX11_list 39 = .ok (.if_icmp .le 5, 3) := by decide +kernel
theorem dX11_list_42 : decode cX11_list 42 = .ok (.iconst (-1), 1) := by decide +kernel
theorem dX11_list_43 : decode cX11_list 43 = .ok (.ireturn, 1) := by decide +kernel
theorem dX11_list_44 : decode cX11_list 44 = .ok (.iload_n 3, 1) := by decide +kernel
theorem dX11_list_45 : decode cX11_list 45 = .ok (.ifCond .ge 6, 3) := by decide +kernel
theorem dX11_list_48 : decode cX11_list 48 = .ok (.bipush (-14), 2) := by decide +kernel
theorem dX11_list_50 : decode cX11_list 50 = .ok (.ireturn, 1) := by decide +kernel
theorem dX11_list_51 : decode cX11_list 51 = .ok (.aload 4, 2) := by decide +kernel
theorem dX11_list_53 : decode cX11_list 53 = .ok (.iload_n 2, 1) := by decide +kernel
theorem dX11_list_54 : decode cX11_list 54 = .ok (.iload_n 3, 1) := by decide +kernel
theorem dX11_list_55 : decode cX11_list 55 = .ok (.invokevirtual 337, 3) := by decide +kernel
theorem dX11_list_58 : decode cX11_list 58 = .ok (.iconst 1, 1) := by decide +kernel
theorem dX11_list_59 : decode cX11_list 59 = .ok (.ireturn, 1) := by decide +kernel
theorem dX11_put_0 : decode cX11_put 0 = .ok (.aload_n 0, 1) := by decide +kernel
theorem dX11_put_1 : decode cX11_put 1 = .ok (.iload_n 1, 1) := by decide +kernel
theorem dX11_put_2 : decode cX11_put 2 = .ok (.invokevirtual 276, 3) := by decide +kernel
theorem dX11_put_5 : decode cX11_put 5 = .ok (.astore 5, 2) := by decide +kernel
theorem dX11_put_7 : decode cX11_put 7 = .ok (.aload 5, 2) := by decide +kernel
theorem dX11_put_9 : decode cX11_put 9 = .ok (.ifnonnull 5, 3) := by decide +kernel
theorem dX11_put_12 : decode cX11_put 12 = .ok (.iconst (-1), 1) := by decide +kernel
theorem dX11_put_13 : decode cX11_put 13 = .ok (.ireturn, 1) := by decide +kernel
theorem dX11_put_14 : decode cX11_put 14 = .ok (.aload 5, 2) := by decide +kernel
theorem dX11_put_16 : decode cX11_put 16 = .ok (.invokevirtual 280, 3) := by decide +kernel
theorem dX11_put_19 : decode cX11_put 19 = .ok (.ifCond .eq 6, 3) := by decide +kernel
theorem dX11_put_22 : decode cX11_put 22 = .ok (.bipush (-11), 2) := by decide +kernel
theorem dX11_put_24 : decode cX11_put 24 = .ok (.ireturn, 1) := by decide +kernel
theorem dX11_put_25 : decode cX11_put 25 = .ok (.aload 5, 2) := by decide +kernel
theorem dX11_put_27 : decode cX11_put 27 = .ok (.iload_n 2, 1) := by decide +kernel
theorem dX11_put_28 : decode cX11_put 28 = .ok (.lload_n 3, 1) := by decide +kernel
theorem dX11_put_29 : decode cX11_put 29 = .ok (.invokevirtual 338, 3) := by decide +kernel
theorem dX11_put_32 : decode cX11_put 32 = .ok (.ifCond .eq 7, 3) := by decide +kernel
theorem dX11_put_35 : decode cX11_put 35 = .ok (.iconst 1, 1) := by decide +kernel
theorem dX11_put_36 : decode cX11_put 36 = .ok (.goto 5, 3) := by decide +kernel
theorem dX11_put_39 : decode cX11_put 39 = .ok (.bipush (-13), 2) := by decide +kernel
theorem dX11_put_41 : decode cX11_put 41 = .ok (.ireturn, 1) := by decide +kernel
theorem dX11_get_0 : decode cX11_get 0 = .ok (.aload_n 0, 1) := by decide +kernel
theorem dX11_get_1 : decode cX11_get 1 = .ok (.iload_n 1, 1) := by decide +kernel
theorem dX11_get_2 : decode cX11_get 2 = .ok (.invokevirtual 276, 3) := by decide +kernel
theorem dX11_get_5 : decode cX11_get 5 = .ok (.astore_n 3, 1) := by decide +kernel
theorem dX11_get_6 : decode cX11_get 6 = .ok (.aload_n 3, 1) := by decide +kernel
theorem dX11_get_7 : decode cX11_get 7 = .ok (.ifnull 11, 3) := by decide +kernel
theorem dX11_get_10 : decode cX11_get 10 = .ok (.aload_n 3, 1) := by decide +kernel
theorem dX11_get_11 : decode cX11_get 11 = .ok (.iload_n 2, 1) := by decide +kernel
theorem dX11_get_12 : decode cX11_get 12 = .ok (.invokevirtual 283, 3) := by decide +kernel
theorem dX11_get_15 : decode cX11_get 15 = .ok (.ifCond .ne 9, 3) := by decide +kernel
theorem dX11_get_18 : decode cX11_get 18 = .ok (.ldc2_w 138, 3) := by decide +kernel
theorem dX11_get_21 : decode cX11_get 21 = .ok (.goto 8, 3) := by decide +kernel
theorem dX11_get_24 : decode cX11_get 24 = .ok (.aload_n 3, 1) := by decide +kernel
theorem dX11_get_25 : decode cX11_get 25 = .ok (.iload_n 2, 1) := by decide +kernel
theorem dX11_get_26 : decode cX11_get 26 = .ok (.invokevirtual 287, 3) := by decide +kernel
theorem dX11_get_29 : decode cX11_get 29 = .ok (.lreturn, 1) := by decide +kernel
theorem dX11_act_0 : decode cX11_act 0 = .ok (.aload_n 0, 1) := by decide +kernel
theorem dX11_act_1 : decode cX11_act 1 = .ok (.getfield 28, 3) := by decide +kernel
theorem dX11_act_4 : decode cX11_act 4 = .ok (.iload_n 1, 1) := by decide +kernel
theorem dX11_act_5 : decode cX11_act 5 = .ok (.invokevirtual 110, 3) := by decide +kernel
theorem dX11_act_8 : decode cX11_act 8 = .ok (.astore 4, 2) := by decide +kernel
theorem dX11_act_10 : decode cX11_act 10 = .ok (.aload 4, 2) := by decide +kernel
theorem dX11_act_12 : decode cX11_act 12 = .ok (.ifnull 12, 3) := by decide +kernel
theorem dX11_act_15 : decode cX11_act 15 = .ok (.iload_n 2, 1) := by decide +kernel
theorem dX11_act_16 : decode cX11_act 16 = .ok (.ifCond .lt 8, 3) := by decide +kernel
theorem dX11_act_19 : decode cX11_act 19 = .ok (.iload_n 2, 1) := by decide +kernel
theorem dX11_act_20 : decode cX11_act 20 = .ok (.iconst 2, 1) := by decide +kernel
theorem dX11_act_21 : decode cX11_act 21 = .ok (.if_icmp .le 5, 3) := by decide +kernel
theorem dX11_act_24 : decode cX11_act 24 = .ok (.iconst 0, 1) := by decide +kernel
theorem dX11_act_25 : decode cX11_act 25 = .ok (.ireturn, 1) := by decide +kernel
theorem dX11_act_26 : decode cX11_act 26 = .ok (.aload_n 0, 1) := by decide +kernel
theorem dX11_act_27 : decode cX11_act 27 = .ok (.getfield 45, 3) := by decide +kernel
theorem dX11_act_30 : decode cX11_act 30 = .ok (.aload 4, 2) := by decide +kernel
theorem dX11_act_32 : decode cX11_act 32 = .ok (.iload_n 1, 1) := by decide +kernel
theorem dX11_act_33 : decode cX11_act 33 = .ok (.iload_n 2, 1) := by decide +kernel
theorem dX11_act_34 : decode cX11_act 34 = .ok (.iload_n 3, 1) := by decide +kernel
theorem dX11_act_35 : decode cX11_act 35 = .ok (.invokevirtual 341, 3) := by decide +kernel
theorem dX11_act_38 : decode cX11_act 38 = .ok (.ireturn, 1) := by decide +kernel
theorem dX11_trace_0 : decode cX11_trace 0 = .ok (.aload_n 0, 1) := by decide +kernel
theorem dX11_trace_1 : decode cX11_trace 1 = .ok (.getfield 45, 3) := by decide +kernel
theorem dX11_trace_4 : decode cX11_trace 4 = .ok (.iload_n 1, 1) := by decide +kernel
theorem dX11_trace_5 : decode cX11_trace 5 = .ok (.invokevirtual 345, 3) := by decide +kernel
theorem dX11_trace_8 : decode cX11_trace 8 = .ok (.ireturn, 1) := by decide +kernel
theorem dX11_taken_0 : decode cX11_taken 0 = .ok (.aload_n 0, 1) := by decide +kernel
theorem dX11_taken_1 : decode cX11_taken 1 = .ok (.getfield 28, 3) := by decide +kernel
theorem dX11_taken_4 : decode cX11_taken 4 = .ok (.iload_n 1, 1) := by decide +kernel
theorem dX11_taken_5 : decode cX11_taken 5 = .ok (.invokevirtual 110, 3) := by decide +kernel
theorem dX11_taken_8 : decode cX11_taken 8 = .ok (.astore_n 3, 1) := by decide +kernel
theorem dX11_taken_9 : decode cX11_taken 9 = .ok (.aload_n 3, 1) := by decide +kernel
theorem dX11_taken_10 : decode cX11_taken 10 = .ok (.ifnull 13, 3) := by decide +kernel
theorem dX11_taken_13 : decode cX11_taken 13 = .ok (.iload_n 2, 1) := by decide +kernel
theorem dX11_taken_14 : decode cX11_taken 14 = .ok (.ifCond .lt 9, 3) := by decide +kernel
theorem dX11_taken_17 : decode cX11_taken 17 = .ok (.iload_n 2, 1) := by decide +kernel
theorem dX11_taken_18 : decode cX11_taken 18 = .ok (.bipush 6, 2) := by decide +kernel
theorem dX11_taken_20 : decode cX11_taken 20 = .ok (.if_icmp .lt 5, 3) := by decide +kernel
theorem dX11_taken_23 : decode cX11_taken 23 = .ok (.iconst (-1), 1) := by decide +kernel
theorem dX11_taken_24 : decode cX11_taken 24 = .ok (.ireturn, 1) := by decide +kernel
theorem dX11_taken_25 : decode cX11_taken 25 = .ok (.aload_n 3, 1) := by decide +kernel
theorem dX11_taken_26 : decode cX11_taken 26 = .ok (.iload_n 2, 1) := by decide +kernel
theorem dX11_taken_27 : decode cX11_taken 27 = .ok (.invokevirtual 348, 3) := by decide +kernel
theorem dX11_taken_30 : decode cX11_taken 30 = .ok (.ifCond .ne 6, 3) := by decide +kernel
theorem dX11_taken_33 : decode cX11_taken 33 = .ok (.bipush (-5), 2) := by decide +kernel
theorem dX11_taken_35 : decode cX11_taken 35 = .ok (.ireturn, 1) := by decide +kernel
theorem dX11_taken_36 : decode cX11_taken 36 = .ok (.iload_n 2, 1) := by decide +kernel
theorem dX11_taken_37 : decode cX11_taken 37 = .ok (.iconst 3, 1) := by decide +kernel
theorem dX11_taken_38 : decode cX11_taken 38 = .ok (.if_icmp .eq 8, 3) := by decide +kernel
theorem dX11_taken_41 : decode cX11_taken 41 = .ok (.iload_n 2, 1) := by decide +kernel
theorem dX11_taken_42 : decode cX11_taken 42 = .ok (.iconst 4, 1) := by decide +kernel
theorem dX11_taken_43 : decode cX11_taken 43 = .ok (.if_icmp .ne 10, 3) := by decide +kernel
theorem dX11_taken_46 : decode cX11_taken 46 = .ok (.aload_n 3, 1) := by decide +kernel
theorem dX11_taken_47 : decode cX11_taken 47 = .ok (.getfield 120, 3) := by decide +kernel
theorem dX11_taken_50 : decode cX11_taken 50 = .ok (.goto 4, 3) := by decide +kernel
theorem dX11_taken_53 : decode cX11_taken 53 = .ok (.iload_n 1, 1) := by decide +kernel
theorem dX11_taken_54 : decode cX11_taken 54 = .ok (.ireturn, 1) := by decide +kernel
theorem dX11_undo_0 : decode cX11_undo 0 = .ok (.aload_n 0, 1) := by decide +kernel
theorem dX11_undo_1 : decode cX11_undo 1 = .ok (.getfield 35, 3) := by decide +kernel
theorem dX11_undo_4 : decode cX11_undo 4 = .ok (.aload_n 0, 1) := by decide +kernel
theorem dX11_undo_5 : decode cX11_undo 5 = .ok (.getfield 28, 3) := by decide +kernel
theorem dX11_undo_8 : decode cX11_undo 8 = .ok (.invokevirtual 351, 3) := by decide +kernel
theorem dX11_undo_11 : decode cX11_undo 11 = .ok (.ifCond .eq 13, 3) := by decide +kernel
theorem dX11_undo_14 : decode cX11_undo 14 = .ok (.aload_n 0, 1) := by decide +kernel
theorem dX11_undo_15 : decode cX11_undo 15 = .ok (.getfield 35, 3) := by decide +kernel
theorem dX11_undo_18 : decode cX11_undo 18 = .ok (.invokevirtual 355, 3) := by decide +kernel
theorem dX11_undo_21 : decode cX11_undo 21 = .ok (.goto 5, 3) := by decide +kernel
theorem dX11_undo_24 : decode cX11_undo 24 = .ok (.bipush (-5), 2) := by decide +kernel
theorem dX11_undo_26 : decode cX11_undo 26 = .ok (.ireturn, 1) := by decide +kernel
theorem dX11_redo_0 : decode cX11_redo 0 = .ok (.aload_n 0, 1) := by decide +kernel
theorem dX11_redo_1 : decode cX11_redo 1 = .ok (.getfield 35, 3) := by decide +kernel
theorem dX11_redo_4 : decode cX11_redo 4 = .ok (.aload_n 0, 1) := by decide +kernel
theorem dX11_redo_5 : decode cX11_redo 5 = .ok (.getfield 28, 3) := by decide +kernel
theorem dX11_redo_8 : decode cX11_redo 8 = .ok (.invokevirtual 358, 3) := by decide +kernel
theorem dX11_redo_11 : decode cX11_redo 11 = .ok (.ifCond .eq 13, 3) := by decide +kernel
theorem dX11_redo_14 : decode cX11_redo 14 = .ok (.aload_n 0, 1) := by decide +kernel
theorem dX11_redo_15 : decode cX11_redo 15 = .ok (.getfield 35, 3) := by decide +kernel
theorem dX11_redo_18 : decode cX11_redo 18 = .ok (.invokevirtual 361, 3) := by decide +kernel
theorem dX11_redo_21 : decode cX11_redo 21 = .ok (.goto 5, 3) := by decide +kernel
theorem dX11_redo_24 : decode cX11_redo 24 = .ok (.bipush (-5), 2) := by decide +kernel
theorem dX11_redo_26 : decode cX11_redo 26 = .ok (.ireturn, 1) := by decide +kernel
theorem dX11_image_0 : decode cX11_image 0 = .ok (.aload_n 0, 1) := by decide +kernel
theorem dX11_image_1 : decode cX11_image 1 = .ok (.getfield 39, 3) := by decide +kernel
theorem dX11_image_4 : decode cX11_image 4 = .ok (.aload_n 0, 1) := by decide +kernel
theorem dX11_image_5 : decode cX11_image 5 = .ok (.getfield 28, 3) := by decide +kernel
theorem dX11_image_8 : decode cX11_image 8 = .ok (.invokevirtual 364, 3) := by decide +kernel
theorem dX11_image_11 : decode cX11_image 11 = .ok (.aload_n 0, 1) := by decide +kernel
theorem dX11_image_12 : decode cX11_image 12 = .ok (.aload_n 0, 1) := by decide +kernel
theorem dX11_image_13 : decode cX11_image 13 = .ok (.getfield 12, 3) := by decide +kernel
theorem dX11_image_16 : decode cX11_image 16 = .ok (.invokevirtual 82, 3) := by decide +kernel
theorem dX11_image_19 : decode cX11_image 19 = .ok (.putfield 367, 3) := by decide +kernel
theorem dX11_image_22 : decode cX11_image 22 = .ok (.aload_n 0, 1) := by decide +kernel
theorem dX11_image_23 : decode cX11_image 23 = .ok (.getfield 28, 3) := by decide +kernel
theorem dX11_image_26 : decode cX11_image 26 = .ok (.invokevirtual 107, 3) := by decide +kernel
theorem dX11_image_29 : decode cX11_image 29 = .ok (.ireturn, 1) := by decide +kernel
theorem dX11_alike_0 : decode cX11_alike 0 = .ok (.aload_n 0, 1) := by decide +kernel
theorem dX11_alike_1 : decode cX11_alike 1 = .ok (.getfield 367, 3) := by decide +kernel
theorem dX11_alike_4 : decode cX11_alike 4 = .ok (.ifCond .ne 6, 3) := by decide +kernel
theorem dX11_alike_7 : decode cX11_alike 7 = .ok (.bipush (-5), 2) := by decide +kernel
theorem dX11_alike_9 : decode cX11_alike 9 = .ok (.ireturn, 1) := by decide +kernel
theorem dX11_alike_10 : decode cX11_alike 10 = .ok (.aload_n 0, 1) := by decide +kernel
theorem dX11_alike_11 : decode cX11_alike 11 = .ok (.getfield 12, 3) := by decide +kernel
theorem dX11_alike_14 : decode cX11_alike 14 = .ok (.invokevirtual 82, 3) := by decide +kernel
theorem dX11_alike_17 : decode cX11_alike 17 = .ok (.aload_n 0, 1) := by decide +kernel
theorem dX11_alike_18 : decode cX11_alike 18 = .ok (.getfield 367, 3) := by decide +kernel
theorem dX11_alike_21 : decode cX11_alike 21 = .ok (.if_icmp .ne 21, 3) := by decide +kernel
theorem dX11_alike_24 : decode cX11_alike 24 = .ok (.aload_n 0, 1) := by decide +kernel
theorem dX11_alike_25 : decode cX11_alike 25 = .ok (.getfield 28, 3) := by decide +kernel
theorem dX11_alike_28 : decode cX11_alike 28 = .ok (.aload_n 0, 1) := by decide +kernel
theorem dX11_alike_29 : decode cX11_alike 29 = .ok (.getfield 39, 3) := by decide +kernel
theorem dX11_alike_32 : decode cX11_alike 32 = .ok (.invokevirtual 370, 3) := by decide +kernel
theorem dX11_alike_35 : decode cX11_alike 35 = .ok (.ifCond .eq 7, 3) := by decide +kernel
theorem dX11_alike_38 : decode cX11_alike 38 = .ok (.iconst 1, 1) := by decide +kernel
theorem dX11_alike_39 : decode cX11_alike 39 = .ok (.goto 4, 3) := by decide +kernel
theorem dX11_alike_42 : decode cX11_alike 42 = .ok (.iconst 0, 1) := by decide +kernel
theorem dX11_alike_43 : decode cX11_alike 43 = .ok (.invokestatic 163, 3) := by decide +kernel
theorem dX11_alike_46 : decode cX11_alike 46 = .ok (.ireturn, 1) := by decide +kernel
theorem dX11_back_0 : decode cX11_back 0 = .ok (.aload_n 0, 1) := by decide +kernel
theorem dX11_back_1 : decode cX11_back 1 = .ok (.getfield 367, 3) := by decide +kernel
theorem dX11_back_4 : decode cX11_back 4 = .ok (.ifCond .ne 6, 3) := by decide +kernel
theorem dX11_back_7 : decode cX11_back 7 = .ok (.bipush (-5), 2) := by decide +kernel
theorem dX11_back_9 : decode cX11_back 9 = .ok (.ireturn, 1) := by decide +kernel
theorem dX11_back_10 : decode cX11_back 10 = .ok (.aload_n 0, 1) := by decide +kernel
theorem dX11_back_11 : decode cX11_back 11 = .ok (.getfield 12, 3) := by decide +kernel
theorem dX11_back_14 : decode cX11_back 14 = .ok (.aload_n 0, 1) := by decide +kernel
theorem dX11_back_15 : decode cX11_back 15 = .ok (.getfield 367, 3) := by decide +kernel
theorem dX11_back_18 : decode cX11_back 18 = .ok (.invokevirtual 86, 3) := by decide +kernel
theorem dX11_back_21 : decode cX11_back 21 = .ok (.aload_n 0, 1) := by decide +kernel
theorem dX11_back_22 : decode cX11_back 22 = .ok (.getfield 28, 3) := by decide +kernel
theorem dX11_back_25 : decode cX11_back 25 = .ok (.aload_n 0, 1) := by decide +kernel
theorem dX11_back_26 : decode cX11_back 26 = .ok (.getfield 39, 3) := by decide +kernel
theorem dX11_back_29 : decode cX11_back 29 = .ok (.invokevirtual 364, 3) := by decide +kernel
theorem dX11_back_32 : decode cX11_back 32 = .ok (.aload_n 0, 1) := by decide +kernel
theorem dX11_back_33 : decode cX11_back 33 = .ok (.getfield 35, 3) := by decide +kernel
theorem dX11_back_36 : decode cX11_back 36 = .ok (.invokevirtual 92, 3) := by decide +kernel
theorem dX11_back_39 : decode cX11_back 39 = .ok (.aload_n 0, 1) := by decide +kernel
theorem dX11_back_40 : decode cX11_back 40 = .ok (.getfield 28, 3) := by decide +kernel
theorem dX11_back_43 : decode cX11_back 43 = .ok (.invokevirtual 107, 3) := by decide +kernel
theorem dX11_back_46 : decode cX11_back 46 = .ok (.ireturn, 1) := by decide +kernel
theorem dX11_count_0 : decode cX11_count 0 = .ok (.iload_n 1, 1) := by decide +kernel
theorem dX11_count_1 : decode cX11_count 1 = .ok (.tableswitch 105 0 7 #[47, 55, 63, 71, 79, 87, 95, 100], 47) := by decide +kernel
theorem dX11_count_48 : decode cX11_count 48 = .ok (.aload_n 0, 1) := by decide +kernel
theorem dX11_count_49 : decode cX11_count 49 = .ok (.getfield 28, 3) := by decide +kernel
theorem dX11_count_52 : decode cX11_count 52 = .ok (.invokevirtual 107, 3) := by decide +kernel
theorem dX11_count_55 : decode cX11_count 55 = .ok (.ireturn, 1) := by decide +kernel
theorem dX11_count_56 : decode cX11_count 56 = .ok (.aload_n 0, 1) := by decide +kernel
theorem dX11_count_57 : decode cX11_count 57 = .ok (.getfield 12, 3) := by decide +kernel
theorem dX11_count_60 : decode cX11_count 60 = .ok (.invokevirtual 82, 3) := by decide +kernel
theorem dX11_count_63 : decode cX11_count 63 = .ok (.ireturn, 1) := by decide +kernel
theorem dX11_count_64 : decode cX11_count 64 = .ok (.aload_n 0, 1) := by decide +kernel
theorem dX11_count_65 : decode cX11_count 65 = .ok (.getfield 35, 3) := by decide +kernel
theorem dX11_count_68 : decode cX11_count 68 = .ok (.invokevirtual 355, 3) := by decide +kernel
theorem dX11_count_71 : decode cX11_count 71 = .ok (.ireturn, 1) := by decide +kernel
theorem dX11_count_72 : decode cX11_count 72 = .ok (.aload_n 0, 1) := by decide +kernel
theorem dX11_count_73 : decode cX11_count 73 = .ok (.getfield 35, 3) := by decide +kernel
theorem dX11_count_76 : decode cX11_count 76 = .ok (.invokevirtual 361, 3) := by decide +kernel
theorem dX11_count_79 : decode cX11_count 79 = .ok (.ireturn, 1) := by decide +kernel
theorem dX11_count_80 : decode cX11_count 80 = .ok (.aload_n 0, 1) := by decide +kernel
theorem dX11_count_81 : decode cX11_count 81 = .ok (.getfield 61, 3) := by decide +kernel
theorem dX11_count_84 : decode cX11_count 84 = .ok (.invokevirtual 296, 3) := by decide +kernel
theorem dX11_count_87 : decode cX11_count 87 = .ok (.ireturn, 1) := by decide +kernel
theorem dX11_count_88 : decode cX11_count 88 = .ok (.aload_n 0, 1) := by decide +kernel
theorem dX11_count_89 : decode cX11_count 89 = .ok (.getfield 65, 3) := by decide +kernel
theorem dX11_count_92 : decode cX11_count 92 = .ok (.invokevirtual 296, 3) := by decide +kernel
theorem dX11_count_95 : decode cX11_count 95 = .ok (.ireturn, 1) := by decide +kernel
theorem dX11_count_96 : decode cX11_count 96 = .ok (.aload_n 0, 1) := by decide +kernel
theorem dX11_count_97 : decode cX11_count 97 = .ok (.invokevirtual 373, 3) := by decide +kernel
theorem dX11_count_100 : decode cX11_count 100 = .ok (.ireturn, 1) := by decide +kernel
theorem dX11_count_101 : decode cX11_count 101 = .ok (.aload_n 0, 1) := by decide +kernel
theorem dX11_count_102 : decode cX11_count 102 = .ok (.invokevirtual 376, 3) := by decide +kernel
theorem dX11_count_105 : decode cX11_count 105 = .ok (.ireturn, 1) := by decide +kernel
theorem dX11_count_106 : decode cX11_count 106 = .ok (.iconst (-1), 1) := by decide +kernel
theorem dX11_count_107 : decode cX11_count 107 = .ok (.ireturn, 1) := by decide +kernel
theorem dX11_yesOrNo_0 : decode cX11_yesOrNo 0 = .ok (.iload_n 0, 1) := by decide +kernel
theorem dX11_yesOrNo_1 : decode cX11_yesOrNo 1 = .ok (.ifCond .eq 7, 3) := by decide +kernel
theorem dX11_yesOrNo_4 : decode cX11_yesOrNo 4 = .ok (.iconst 1, 1) := by decide +kernel
theorem dX11_yesOrNo_5 : decode cX11_yesOrNo 5 = .ok (.goto 4, 3) := by decide +kernel
theorem dX11_yesOrNo_8 : decode cX11_yesOrNo 8 = .ok (.iconst 0, 1) := by decide +kernel
theorem dX11_yesOrNo_9 : decode cX11_yesOrNo 9 = .ok (.ireturn, 1) := by decide +kernel
theorem dX11_bring_0 : decode cX11_bring 0 = .ok (.aload_n 0, 1) := by decide +kernel
theorem dX11_bring_1 : decode cX11_bring 1 = .ok (.getfield 28, 3) := by decide +kernel
theorem dX11_bring_4 : decode cX11_bring 4 = .ok (.invokevirtual 379, 3) := by decide +kernel
theorem dX11_bring_7 : decode cX11_bring 7 = .ok (.ifCond .eq 6, 3) := by decide +kernel
theorem dX11_bring_10 : decode cX11_bring 10 = .ok (.bipush (-3), 2) := by decide +kernel
theorem dX11_bring_12 : decode cX11_bring 12 = .ok (.ireturn, 1) := by decide +kernel
theorem dX11_bring_13 : decode cX11_bring 13 = .ok (.aload_n 0, 1) := by decide +kernel
theorem dX11_bring_14 : decode cX11_bring 14 = .ok (.getfield 35, 3) := by decide +kernel
theorem dX11_bring_17 : decode cX11_bring 17 = .ok (.invokevirtual 92, 3) := by decide +kernel
theorem dX11_bring_20 : decode cX11_bring 20 = .ok (.aload_n 0, 1) := by decide +kernel
theorem dX11_bring_21 : decode cX11_bring 21 = .ok (.getfield 28, 3) := by decide +kernel
theorem dX11_bring_24 : decode cX11_bring 24 = .ok (.new 115, 3) := by decide +kernel
theorem dX11_bring_27 : decode cX11_bring 27 = .ok (.dup, 1) := by decide +kernel
theorem dX11_bring_28 : decode cX11_bring 28 = .ok (.iconst 0, 1) := by decide +kernel
theorem dX11_bring_29 : decode cX11_bring 29 = .ok (.iconst 0, 1) := by decide +kernel
theorem dX11_bring_30 : decode cX11_bring 30 = .ok (.lload_n 1, 1) := by decide +kernel
theorem dX11_bring_31 : decode cX11_bring 31 = .ok (.invokespecial 127, 3) := by decide +kernel
theorem dX11_bring_34 : decode cX11_bring 34 = .ok (.invokevirtual 382, 3) := by decide +kernel
theorem dX11_bring_37 : decode cX11_bring 37 = .ok (.ireturn, 1) := by decide +kernel
theorem dX11_amongWhich_0 : decode cX11_amongWhich 0 = .ok (.iload_n 1, 1) := by decide +kernel
theorem dX11_amongWhich_1 : decode cX11_amongWhich 1 = .ok (.iconst 2, 1) := by decide +kernel
theorem dX11_amongWhich_2 : decode cX11_amongWhich 2 = .ok (.if_icmp .ne 22, 3) := by decide +kernel
theorem dX11_amongWhich_5 : decode cX11_amongWhich 5 = .ok (.aload_n 0, 1) := by decide +kernel
theorem dX11_amongWhich_6 : decode cX11_amongWhich 6 = .ok (.getfield 12, 3) := by decide +kernel
theorem dX11_amongWhich_9 : decode cX11_amongWhich 9 = .ok (.invokevirtual 386, 3) := by decide +kernel
theorem dX11_amongWhich_12 : decode cX11_amongWhich 12 = .ok (.aload_n 0, 1) := by decide +kernel
theorem dX11_amongWhich_13 : decode cX11_amongWhich 13 = .ok (.getfield 12, 3) := by decide +kernel
theorem dX11_amongWhich_16 : decode cX11_amongWhich 16 = .ok (.iload_n 2, 1) := by decide +kernel
theorem dX11_amongWhich_17 : decode cX11_amongWhich 17 = .ok (.invokevirtual 387, 3) := by decide +kernel
theorem dX11_amongWhich_20 : decode cX11_amongWhich 20 = .ok (.land, 1) := by decide +kernel
theorem dX11_amongWhich_21 : decode cX11_amongWhich 21 = .ok (.goto 10, 3) := by decide +kernel
theorem dX11_amongWhich_24 : decode cX11_amongWhich 24 = .ok (.aload_n 0, 1) := by decide +kernel
theorem dX11_amongWhich_25 : decode cX11_amongWhich 25 = .ok (.getfield 12, 3) := by decide +kernel
theorem dX11_amongWhich_28 : decode cX11_amongWhich 28 = .ok (.invokevirtual 386, 3) := by decide +kernel
theorem dX11_amongWhich_31 : decode cX11_amongWhich 31 = .ok (.lreturn, 1) := by decide +kernel
theorem dX11_refusalOfLeast_0 : decode cX11_refusalOfLeast 0 = .ok (.iload_n 1, 1) := by decide +kernel
theorem dX11_refusalOfLeast_1 : decode cX11_refusalOfLeast 1 = .ok (.iconst 2, 1) := by decide +kernel
theorem dX11_refusalOfLeast_2 : decode cX11_refusalOfLeast 2 = .ok (.if_icmp .eq 13, 3) := by decide +kernel
theorem dX11_refusalOfLeast_5 : decode cX11_refusalOfLeast 5 = .ok (.aload_n 0, 1) := by decide +kernel
theorem dX11_refusalOfLeast_6 : decode cX11_refusalOfLeast 6 = .ok (.getfield 12, 3) := by decide +kernel
theorem dX11_refusalOfLeast_9 : decode cX11_refusalOfLeast 9 = .ok (.iload_n 1, 1) := by decide +kernel
theorem dX11_refusalOfLeast_10 : decode cX11_refusalOfLeast 10 = .ok (.iload_n 2, 1) := by decide +kernel
theorem dX11_refusalOfLeast_11 : decode cX11_refusalOfLeast 11 = .ok (.invokestatic 252, 3) := by decide +kernel
theorem dX11_refusalOfLeast_14 : decode cX11_refusalOfLeast 14 = .ok (.ireturn, 1) := by decide +kernel
theorem dX11_refusalOfLeast_15 : decode cX11_refusalOfLeast 15 = .ok (.iload_n 2, 1) := by decide +kernel
theorem dX11_refusalOfLeast_16 : decode cX11_refusalOfLeast 16 = .ok (.ifCond .lt 18, 3) := by decide +kernel
theorem dX11_refusalOfLeast_19 : decode cX11_refusalOfLeast 19 = .ok (.iload_n 3, 1) := by decide +kernel
theorem dX11_refusalOfLeast_20 : decode cX11_refusalOfLeast 20 = .ok (.ifCond .lt 14, 3) := by decide +kernel
theorem dX11_refusalOfLeast_23 : decode cX11_refusalOfLeast 23 = .ok (.iload_n 3, 1) := by decide +kernel
theorem dX11_refusalOfLeast_24 : decode cX11_refusalOfLeast 24 = .ok (.aload_n 0, 1) := by decide +kernel
theorem dX11_refusalOfLeast_25 : decode cX11_refusalOfLeast 25 = .ok (.getfield 12, 3) := by decide +kernel
theorem dX11_refusalOfLeast_28 : decode cX11_refusalOfLeast 28 = .ok (.invokevirtual 82, 3) := by decide +kernel
theorem dX11_refusalOfLeast_31 : decode cX11_refusalOfLeast 31 = .ok (.if_icmp .le 5, 3) := by decide +kernel
theorem dX11_refusalOfLeast_34 : decode cX11_refusalOfLeast 34 = .ok (.iconst (-1), 1) := by decide +kernel
theorem dX11_refusalOfLeast_35 : decode cX11_refusalOfLeast 35 = .ok (.ireturn, 1) := by decide +kernel
theorem dX11_refusalOfLeast_36 : decode cX11_refusalOfLeast 36 = .ok (.aload_n 0, 1) := by decide +kernel
theorem dX11_refusalOfLeast_37 : decode cX11_refusalOfLeast 37 = .ok (.iload_n 1, 1) := by decide +kernel
theorem dX11_refusalOfLeast_38 : decode cX11_refusalOfLeast 38 = .ok (.iload_n 3, 1) := by decide +kernel
theorem dX11_refusalOfLeast_39 : decode cX11_refusalOfLeast 39 = .ok (.invokevirtual 205, 3) := by decide +kernel
theorem dX11_refusalOfLeast_42 : decode cX11_refusalOfLeast 42 = .ok (.invokestatic 154, 3) := by decide +kernel
theorem dX11_refusalOfLeast_45 : decode cX11_refusalOfLeast 45 = .ok (.istore 4, 2) := by decide +kernel
theorem dX11_refusalOfLeast_47 : decode cX11_refusalOfLeast 47 = .ok (.iload_n 2, 1) := by decide +kernel
theorem dX11_refusalOfLeast_48 : decode cX11_refusalOfLeast 48 = .ok (.iload 4, 2) := by decide +kernel
theorem dX11_refusalOfLeast_50 : decode cX11_refusalOfLeast 50 = .ok (.if_icmp .le 5, 3) := by decide +kernel
theorem dX11_refusalOfLeast_53 : decode cX11_refusalOfLeast 53 = .ok (.iconst (-1), 1) := by decide +kernel
theorem dX11_refusalOfLeast_54 : decode cX11_refusalOfLeast 54 = .ok (.ireturn, 1) := by decide +kernel
theorem dX11_refusalOfLeast_55 : decode cX11_refusalOfLeast 55 = .ok (.iload 4, 2) := by decide +kernel
theorem dX11_refusalOfLeast_57 : decode cX11_refusalOfLeast 57 = .ok (.bipush 15, 2) := by decide +kernel
theorem dX11_refusalOfLeast_59 : decode cX11_refusalOfLeast 59 = .ok (.if_icmp .le 8, 3) := by decide +kernel
theorem dX11_refusalOfLeast_62 : decode cX11_refusalOfLeast 62 = .ok (.bipush (-5), 2) := by decide +kernel
theorem dX11_refusalOfLeast_64 : decode cX11_refusalOfLeast 64 = .ok (.goto 4, 3) := by decide +kernel
theorem dX11_refusalOfLeast_67 : decode cX11_refusalOfLeast 67 = .ok (.iconst 0, 1) := by decide +kernel
theorem dX11_refusalOfLeast_68 : decode cX11_refusalOfLeast 68 = .ok (.ireturn, 1) := by decide +kernel
theorem dX11_refusalOfLeastOn_0 : decode cX11_refusalOfLeastOn 0 = .ok (.iload_n 1, 1) := by decide +kernel
theorem dX11_refusalOfLeastOn_1 : decode cX11_refusalOfLeastOn 1 = .ok (.ifCond .lt 20, 3) := by decide +kernel
theorem dX11_refusalOfLeastOn_4 : decode cX11_refusalOfLeastOn 4 = .ok (.iload_n 1, 1) := by decide +kernel
theorem dX11_refusalOfLeastOn_5 : decode cX11_refusalOfLeastOn 5 = .ok (.iconst 1, 1) := by decide +kernel
theorem dX11_refusalOfLeastOn_6 : decode cX11_refusalOfLeastOn 6 = .ok (.if_icmp .gt 15, 3) := by decide +kernel
theorem dX11_refusalOfLeastOn_9 : decode cX11_refusalOfLeastOn 9 = .ok (.iload_n 2, 1) := by decide +kernel
theorem dX11_refusalOfLeastOn_10 : decode cX11_refusalOfLeastOn 10 = .ok (.ifCond .lt 11, 3) := by decide +kernel
theorem dX11_refusalOfLeastOn_13 : decode cX11_refusalOfLeastOn 13 = .ok (.iload_n 2, 1) := by decide +kernel
theorem dX11_refusalOfLeastOn_14 : decode cX11_refusalOfLeastOn 14 = .ok (.aload_n 0, 1) := by decide +kernel
theorem dX11_refusalOfLeastOn_15 : decode cX11_refusalOfLeastOn 15 = .ok (.invokevirtual 390, 3) := by decide +kernel
theorem dX11_refusalOfLeastOn_18 : decode cX11_refusalOfLeastOn 18 = .ok (.if_icmp .le 5, 3) := by decide +kernel
theorem dX11_refusalOfLeastOn_21 : decode cX11_refusalOfLeastOn 21 = .ok (.iconst (-1), 1) := by decide +kernel
theorem dX11_refusalOfLeastOn_22 : decode cX11_refusalOfLeastOn 22 = .ok (.ireturn, 1) := by decide +kernel
theorem dX11_refusalOfLeastOn_23 : decode cX11_refusalOfLeastOn 23 = .ok (.aload_n 0, 1) := by decide +kernel
theorem dX11_refusalOfLeastOn_24 : decode cX11_refusalOfLeastOn 24 = .ok (.invokevirtual 390, 3) := by decide +kernel
theorem dX11_refusalOfLeastOn_27 : decode cX11_refusalOfLeastOn 27 = .ok (.bipush 16, 2) := by decide +kernel
theorem dX11_refusalOfLeastOn_29 : decode cX11_refusalOfLeastOn 29 = .ok (.if_icmp .le 8, 3) := by decide +kernel
theorem dX11_refusalOfLeastOn_32 : decode cX11_refusalOfLeastOn 32 = .ok (.bipush (-5), 2) := by decide +kernel
theorem dX11_refusalOfLeastOn_34 : decode cX11_refusalOfLeastOn 34 = .ok (.goto 4, 3) := by decide +kernel
theorem dX11_refusalOfLeastOn_37 : decode cX11_refusalOfLeastOn 37 = .ok (.iconst 0, 1) := by decide +kernel
theorem dX11_refusalOfLeastOn_38 : decode cX11_refusalOfLeastOn 38 = .ok (.ireturn, 1) := by decide +kernel
theorem dX11_meetsOn_0 : decode cX11_meetsOn 0 = .ok (.aload_n 0, 1) := by decide +kernel
theorem dX11_meetsOn_1 : decode cX11_meetsOn 1 = .ok (.iload_n 2, 1) := by decide +kernel
theorem dX11_meetsOn_2 : decode cX11_meetsOn 2 = .ok (.iload_n 3, 1) := by decide +kernel
theorem dX11_meetsOn_3 : decode cX11_meetsOn 3 = .ok (.invokestatic 252, 3) := by decide +kernel
theorem dX11_meetsOn_6 : decode cX11_meetsOn 6 = .ok (.istore 4, 2) := by decide +kernel
theorem dX11_meetsOn_8 : decode cX11_meetsOn 8 = .ok (.iload 4, 2) := by decide +kernel
theorem dX11_meetsOn_10 : decode cX11_meetsOn 10 = .ok (.ifCond .eq 6, 3) := by decide +kernel
theorem dX11_meetsOn_13 : decode cX11_meetsOn 13 = .ok (.iload 4, 2) := by decide +kernel
theorem dX11_meetsOn_15 : decode cX11_meetsOn 15 = .ok (.ireturn, 1) := by decide +kernel
theorem dX11_meetsOn_16 : decode cX11_meetsOn 16 = .ok (.aload_n 0, 1) := by decide +kernel
theorem dX11_meetsOn_17 : decode cX11_meetsOn 17 = .ok (.iload_n 2, 1) := by decide +kernel
theorem dX11_meetsOn_18 : decode cX11_meetsOn 18 = .ok (.aload_n 0, 1) := by decide +kernel
theorem dX11_meetsOn_19 : decode cX11_meetsOn 19 = .ok (.iload_n 2, 1) := by decide +kernel
theorem dX11_meetsOn_20 : decode cX11_meetsOn 20 = .ok (.iload_n 3, 1) := by decide +kernel
theorem dX11_meetsOn_21 : decode cX11_meetsOn 21 = .ok (.aload_n 0, 1) := by decide +kernel
theorem dX11_meetsOn_22 : decode cX11_meetsOn 22 = .ok (.invokevirtual 393, 3) := by decide +kernel
theorem dX11_meetsOn_25 : decode cX11_meetsOn 25 = .ok (.invokevirtual 394, 3) := by decide +kernel
theorem dX11_meetsOn_28 : decode cX11_meetsOn 28 = .ok (.invokevirtual 395, 3) := by decide +kernel
theorem dX11_meetsOn_31 : decode cX11_meetsOn 31 = .ok (.istore 5, 2) := by decide +kernel
theorem dX11_meetsOn_33 : decode cX11_meetsOn 33 = .ok (.aload_n 0, 1) := by decide +kernel
theorem dX11_meetsOn_34 : decode cX11_meetsOn 34 = .ok (.iload_n 2, 1) := by decide +kernel
theorem dX11_meetsOn_35 : decode cX11_meetsOn 35 = .ok (.aload_n 0, 1) := by decide +kernel
theorem dX11_meetsOn_36 : decode cX11_meetsOn 36 = .ok (.iload_n 1, 1) := by decide +kernel
theorem dX11_meetsOn_37 : decode cX11_meetsOn 37 = .ok (.iload_n 3, 1) := by decide +kernel
theorem dX11_meetsOn_38 : decode cX11_meetsOn 38 = .ok (.invokevirtual 396, 3) := by decide +kernel
theorem dX11_meetsOn_41 : decode cX11_meetsOn 41 = .ok (.invokevirtual 395, 3) := by decide +kernel
theorem dX11_meetsOn_44 : decode cX11_meetsOn 44 = .ok (.iload 5, 2) := by decide +kernel
theorem dX11_meetsOn_46 : decode cX11_meetsOn 46 = .ok (.if_icmp .ne 7, 3) := by decide +kernel
theorem dX11_meetsOn_49 : decode cX11_meetsOn 49 = .ok (.iconst 1, 1) := by decide +kernel
theorem dX11_meetsOn_50 : decode cX11_meetsOn 50 = .ok (.goto 4, 3) := by decide +kernel
theorem dX11_meetsOn_53 : decode cX11_meetsOn 53 = .ok (.iconst 0, 1) := by decide +kernel
theorem dX11_meetsOn_54 : decode cX11_meetsOn 54 = .ok (.invokestatic 163, 3) := by decide +kernel
theorem dX11_meetsOn_57 : decode cX11_meetsOn 57 = .ok (.ireturn, 1) := by decide +kernel
theorem dX11_isNoCascade_0 : decode cX11_isNoCascade 0 = .ok (.iload_n 0, 1) := by decide +kernel
theorem dX11_isNoCascade_1 : decode cX11_isNoCascade 1 = .ok (.ifCond .lt 20, 3) := by decide +kernel
theorem dX11_isNoCascade_4 : decode cX11_isNoCascade 4 = .ok (.iload_n 0, 1) := by decide +kernel
theorem dX11_isNoCascade_5 : decode cX11_isNoCascade 5 = .ok (.ldc 236, 2) := by decide +kernel
theorem dX11_isNoCascade_7 : decode cX11_isNoCascade 7 = .ok (.if_icmp .gt 14, 3) := by decide +kernel
theorem dX11_isNoCascade_10 : decode cX11_isNoCascade 10 = .ok (.iload_n 1, 1) := by decide +kernel
theorem dX11_isNoCascade_11 : decode cX11_isNoCascade 11 = .ok (.iconst 1, 1) := by decide +kernel
theorem dX11_isNoCascade_12 : decode cX11_isNoCascade 12 = .ok (.if_icmp .lt 9, 3) := by decide +kernel
theorem dX11_isNoCascade_15 : decode cX11_isNoCascade 15 = .ok (.iload_n 1, 1) := by decide +kernel
theorem dX11_isNoCascade_16 : decode cX11_isNoCascade 16 = .ok (.bipush 12, 2) := by decide +kernel
theorem dX11_isNoCascade_18 : decode cX11_isNoCascade 18 = .ok (.if_icmp .le 7, 3) := by decide +kernel
theorem dX11_isNoCascade_21 : decode cX11_isNoCascade 21 = .ok (.iconst 1, 1) := by decide +kernel
theorem dX11_isNoCascade_22 : decode cX11_isNoCascade 22 = .ok (.goto 4, 3) := by decide +kernel
theorem dX11_isNoCascade_25 : decode cX11_isNoCascade 25 = .ok (.iconst 0, 1) := by decide +kernel
theorem dX11_isNoCascade_26 : decode cX11_isNoCascade 26 = .ok (.ireturn, 1) := by decide +kernel
theorem dX11_faultOnTape_0 : decode cX11_faultOnTape 0 = .ok (.iconst (-1), 1) := by decide +kernel
theorem dX11_faultOnTape_1 : decode cX11_faultOnTape 1 = .ok (.istore_n 1, 1) := by decide +kernel
theorem dX11_faultOnTape_2 : decode cX11_faultOnTape 2 = .ok (.bipush 6, 2) := by decide +kernel
theorem dX11_faultOnTape_4 : decode cX11_faultOnTape 4 = .ok (.istore_n 2, 1) := by decide +kernel
theorem dX11_faultOnTape_5 : decode cX11_faultOnTape 5 = .ok (.iload_n 1, 1) := by decide +kernel
theorem dX11_faultOnTape_6 : decode cX11_faultOnTape 6 = .ok (.istore_n 3, 1) := by decide +kernel
theorem dX11_faultOnTape_7 : decode cX11_faultOnTape 7 = .ok (.iconst 0, 1) := by decide +kernel
theorem dX11_faultOnTape_8 : decode cX11_faultOnTape 8 = .ok (.istore 4, 2) := by decide +kernel
theorem dX11_faultOnTape_10 : decode cX11_faultOnTape 10 = .ok (.iload 4, 2) := by decide +kernel
theorem dX11_faultOnTape_12 : decode cX11_faultOnTape 12 = .ok (.aload_n 0, 1) := by decide +kernel
theorem dX11_faultOnTape_13 : decode cX11_faultOnTape 13 = .ok (.getfield 61, 3) := by decide +kernel
theorem dX11_faultOnTape_16 : decode cX11_faultOnTape 16 = .ok (.invokevirtual 296, 3) := by decide +kernel
theorem dX11_faultOnTape_19 : decode cX11_faultOnTape 19 = .ok (.if_icmp .ge 90, 3) := by decide +kernel
theorem dX11_faultOnTape_22 : decode cX11_faultOnTape 22 = .ok (.aload_n 0, 1) := by decide +kernel
theorem dX11_faultOnTape_23 : decode cX11_faultOnTape 23 = .ok (.getfield 61, 3) := by decide +kernel
theorem dX11_faultOnTape_26 : decode cX11_faultOnTape 26 = .ok (.iload 4, 2) := by decide +kernel
theorem dX11_faultOnTape_28 : decode cX11_faultOnTape 28 = .ok (.invokevirtual 309, 3) := by decide +kernel
theorem dX11_faultOnTape_31 : decode cX11_faultOnTape 31 = .ok (.istore 5, 2) := by decide +kernel
theorem dX11_faultOnTape_33 : decode cX11_faultOnTape 33 = .ok (.iload 5, 2) := by decide +kernel
theorem dX11_faultOnTape_35 : decode cX11_faultOnTape 35 = .ok (.bipush 44, 2) := by decide +kernel
theorem dX11_faultOnTape_37 : decode cX11_faultOnTape 37 = .ok (.if_icmp .ne 13, 3) := by decide +kernel
theorem dX11_faultOnTape_40 : decode cX11_faultOnTape 40 = .ok (.iload_n 3, 1) := by decide +kernel
theorem dX11_faultOnTape_41 : decode cX11_faultOnTape 41 = .ok (.iload_n 1, 1) := by decide +kernel
theorem dX11_faultOnTape_42 : decode cX11_faultOnTape 42 = .ok (.if_icmp .eq 8, 3) := by decide +kernel
theorem dX11_faultOnTape_45 : decode cX11_faultOnTape 45 = .ok (.iload_n 1, 1) := by decide +kernel
theorem dX11_faultOnTape_46 : decode cX11_faultOnTape 46 = .ok (.istore_n 3, 1) := by decide +kernel
theorem dX11_faultOnTape_47 : decode cX11_faultOnTape 47 = .ok (.goto 56, 3) := by decide +kernel
theorem dX11_faultOnTape_50 : decode cX11_faultOnTape 50 = .ok (.iload 5, 2) := by decide +kernel
theorem dX11_faultOnTape_52 : decode cX11_faultOnTape 52 = .ok (.bipush 48, 2) := by decide +kernel
theorem dX11_faultOnTape_54 : decode cX11_faultOnTape 54 = .ok (.if_icmp .ne 13, 3) := by decide +kernel
theorem dX11_faultOnTape_57 : decode cX11_faultOnTape 57 = .ok (.iload_n 3, 1) := by decide +kernel
theorem dX11_faultOnTape_58 : decode cX11_faultOnTape 58 = .ok (.iload_n 1, 1) := by decide +kernel
theorem dX11_faultOnTape_59 : decode cX11_faultOnTape 59 = .ok (.if_icmp .ne 8, 3) := by decide +kernel
theorem dX11_faultOnTape_62 : decode cX11_faultOnTape 62 = .ok (.iload_n 2, 1) := by decide +kernel
theorem dX11_faultOnTape_63 : decode cX11_faultOnTape 63 = .ok (.istore_n 3, 1) := by decide +kernel
theorem dX11_faultOnTape_64 : decode cX11_faultOnTape 64 = .ok (.goto 39, 3) := by decide +kernel
theorem dX11_faultOnTape_67 : decode cX11_faultOnTape 67 = .ok (.iload 5, 2) := by decide +kernel
theorem dX11_faultOnTape_69 : decode cX11_faultOnTape 69 = .ok (.bipush 97, 2) := by decide +kernel
theorem dX11_faultOnTape_71 : decode cX11_faultOnTape 71 = .ok (.isub, 1) := by decide +kernel
theorem dX11_faultOnTape_72 : decode cX11_faultOnTape 72 = .ok (.iload_n 3, 1) := by decide +kernel
theorem dX11_faultOnTape_73 : decode cX11_faultOnTape 73 = .ok (.if_icmp .le 27, 3) := by decide +kernel
theorem dX11_faultOnTape_76 : decode cX11_faultOnTape 76 = .ok (.iload 5, 2) := by decide +kernel
theorem dX11_faultOnTape_78 : decode cX11_faultOnTape 78 = .ok (.bipush 97, 2) := by decide +kernel
theorem dX11_faultOnTape_80 : decode cX11_faultOnTape 80 = .ok (.isub, 1) := by decide +kernel
theorem dX11_faultOnTape_81 : decode cX11_faultOnTape 81 = .ok (.aload_n 0, 1) := by decide +kernel
theorem dX11_faultOnTape_82 : decode cX11_faultOnTape 82 = .ok (.getfield 12, 3) := by decide +kernel
theorem dX11_faultOnTape_85 : decode cX11_faultOnTape 85 = .ok (.invokevirtual 82, 3) := by decide +kernel
theorem dX11_faultOnTape_88 : decode cX11_faultOnTape 88 = .ok (.if_icmp .ge 12, 3) := by decide +kernel
theorem dX11_faultOnTape_91 : decode cX11_faultOnTape 91 = .ok (.iload 5, 2) := by decide +kernel
theorem dX11_faultOnTape_93 : decode cX11_faultOnTape 93 = .ok (.bipush 97, 2) := by decide +kernel
theorem dX11_faultOnTape_95 : decode cX11_faultOnTape 95 = .ok (.isub, 1) := by decide +kernel
theorem dX11_faultOnTape_96 : decode cX11_faultOnTape 96 = .ok (.istore_n 3, 1) := by decide +kernel
theorem dX11_faultOnTape_97 : decode cX11_faultOnTape 97 = .ok (.goto 6, 3) := by decide +kernel
theorem dX11_faultOnTape_100 : decode cX11_faultOnTape 100 = .ok (.iload 4, 2) := by decide +kernel
theorem dX11_faultOnTape_102 : decode cX11_faultOnTape 102 = .ok (.ireturn, 1) := by decide +kernel
theorem dX11_faultOnTape_103 : decode cX11_faultOnTape 103 = .ok (.iinc 4 1, 3) := by decide +kernel
theorem dX11_faultOnTape_106 : decode cX11_faultOnTape 106 = .ok (.goto (-96), 3) := by decide +kernel
theorem dX11_faultOnTape_109 : decode cX11_faultOnTape 109 = .ok (.iload_n 3, 1) := by decide +kernel
theorem dX11_faultOnTape_110 : decode cX11_faultOnTape 110 = .ok (.iload_n 1, 1) := by decide +kernel
theorem dX11_faultOnTape_111 : decode cX11_faultOnTape 111 = .ok (.if_icmp .ne 13, 3) := by decide +kernel
theorem dX11_faultOnTape_114 : decode cX11_faultOnTape 114 = .ok (.aload_n 0, 1) := by decide +kernel
theorem dX11_faultOnTape_115 : decode cX11_faultOnTape 115 = .ok (.getfield 61, 3) := by decide +kernel
theorem dX11_faultOnTape_118 : decode cX11_faultOnTape 118 = .ok (.invokevirtual 296, 3) := by decide +kernel
theorem dX11_faultOnTape_121 : decode cX11_faultOnTape 121 = .ok (.goto 4, 3) := by decide +kernel
theorem dX11_faultOnTape_124 : decode cX11_faultOnTape 124 = .ok (.iconst (-1), 1) := by decide +kernel
theorem dX11_faultOnTape_125 : decode cX11_faultOnTape 125 = .ok (.ireturn, 1) := by decide +kernel
theorem dX11_setsOnTape_0 : decode cX11_setsOnTape 0 = .ok (.lconst 0, 1) := by decide +kernel
theorem dX11_setsOnTape_1 : decode cX11_setsOnTape 1 = .ok (.lstore_n 1, 1) := by decide +kernel
theorem dX11_setsOnTape_2 : decode cX11_setsOnTape 2 = .ok (.iconst 0, 1) := by decide +kernel
theorem dX11_setsOnTape_3 : decode cX11_setsOnTape 3 = .ok (.istore_n 3, 1) := by decide +kernel
theorem dX11_setsOnTape_4 : decode cX11_setsOnTape 4 = .ok (.iconst 0, 1) := by decide +kernel
theorem dX11_setsOnTape_5 : decode cX11_setsOnTape 5 = .ok (.istore 4, 2) := by decide +kernel
theorem dX11_setsOnTape_7 : decode cX11_setsOnTape 7 = .ok (.iload 4, 2) := by decide +kernel
theorem dX11_setsOnTape_9 : decode cX11_setsOnTape 9 = .ok (.aload_n 0, 1) := by decide +kernel
theorem dX11_setsOnTape_10 : decode cX11_setsOnTape 10 = .ok (.getfield 61, 3) := by decide +kernel
theorem dX11_setsOnTape_13 : decode cX11_setsOnTape 13 = .ok (.invokevirtual 296, 3) := by decide +kernel
theorem dX11_setsOnTape_16 : decode cX11_setsOnTape 16 = .ok (.if_icmp .ge 55, 3) := by decide +kernel
theorem dX11_setsOnTape_19 : decode cX11_setsOnTape 19 = .ok (.aload_n 0, 1) := by decide +kernel
theorem dX11_setsOnTape_20 : decode cX11_setsOnTape 20 = .ok (.getfield 61, 3) := by decide +kernel
theorem dX11_setsOnTape_23 : decode cX11_setsOnTape 23 = .ok (.iload 4, 2) := by decide +kernel
theorem dX11_setsOnTape_25 : decode cX11_setsOnTape 25 = .ok (.invokevirtual 309, 3) := by decide +kernel
theorem dX11_setsOnTape_28 : decode cX11_setsOnTape 28 = .ok (.istore 5, 2) := by decide +kernel
theorem dX11_setsOnTape_30 : decode cX11_setsOnTape 30 = .ok (.iload 5, 2) := by decide +kernel
theorem dX11_setsOnTape_32 : decode cX11_setsOnTape 32 = .ok (.bipush 44, 2) := by decide +kernel
theorem dX11_setsOnTape_34 : decode cX11_setsOnTape 34 = .ok (.if_icmp .ne 14, 3) := by decide +kernel
theorem dX11_setsOnTape_37 : decode cX11_setsOnTape 37 = .ok (.lload_n 1, 1) := by decide +kernel
theorem dX11_setsOnTape_38 : decode cX11_setsOnTape 38 = .ok (.lconst 1, 1) := by decide +kernel
theorem dX11_setsOnTape_39 : decode cX11_setsOnTape 39 = .ok (.iload_n 3, 1) := by decide +kernel
theorem dX11_setsOnTape_40 : decode cX11_setsOnTape 40 = .ok (.lshl, 1) := by decide +kernel
theorem dX11_setsOnTape_41 : decode cX11_setsOnTape 41 = .ok (.lor, 1) := by decide +kernel
theorem dX11_setsOnTape_42 : decode cX11_setsOnTape 42 = .ok (.lstore_n 1, 1) := by decide +kernel
theorem dX11_setsOnTape_43 : decode cX11_setsOnTape 43 = .ok (.iconst 0, 1) := by decide +kernel
theorem dX11_setsOnTape_44 : decode cX11_setsOnTape 44 = .ok (.istore_n 3, 1) := by decide +kernel
theorem dX11_setsOnTape_45 : decode cX11_setsOnTape 45 = .ok (.goto 20, 3) := by decide +kernel
theorem dX11_setsOnTape_48 : decode cX11_setsOnTape 48 = .ok (.iload 5, 2) := by decide +kernel
theorem dX11_setsOnTape_50 : decode cX11_setsOnTape 50 = .ok (.bipush 48, 2) := by decide +kernel
theorem dX11_setsOnTape_52 : decode cX11_setsOnTape 52 = .ok (.if_icmp .eq 13, 3) := by decide +kernel
theorem dX11_setsOnTape_55 : decode cX11_setsOnTape 55 = .ok (.iload_n 3, 1) := by decide +kernel
theorem dX11_setsOnTape_56 : decode cX11_setsOnTape 56 = .ok (.iconst 1, 1) := by decide +kernel
theorem dX11_setsOnTape_57 : decode cX11_setsOnTape 57 = .ok (.iload 5, 2) := by decide +kernel
theorem dX11_setsOnTape_59 : decode cX11_setsOnTape 59 = .ok (.bipush 97, 2) := by decide +kernel
theorem dX11_setsOnTape_61 : decode cX11_setsOnTape 61 = .ok (.isub, 1) := by decide +kernel
theorem dX11_setsOnTape_62 : decode cX11_setsOnTape 62 = .ok (.ishl, 1) := by decide +kernel
theorem dX11_setsOnTape_63 : decode cX11_setsOnTape 63 = .ok (.ior, 1) := by decide +kernel
theorem dX11_setsOnTape_64 : decode cX11_setsOnTape 64 = .ok (.istore_n 3, 1) := by decide +kernel
theorem dX11_setsOnTape_65 : decode cX11_setsOnTape 65 = .ok (.iinc 4 1, 3) := by decide +kernel
theorem dX11_setsOnTape_68 : decode cX11_setsOnTape 68 = .ok (.goto (-61), 3) := by decide +kernel
theorem dX11_setsOnTape_71 : decode cX11_setsOnTape 71 = .ok (.lload_n 1, 1) := by decide +kernel
theorem dX11_setsOnTape_72 : decode cX11_setsOnTape 72 = .ok (.lconst 1, 1) := by decide +kernel
theorem dX11_setsOnTape_73 : decode cX11_setsOnTape 73 = .ok (.iload_n 3, 1) := by decide +kernel
theorem dX11_setsOnTape_74 : decode cX11_setsOnTape 74 = .ok (.lshl, 1) := by decide +kernel
theorem dX11_setsOnTape_75 : decode cX11_setsOnTape 75 = .ok (.lor, 1) := by decide +kernel
theorem dX11_setsOnTape_76 : decode cX11_setsOnTape 76 = .ok (.lreturn, 1) := by decide +kernel
theorem dX11_writeSet_0 : decode cX11_writeSet 0 = .ok (.aload_n 0, 1) := by decide +kernel
theorem dX11_writeSet_1 : decode cX11_writeSet 1 = .ok (.getfield 65, 3) := by decide +kernel
theorem dX11_writeSet_4 : decode cX11_writeSet 4 = .ok (.invokevirtual 296, 3) := by decide +kernel
theorem dX11_writeSet_7 : decode cX11_writeSet 7 = .ok (.ifCond .le 13, 3) := by decide +kernel
theorem dX11_writeSet_10 : decode cX11_writeSet 10 = .ok (.aload_n 0, 1) := by decide +kernel
theorem dX11_writeSet_11 : decode cX11_writeSet 11 = .ok (.getfield 65, 3) := by decide +kernel
theorem dX11_writeSet_14 : decode cX11_writeSet 14 = .ok (.bipush 44, 2) := by decide +kernel
theorem dX11_writeSet_16 : decode cX11_writeSet 16 = .ok (.invokevirtual 293, 3) := by decide +kernel
theorem dX11_writeSet_19 : decode cX11_writeSet 19 = .ok (.pop, 1) := by decide +kernel
theorem dX11_writeSet_20 : decode cX11_writeSet 20 = .ok (.iload_n 1, 1) := by decide +kernel
theorem dX11_writeSet_21 : decode cX11_writeSet 21 = .ok (.ifCond .ne 13, 3) := by decide +kernel
theorem dX11_writeSet_24 : decode cX11_writeSet 24 = .ok (.aload_n 0, 1) := by decide +kernel
theorem dX11_writeSet_25 : decode cX11_writeSet 25 = .ok (.getfield 65, 3) := by decide +kernel
theorem dX11_writeSet_28 : decode cX11_writeSet 28 = .ok (.bipush 48, 2) := by decide +kernel
theorem dX11_writeSet_30 : decode cX11_writeSet 30 = .ok (.invokevirtual 293, 3) := by decide +kernel
theorem dX11_writeSet_33 : decode cX11_writeSet 33 = .ok (.pop, 1) := by decide +kernel
theorem dX11_writeSet_34 : decode cX11_writeSet 34 = .ok (.iconst 0, 1) := by decide +kernel
theorem dX11_writeSet_35 : decode cX11_writeSet 35 = .ok (.istore_n 2, 1) := by decide +kernel
theorem dX11_writeSet_36 : decode cX11_writeSet 36 = .ok (.iload_n 2, 1) := by decide +kernel
theorem dX11_writeSet_37 : decode cX11_writeSet 37 = .ok (.aload_n 0, 1) := by decide +kernel
theorem dX11_writeSet_38 : decode cX11_writeSet 38 = .ok (.getfield 12, 3) := by decide +kernel
theorem dX11_writeSet_41 : decode cX11_writeSet 41 = .ok (.invokevirtual 82, 3) := by decide +kernel
theorem dX11_writeSet_44 : decode cX11_writeSet 44 = .ok (.if_icmp .ge 29, 3) := by decide +kernel
theorem dX11_writeSet_47 : decode cX11_writeSet 47 = .ok (.iload_n 1, 1) := by decide +kernel
theorem dX11_writeSet_48 : decode cX11_writeSet 48 = .ok (.iload_n 2, 1) := by decide +kernel
theorem dX11_writeSet_49 : decode cX11_writeSet 49 = .ok (.iushr, 1) := by decide +kernel
theorem dX11_writeSet_50 : decode cX11_writeSet 50 = .ok (.iconst 1, 1) := by decide +kernel
theorem dX11_writeSet_51 : decode cX11_writeSet 51 = .ok (.iand, 1) := by decide +kernel
theorem dX11_writeSet_52 : decode cX11_writeSet 52 = .ok (.ifCond .eq 15, 3) := by decide +kernel
theorem dX11_writeSet_55 : decode cX11_writeSet 55 = .ok (.aload_n 0, 1) := by decide +kernel
theorem dX11_writeSet_56 : decode cX11_writeSet 56 = .ok (.getfield 65, 3) := by decide +kernel
theorem dX11_writeSet_59 : decode cX11_writeSet 59 = .ok (.bipush 97, 2) := by decide +kernel
theorem dX11_writeSet_61 : decode cX11_writeSet 61 = .ok (.iload_n 2, 1) := by decide +kernel
theorem dX11_writeSet_62 : decode cX11_writeSet 62 = .ok (.iadd, 1) := by decide +kernel
theorem dX11_writeSet_63 : decode cX11_writeSet 63 = .ok (.invokevirtual 293, 3) := by decide +kernel
theorem dX11_writeSet_66 : decode cX11_writeSet 66 = .ok (.pop, 1) := by decide +kernel
theorem dX11_writeSet_67 : decode cX11_writeSet 67 = .ok (.iinc 2 1, 3) := by decide +kernel
theorem dX11_writeSet_70 : decode cX11_writeSet 70 = .ok (.goto (-34), 3) := by decide +kernel
theorem dX11_writeSet_73 : decode cX11_writeSet 73 = .ok (.return_, 1) := by decide +kernel
theorem dX11_shelfAt_0 : decode cX11_shelfAt 0 = .ok (.iload_n 1, 1) := by decide +kernel
theorem dX11_shelfAt_1 : decode cX11_shelfAt 1 = .ok (.ifCond .lt 21, 3) := by decide +kernel
theorem dX11_shelfAt_4 : decode cX11_shelfAt 4 = .ok (.iload_n 1, 1) := by decide +kernel
theorem dX11_shelfAt_5 : decode cX11_shelfAt 5 = .ok (.aload_n 0, 1) := by decide +kernel
theorem dX11_shelfAt_6 : decode cX11_shelfAt 6 = .ok (.getfield 70, 3) := by decide +kernel
theorem dX11_shelfAt_9 : decode cX11_shelfAt 9 = .ok (.arraylength, 1) := by decide +kernel
theorem dX11_shelfAt_10 : decode cX11_shelfAt 10 = .ok (.if_icmp .ge 12, 3) := by decide +kernel
theorem dX11_shelfAt_13 : decode cX11_shelfAt 13 = .ok (.aload_n 0, 1) := by decide +kernel
theorem dX11_shelfAt_14 : decode cX11_shelfAt 14 = .ok (.getfield 70, 3) := by decide +kernel
theorem dX11_shelfAt_17 : decode cX11_shelfAt 17 = .ok (.iload_n 1, 1) := by decide +kernel
theorem dX11_shelfAt_18 : decode cX11_shelfAt 18 = .ok (.aaload, 1) := by decide +kernel
theorem dX11_shelfAt_19 : decode cX11_shelfAt 19 = .ok (.goto 4, 3) := by decide +kernel
theorem dX11_shelfAt_22 : decode cX11_shelfAt 22 = .ok (.aconst_null, 1) := by decide +kernel
theorem dX11_shelfAt_23 : decode cX11_shelfAt 23 = .ok (.areturn, 1) := by decide +kernel
theorem dX11_listAt_0 : decode cX11_listAt 0 = .ok (.iload_n 1, 1) := by decide +kernel
theorem dX11_listAt_1 : decode cX11_listAt 1 = .ok (.ifCond .lt 21, 3) := by decide +kernel
theorem dX11_listAt_4 : decode cX11_listAt 4 = .ok (.iload_n 1, 1) := by decide +kernel
theorem dX11_listAt_5 : decode cX11_listAt 5 = .ok (.aload_n 0, 1) := by decide +kernel
theorem dX11_listAt_6 : decode cX11_listAt 6 = .ok (.getfield 76, 3) := by decide +kernel
theorem dX11_listAt_9 : decode cX11_listAt 9 = .ok (.arraylength, 1) := by decide +kernel
theorem dX11_listAt_10 : decode cX11_listAt 10 = .ok (.if_icmp .ge 12, 3) := by decide +kernel
theorem dX11_listAt_13 : decode cX11_listAt 13 = .ok (.aload_n 0, 1) := by decide +kernel
theorem dX11_listAt_14 : decode cX11_listAt 14 = .ok (.getfield 76, 3) := by decide +kernel
theorem dX11_listAt_17 : decode cX11_listAt 17 = .ok (.iload_n 1, 1) := by decide +kernel
theorem dX11_listAt_18 : decode cX11_listAt 18 = .ok (.aaload, 1) := by decide +kernel
theorem dX11_listAt_19 : decode cX11_listAt 19 = .ok (.goto 4, 3) := by decide +kernel
theorem dX11_listAt_22 : decode cX11_listAt 22 = .ok (.aconst_null, 1) := by decide +kernel
theorem dX11_listAt_23 : decode cX11_listAt 23 = .ok (.areturn, 1) := by decide +kernel
theorem dX11_shelvesThere_0 : decode cX11_shelvesThere 0 = .ok (.iconst 0, 1) := by decide +kernel
theorem dX11_shelvesThere_1 : decode cX11_shelvesThere 1 = .ok (.istore_n 1, 1) := by decide +kernel
theorem dX11_shelvesThere_2 : decode cX11_shelvesThere 2 = .ok (.aload_n 0, 1) := by decide +kernel
theorem dX11_shelvesThere_3 : decode cX11_shelvesThere 3 = .ok (.getfield 70, 3) := by decide +kernel
theorem dX11_shelvesThere_6 : decode cX11_shelvesThere 6 = .ok (.astore_n 2, 1) := by decide +kernel
theorem dX11_shelvesThere_7 : decode cX11_shelvesThere 7 = .ok (.aload_n 2, 1) := by decide +kernel
theorem dX11_shelvesThere_8 : decode cX11_shelvesThere 8 = .ok (.arraylength, 1) := by decide +kernel
theorem dX11_shelvesThere_9 : decode cX11_shelvesThere 9 = .ok (.istore_n 3, 1) := by decide +kernel
theorem dX11_shelvesThere_10 : decode cX11_shelvesThere 10 = .ok (.iconst 0, 1) := by decide +kernel
theorem dX11_shelvesThere_11 : decode cX11_shelvesThere 11 = .ok (.istore 4, 2) := by decide +kernel
theorem dX11_shelvesThere_13 : decode cX11_shelvesThere 13 = .ok (.iload 4, 2) := by decide +kernel
theorem dX11_shelvesThere_15 : decode cX11_shelvesThere 15 = .ok (.iload_n 3, 1) := by decide +kernel
theorem dX11_shelvesThere_16 : decode cX11_shelvesThere 16 = .ok (.if_icmp .ge 31, 3) := by decide +kernel
theorem dX11_shelvesThere_19 : decode cX11_shelvesThere 19 = .ok (.aload_n 2, 1) := by decide +kernel
theorem dX11_shelvesThere_20 : decode cX11_shelvesThere 20 = .ok (.iload 4, 2) := by decide +kernel
theorem dX11_shelvesThere_22 : decode cX11_shelvesThere 22 = .ok (.aaload, 1) := by decide +kernel
theorem dX11_shelvesThere_23 : decode cX11_shelvesThere 23 = .ok (.astore 5, 2) := by decide +kernel
theorem dX11_shelvesThere_25 : decode cX11_shelvesThere 25 = .ok (.aload 5, 2) := by decide +kernel
theorem dX11_shelvesThere_27 : decode cX11_shelvesThere 27 = .ok (.ifnull 14, 3) := by decide +kernel
theorem dX11_shelvesThere_30 : decode cX11_shelvesThere 30 = .ok (.aload 5, 2) := by decide +kernel
theorem dX11_shelvesThere_32 : decode cX11_shelvesThere 32 = .ok (.invokevirtual 318, 3) := by decide +kernel
theorem dX11_shelvesThere_35 : decode cX11_shelvesThere 35 = .ok (.ifCond .ne 6, 3) := by decide +kernel
theorem dX11_shelvesThere_38 : decode cX11_shelvesThere 38 = .ok (.iinc 1 1, 3) := by decide +kernel
theorem dX11_shelvesThere_41 : decode cX11_shelvesThere 41 = .ok (.iinc 4 1, 3) := by decide +kernel
theorem dX11_shelvesThere_44 : decode cX11_shelvesThere 44 = .ok (.goto (-31), 3) := by decide +kernel
theorem dX11_shelvesThere_47 : decode cX11_shelvesThere 47 = .ok (.iload_n 1, 1) := by decide +kernel
theorem dX11_shelvesThere_48 : decode cX11_shelvesThere 48 = .ok (.ireturn, 1) := by decide +kernel
theorem dX11_listsThere_0 : decode cX11_listsThere 0 = .ok (.iconst 0, 1) := by decide +kernel
theorem dX11_listsThere_1 : decode cX11_listsThere 1 = .ok (.istore_n 1, 1) := by decide +kernel
theorem dX11_listsThere_2 : decode cX11_listsThere 2 = .ok (.aload_n 0, 1) := by decide +kernel
theorem dX11_listsThere_3 : decode cX11_listsThere 3 = .ok (.getfield 76, 3) := by decide +kernel
theorem dX11_listsThere_6 : decode cX11_listsThere 6 = .ok (.astore_n 2, 1) := by decide +kernel
theorem dX11_listsThere_7 : decode cX11_listsThere 7 = .ok (.aload_n 2, 1) := by decide +kernel
theorem dX11_listsThere_8 : decode cX11_listsThere 8 = .ok (.arraylength, 1) := by decide +kernel
theorem dX11_listsThere_9 : decode cX11_listsThere 9 = .ok (.istore_n 3, 1) := by decide +kernel
theorem dX11_listsThere_10 : decode cX11_listsThere 10 = .ok (.iconst 0, 1) := by decide +kernel
theorem dX11_listsThere_11 : decode cX11_listsThere 11 = .ok (.istore 4, 2) := by decide +kernel
theorem dX11_listsThere_13 : decode cX11_listsThere 13 = .ok (.iload 4, 2) := by decide +kernel
theorem dX11_listsThere_15 : decode cX11_listsThere 15 = .ok (.iload_n 3, 1) := by decide +kernel
theorem dX11_listsThere_16 : decode cX11_listsThere 16 = .ok (.if_icmp .ge 31, 3) := by decide +kernel
theorem dX11_listsThere_19 : decode cX11_listsThere 19 = .ok (.aload_n 2, 1) := by decide +kernel
theorem dX11_listsThere_20 : decode cX11_listsThere 20 = .ok (.iload 4, 2) := by decide +kernel
theorem dX11_listsThere_22 : decode cX11_listsThere 22 = .ok (.aaload, 1) := by decide +kernel
theorem dX11_listsThere_23 : decode cX11_listsThere 23 = .ok (.astore 5, 2) := by decide +kernel
theorem dX11_listsThere_25 : decode cX11_listsThere 25 = .ok (.aload 5, 2) := by decide +kernel
theorem dX11_listsThere_27 : decode cX11_listsThere 27 = .ok (.ifnull 14, 3) := by decide +kernel
theorem dX11_listsThere_30 : decode cX11_listsThere 30 = .ok (.aload 5, 2) := by decide +kernel
theorem dX11_listsThere_32 : decode cX11_listsThere 32 = .ok (.invokevirtual 280, 3) := by decide +kernel
theorem dX11_listsThere_35 : decode cX11_listsThere 35 = .ok (.ifCond .ne 6, 3) := by decide +kernel
theorem dX11_listsThere_38 : decode cX11_listsThere 38 = .ok (.iinc 1 1, 3) := by decide +kernel
theorem dX11_listsThere_41 : decode cX11_listsThere 41 = .ok (.iinc 4 1, 3) := by decide +kernel
theorem dX11_listsThere_44 : decode cX11_listsThere 44 = .ok (.goto (-31), 3) := by decide +kernel
theorem dX11_listsThere_47 : decode cX11_listsThere 47 = .ok (.iload_n 1, 1) := by decide +kernel
theorem dX11_listsThere_48 : decode cX11_listsThere 48 = .ok (.ireturn, 1) := by decide +kernel
theorem dX11_choices_0 : decode cX11_choices 0 = .ok (.iload_n 2, 1) := by decide +kernel
theorem dX11_choices_1 : decode cX11_choices 1 = .ok (.ifCond .lt 10, 3) := by decide +kernel
theorem dX11_choices_4 : decode cX11_choices 4 = .ok (.iload_n 2, 1) := by decide +kernel
theorem dX11_choices_5 : decode cX11_choices 5 = .ok (.i2l, 1) := by decide +kernel
theorem dX11_choices_6 : decode cX11_choices 6 = .ok (.lload_n 0, 1) := by decide +kernel
theorem dX11_choices_7 : decode cX11_choices 7 = .ok (.lcmp, 1) := by decide +kernel
theorem dX11_choices_8 : decode cX11_choices 8 = .ok (.ifCond .le 5, 3) := by decide +kernel
theorem dX11_choices_11 : decode cX11_choices 11 = .ok (.lconst 0, 1) := by decide +kernel
theorem dX11_choices_12 : decode cX11_choices 12 = .ok (.lreturn, 1) := by decide +kernel
theorem dX11_choices_13 : decode cX11_choices 13 = .ok (.iload_n 2, 1) := by decide +kernel
theorem dX11_choices_14 : decode cX11_choices 14 = .ok (.i2l, 1) := by decide +kernel
theorem dX11_choices_15 : decode cX11_choices 15 = .ok (.lload_n 0, 1) := by decide +kernel
theorem dX11_choices_16 : decode cX11_choices 16 = .ok (.iload_n 2, 1) := by decide +kernel
theorem dX11_choices_17 : decode cX11_choices 17 = .ok (.i2l, 1) := by decide +kernel
theorem dX11_choices_18 : decode cX11_choices 18 = .ok (.lsub, 1) := by decide +kernel
theorem dX11_choices_19 : decode cX11_choices 19 = .ok (.invokestatic 397, 3) := by decide +kernel
theorem dX11_choices_22 : decode cX11_choices 22 = .ok (.lstore_n 3, 1) := by decide +kernel
theorem dX11_choices_23 : decode cX11_choices 23 = .ok (.lconst 1, 1) := by decide +kernel
theorem dX11_choices_24 : decode cX11_choices 24 = .ok (.lstore 5, 2) := by decide +kernel
theorem dX11_choices_26 : decode cX11_choices 26 = .ok (.iconst 1, 1) := by decide +kernel
theorem dX11_choices_27 : decode cX11_choices 27 = .ok (.istore 7, 2) := by decide +kernel
theorem dX11_choices_29 : decode cX11_choices 29 = .ok (.iload 7, 2) := by decide +kernel
theorem dX11_choices_31 : decode cX11_choices 31 = .ok (.i2l, 1) := by decide +kernel
theorem dX11_choices_32 : decode cX11_choices 32 = .ok (.lload_n 3, 1) := by decide +kernel
theorem dX11_choices_33 : decode cX11_choices 33 = .ok (.lcmp, 1) := by decide +kernel
theorem dX11_choices_34 : decode cX11_choices 34 = .ok (.ifCond .gt 38, 3) := by decide +kernel
theorem dX11_choices_37 : decode cX11_choices 37 = .ok (.lload 5, 2) := by decide +kernel
theorem dX11_choices_39 : decode cX11_choices 39 = .ok (.lload_n 0, 1) := by decide +kernel
theorem dX11_choices_40 : decode cX11_choices 40 = .ok (.lload_n 3, 1) := by decide +kernel
theorem dX11_choices_41 : decode cX11_choices 41 = .ok (.lsub, 1) := by decide +kernel
theorem dX11_choices_42 : decode cX11_choices 42 = .ok (.iload 7, 2) := by decide +kernel
theorem dX11_choices_44 : decode cX11_choices 44 = .ok (.i2l, 1) := by decide +kernel
theorem dX11_choices_45 : decode cX11_choices 45 = .ok (.ladd, 1) := by decide +kernel
theorem dX11_choices_46 : decode cX11_choices 46 = .ok (.lmul, 1) := by decide +kernel
theorem dX11_choices_47 : decode cX11_choices 47 = .ok (.iload 7, 2) := by decide +kernel
theorem dX11_choices_49 : decode cX11_choices 49 = .ok (.i2l, 1) := by decide +kernel
theorem dX11_choices_50 : decode cX11_choices 50 = .ok (.ldiv, 1) := by decide +kernel
theorem dX11_choices_51 : decode cX11_choices 51 = .ok (.lstore 5, 2) := by decide +kernel
theorem dX11_choices_53 : decode cX11_choices 53 = .ok (.lload 5, 2) := by decide +kernel
theorem dX11_choices_55 : decode cX11_choices 55 = .ok (.ldc2_w 403, 3) := by decide +kernel
theorem dX11_choices_58 : decode cX11_choices 58 = .ok (.lcmp, 1) := by decide +kernel
theorem dX11_choices_59 : decode cX11_choices 59 = .ok (.ifCond .le 7, 3) := by decide +kernel
theorem dX11_choices_62 : decode cX11_choices 62 = .ok (.ldc2_w 405, 3) := by decide +kernel
theorem dX11_choices_65 : decode cX11_choices 65 = .ok (.lreturn, 1) := by decide +kernel
theorem dX11_choices_66 : decode cX11_choices 66 = .ok (.iinc 7 1, 3) := by decide +kernel
theorem dX11_choices_69 : decode cX11_choices 69 = .ok (.goto (-40), 3) := by decide +kernel
theorem dX11_choices_72 : decode cX11_choices 72 = .ok (.lload 5, 2) := by decide +kernel
theorem dX11_choices_74 : decode cX11_choices 74 = .ok (.lreturn, 1) := by decide +kernel
theorem dX11_bitsOfFloat_0 : decode cX11_bitsOfFloat 0 = .ok (.fload_n 0, 1) := by decide +kernel
theorem dX11_bitsOfFloat_1 : decode cX11_bitsOfFloat 1 = .ok (.fconst 0, 1) := by decide +kernel
theorem dX11_bitsOfFloat_2 : decode cX11_bitsOfFloat 2 = .ok (.fcmp .l, 1) := by decide +kernel
theorem dX11_bitsOfFloat_3 : decode cX11_bitsOfFloat 3 = .ok (.ifCond .gt 5, 3) := by decide +kernel
theorem dX11_bitsOfFloat_6 : decode cX11_bitsOfFloat 6 = .ok (.lconst 0, 1) := by decide +kernel
theorem dX11_bitsOfFloat_7 : decode cX11_bitsOfFloat 7 = .ok (.lreturn, 1) := by decide +kernel
theorem dX11_bitsOfFloat_8 : decode cX11_bitsOfFloat 8 = .ok (.fload_n 0, 1) := by decide +kernel
theorem dX11_bitsOfFloat_9 : decode cX11_bitsOfFloat 9 = .ok (.fstore_n 1, 1) := by decide +kernel
theorem dX11_bitsOfFloat_10 : decode cX11_bitsOfFloat 10 = .ok (.bipush 127, 2) := by decide +kernel
theorem dX11_bitsOfFloat_12 : decode cX11_bitsOfFloat 12 = .ok (.istore_n 2, 1) := by decide +kernel
theorem dX11_bitsOfFloat_13 : decode cX11_bitsOfFloat 13 = .ok (.iload_n 2, 1) := by decide +kernel
theorem dX11_bitsOfFloat_14 : decode cX11_bitsOfFloat 14 = .ok (.sipush 254, 3) := by decide +kernel
theorem dX11_bitsOfFloat_17 : decode cX11_bitsOfFloat 17 = .ok (.if_icmp .ge 19, 3) := by decide +kernel
theorem dX11_bitsOfFloat_20 : decode cX11_bitsOfFloat 20 = .ok (.fload_n 1, 1) := by decide +kernel
theorem dX11_bitsOfFloat_21 : decode cX11_bitsOfFloat 21 = .ok (.fconst 2, 1) := by decide +kernel
theorem dX11_bitsOfFloat_22 : decode cX11_bitsOfFloat 22 = .ok (.fcmp .l, 1) := by decide +kernel
theorem dX11_bitsOfFloat_23 : decode cX11_bitsOfFloat 23 = .ok (.ifCond .lt 13, 3) := by decide +kernel
theorem dX11_bitsOfFloat_26 : decode cX11_bitsOfFloat 26 = .ok (.fload_n 1, 1) := by decide +kernel
theorem dX11_bitsOfFloat_27 : decode cX11_bitsOfFloat 27 = .ok (.fconst 2, 1) := by decide +kernel
theorem dX11_bitsOfFloat_28 : decode cX11_bitsOfFloat 28 = .ok (.fdiv, 1) := by decide +kernel
theorem dX11_bitsOfFloat_29 : decode cX11_bitsOfFloat 29 = .ok (.fstore_n 1, 1) := by decide +kernel
theorem dX11_bitsOfFloat_30 : decode cX11_bitsOfFloat 30 = .ok (.iinc 2 1, 3) := by decide +kernel
theorem dX11_bitsOfFloat_33 : decode cX11_bitsOfFloat 33 = .ok (.goto (-20), 3) := by decide +kernel
theorem dX11_bitsOfFloat_36 : decode cX11_bitsOfFloat 36 = .ok (.iload_n 2, 1) := by decide +kernel
theorem dX11_bitsOfFloat_37 : decode cX11_bitsOfFloat 37 = .ok (.iconst 1, 1) := by decide +kernel
theorem dX11_bitsOfFloat_38 : decode cX11_bitsOfFloat 38 = .ok (.if_icmp .le 19, 3) := by decide +kernel
theorem dX11_bitsOfFloat_41 : decode cX11_bitsOfFloat 41 = .ok (.fload_n 1, 1) := by decide +kernel
theorem dX11_bitsOfFloat_42 : decode cX11_bitsOfFloat 42 = .ok (.fconst 1, 1) := by decide +kernel
theorem dX11_bitsOfFloat_43 : decode cX11_bitsOfFloat 43 = .ok (.fcmp .g, 1) := by decide +kernel
theorem dX11_bitsOfFloat_44 : decode cX11_bitsOfFloat 44 = .ok (.ifCond .ge 13, 3) := by decide +kernel
theorem dX11_bitsOfFloat_47 : decode cX11_bitsOfFloat 47 = .ok (.fload_n 1, 1) := by decide +kernel
theorem dX11_bitsOfFloat_48 : decode cX11_bitsOfFloat 48 = .ok (.fconst 2, 1) := by decide +kernel
theorem dX11_bitsOfFloat_49 : decode cX11_bitsOfFloat 49 = .ok (.fmul, 1) := by decide +kernel
theorem dX11_bitsOfFloat_50 : decode cX11_bitsOfFloat 50 = .ok (.fstore_n 1, 1) := by decide +kernel
theorem dX11_bitsOfFloat_51 : decode cX11_bitsOfFloat 51 = .ok (.iinc 2 (-1), 3) := by decide +kernel
theorem dX11_bitsOfFloat_54 : decode cX11_bitsOfFloat 54 = .ok (.goto (-18), 3) := by decide +kernel
theorem dX11_bitsOfFloat_57 : decode cX11_bitsOfFloat 57 = .ok (.iload_n 2, 1) := by decide +kernel
theorem dX11_bitsOfFloat_58 : decode cX11_bitsOfFloat 58 = .ok (.i2l, 1) := by decide +kernel
theorem dX11_bitsOfFloat_59 : decode cX11_bitsOfFloat 59 = .ok (.bipush 23, 2) := by decide +kernel
theorem dX11_bitsOfFloat_61 : decode cX11_bitsOfFloat 61 = .ok (.lshl, 1) := by decide +kernel
theorem dX11_bitsOfFloat_62 : decode cX11_bitsOfFloat 62 = .ok (.fload_n 1, 1) := by decide +kernel
theorem dX11_bitsOfFloat_63 : decode cX11_bitsOfFloat 63 = .ok (.ldc_w 407, 3) := by decide +kernel
theorem dX11_bitsOfFloat_66 : decode cX11_bitsOfFloat 66 = .ok (.fmul, 1) := by decide +kernel
theorem dX11_bitsOfFloat_67 : decode cX11_bitsOfFloat 67 = .ok (.f2l, 1) := by decide +kernel
theorem dX11_bitsOfFloat_68 : decode cX11_bitsOfFloat 68 = .ok (.ladd, 1) := by decide +kernel
theorem dX11_bitsOfFloat_69 : decode cX11_bitsOfFloat 69 = .ok (.ldc2_w 408, 3) := by decide +kernel
theorem dX11_bitsOfFloat_72 : decode cX11_bitsOfFloat 72 = .ok (.lsub, 1) := by decide +kernel
theorem dX11_bitsOfFloat_73 : decode cX11_bitsOfFloat 73 = .ok (.lreturn, 1) := by decide +kernel
theorem dX11_bitsOfDouble_0 : decode cX11_bitsOfDouble 0 = .ok (.dload_n 0, 1) := by decide +kernel
theorem dX11_bitsOfDouble_1 : decode cX11_bitsOfDouble 1 = .ok (.dconst 0, 1) := by decide +kernel
theorem dX11_bitsOfDouble_2 : decode cX11_bitsOfDouble 2 = .ok (.dcmp .l, 1) := by decide +kernel
theorem dX11_bitsOfDouble_3 : decode cX11_bitsOfDouble 3 = .ok (.ifCond .gt 5, 3) := by decide +kernel
theorem dX11_bitsOfDouble_6 : decode cX11_bitsOfDouble 6 = .ok (.lconst 0, 1) := by decide +kernel
theorem dX11_bitsOfDouble_7 : decode cX11_bitsOfDouble 7 = .ok (.lreturn, 1) := by decide +kernel
theorem dX11_bitsOfDouble_8 : decode cX11_bitsOfDouble 8 = .ok (.dload_n 0, 1) := by decide +kernel
theorem dX11_bitsOfDouble_9 : decode cX11_bitsOfDouble 9 = .ok (.dstore_n 2, 1) := by decide +kernel
theorem dX11_bitsOfDouble_10 : decode cX11_bitsOfDouble 10 = .ok (.sipush 1023, 3) := by decide +kernel
theorem dX11_bitsOfDouble_13 : decode cX11_bitsOfDouble 13 = .ok (.istore 4, 2) := by decide +kernel
theorem dX11_bitsOfDouble_15 : decode cX11_bitsOfDouble 15 = .ok (.iload 4, 2) := by decide +kernel
theorem dX11_bitsOfDouble_17 : decode cX11_bitsOfDouble 17 = .ok (.sipush 2046, 3) := by decide +kernel
theorem dX11_bitsOfDouble_20 : decode cX11_bitsOfDouble 20 = .ok (.if_icmp .ge 23, 3) := by decide +kernel
theorem dX11_bitsOfDouble_23 : decode cX11_bitsOfDouble 23 = .ok (.dload_n 2, 1) := by decide +kernel
theorem dX11_bitsOfDouble_24 : decode cX11_bitsOfDouble 24 = .ok (.ldc2_w 410, 3) := by decide +kernel
theorem dX11_bitsOfDouble_27 : decode cX11_bitsOfDouble 27 = .ok (.dcmp .l, 1) := by decide +kernel
theorem dX11_bitsOfDouble_28 : decode cX11_bitsOfDouble 28 = .ok (.ifCond .lt 15, 3) := by decide +kernel
theorem dX11_bitsOfDouble_31 : decode cX11_bitsOfDouble 31 = .ok (.dload_n 2, 1) := by decide +kernel
theorem dX11_bitsOfDouble_32 : decode cX11_bitsOfDouble 32 = .ok (.ldc2_w 410, 3) := by decide +kernel
theorem dX11_bitsOfDouble_35 : decode cX11_bitsOfDouble 35 = .ok (.ddiv, 1) := by decide +kernel
theorem dX11_bitsOfDouble_36 : decode cX11_bitsOfDouble 36 = .ok (.dstore_n 2, 1) := by decide +kernel
theorem dX11_bitsOfDouble_37 : decode cX11_bitsOfDouble 37 = .ok (.iinc 4 1, 3) := by decide +kernel
theorem dX11_bitsOfDouble_40 : decode cX11_bitsOfDouble 40 = .ok (.goto (-25), 3) := by decide +kernel
theorem dX11_bitsOfDouble_43 : decode cX11_bitsOfDouble 43 = .ok (.iload 4, 2) := by decide +kernel
theorem dX11_bitsOfDouble_45 : decode cX11_bitsOfDouble 45 = .ok (.iconst 1, 1) := by decide +kernel
theorem dX11_bitsOfDouble_46 : decode cX11_bitsOfDouble 46 = .ok (.if_icmp .le 21, 3) := by decide +kernel
theorem dX11_bitsOfDouble_49 : decode cX11_bitsOfDouble 49 = .ok (.dload_n 2, 1) := by decide +kernel
theorem dX11_bitsOfDouble_50 : decode cX11_bitsOfDouble 50 = .ok (.dconst 1, 1) := by decide +kernel
theorem dX11_bitsOfDouble_51 : decode cX11_bitsOfDouble 51 = .ok (.dcmp .g, 1) := by decide +kernel
theorem dX11_bitsOfDouble_52 : decode cX11_bitsOfDouble 52 = .ok (.ifCond .ge 15, 3) := by decide +kernel
theorem dX11_bitsOfDouble_55 : decode cX11_bitsOfDouble 55 = .ok (.dload_n 2, 1) := by decide +kernel
theorem dX11_bitsOfDouble_56 : decode cX11_bitsOfDouble 56 = .ok (.ldc2_w 410, 3) := by decide +kernel
theorem dX11_bitsOfDouble_59 : decode cX11_bitsOfDouble 59 = .ok (.dmul, 1) := by decide +kernel
theorem dX11_bitsOfDouble_60 : decode cX11_bitsOfDouble 60 = .ok (.dstore_n 2, 1) := by decide +kernel
theorem dX11_bitsOfDouble_61 : decode cX11_bitsOfDouble 61 = .ok (.iinc 4 (-1), 3) := by decide +kernel
theorem dX11_bitsOfDouble_64 : decode cX11_bitsOfDouble 64 = .ok (.goto (-21), 3) := by decide +kernel
theorem dX11_bitsOfDouble_67 : decode cX11_bitsOfDouble 67 = .ok (.iload 4, 2) := by decide +kernel
theorem dX11_bitsOfDouble_69 : decode cX11_bitsOfDouble 69 = .ok (.i2l, 1) := by decide +kernel
theorem dX11_bitsOfDouble_70 : decode cX11_bitsOfDouble 70 = .ok (.bipush 52, 2) := by decide +kernel
theorem dX11_bitsOfDouble_72 : decode cX11_bitsOfDouble 72 = .ok (.lshl, 1) := by decide +kernel
theorem dX11_bitsOfDouble_73 : decode cX11_bitsOfDouble 73 = .ok (.dload_n 2, 1) := by decide +kernel
theorem dX11_bitsOfDouble_74 : decode cX11_bitsOfDouble 74 = .ok (.ldc2_w 412, 3) := by decide +kernel
theorem dX11_bitsOfDouble_77 : decode cX11_bitsOfDouble 77 = .ok (.dmul, 1) := by decide +kernel
theorem dX11_bitsOfDouble_78 : decode cX11_bitsOfDouble 78 = .ok (.d2l, 1) := by decide +kernel
theorem dX11_bitsOfDouble_79 : decode cX11_bitsOfDouble 79 = .ok (.ladd, 1) := by decide +kernel
theorem dX11_bitsOfDouble_80 : decode cX11_bitsOfDouble 80 = .ok (.ldc2_w 414, 3) := by decide +kernel
theorem dX11_bitsOfDouble_83 : decode cX11_bitsOfDouble 83 = .ok (.lsub, 1) := by decide +kernel
theorem dX11_bitsOfDouble_84 : decode cX11_bitsOfDouble 84 = .ok (.lreturn, 1) := by decide +kernel
theorem dX12_init_0 : decode cX12_init 0 = .ok (.aload_n 0, 1) := by decide +kernel
theorem dX12_init_1 : decode cX12_init 1 = .ok (.invokespecial 3, 3) := by decide +kernel
theorem dX12_init_4 : decode cX12_init 4 = .ok (.aload_n 0, 1) := by decide +kernel
theorem dX12_init_5 : decode cX12_init 5 = .ok (.iconst 4, 1) := by decide +kernel
theorem dX12_init_6 : decode cX12_init 6 = .ok (.putfield 9, 3) := by decide +kernel
theorem dX12_init_9 : decode cX12_init 9 = .ok (.aload_n 0, 1) := by decide +kernel
theorem dX12_init_10 : decode cX12_init 10 = .ok (.bipush 8, 2) := by decide +kernel
theorem dX12_init_12 : decode cX12_init 12 = .ok (.newarray .int, 2) := by decide +kernel
theorem dX12_init_14 : decode cX12_init 14 = .ok (.putfield 15, 3) := by decide +kernel
theorem dX12_init_17 : decode cX12_init 17 = .ok (.aload_n 0, 1) := by decide +kernel
theorem dX12_init_18 : decode cX12_init 18 = .ok (.bipush 8, 2) := by decide +kernel
theorem dX12_init_20 : decode cX12_init 20 = .ok (.newarray .int, 2) := by decide +kernel
theorem dX12_init_22 : decode cX12_init 22 = .ok (.putfield 19, 3) := by decide +kernel
theorem dX12_init_25 : decode cX12_init 25 = .ok (.aload_n 0, 1) := by decide +kernel
theorem dX12_init_26 : decode cX12_init 26 = .ok (.bipush 8, 2) := by decide +kernel
theorem dX12_init_28 : decode cX12_init 28 = .ok (.newarray .int, 2) := by decide +kernel
theorem dX12_init_30 : decode cX12_init 30 = .ok (.putfield 22, 3) := by decide +kernel
theorem dX12_init_33 : decode cX12_init 33 = .ok (.aload_n 0, 1) := by decide +kernel
theorem dX12_init_34 : decode cX12_init 34 = .ok (.bipush 8, 2) := by decide +kernel
theorem dX12_init_36 : decode cX12_init 36 = .ok (.newarray .int, 2) := by decide +kernel
theorem dX12_init_38 : decode cX12_init 38 = .ok (.putfield 25, 3) := by decide +kernel
theorem dX12_init_41 : decode cX12_init 41 = .ok (.aload_n 0, 1) := by decide +kernel
theorem dX12_init_42 : decode cX12_init 42 = .ok (.bipush 8, 2) := by decide +kernel
theorem dX12_init_44 : decode cX12_init 44 = .ok (.newarray .long, 2) := by decide +kernel
theorem dX12_init_46 : decode cX12_init 46 = .ok (.putfield 28, 3) := by decide +kernel
theorem dX12_init_49 : decode cX12_init 49 = .ok (.aload_n 0, 1) := by decide +kernel
theorem dX12_init_50 : decode cX12_init 50 = .ok (.bipush 8, 2) := by decide +kernel
theorem dX12_init_52 : decode cX12_init 52 = .ok (.newarray .long, 2) := by decide +kernel
theorem dX12_init_54 : decode cX12_init 54 = .ok (.putfield 32, 3) := by decide +kernel
theorem dX12_init_57 : decode cX12_init 57 = .ok (.aload_n 0, 1) := by decide +kernel
theorem dX12_init_58 : decode cX12_init 58 = .ok (.bipush 48, 2) := by decide +kernel
theorem dX12_init_60 : decode cX12_init 60 = .ok (.newarray .int, 2) := by decide +kernel
theorem dX12_init_62 : decode cX12_init 62 = .ok (.putfield 35, 3) := by decide +kernel
theorem dX12_init_65 : decode cX12_init 65 = .ok (.aload_n 0, 1) := by decide +kernel
theorem dX12_init_66 : decode cX12_init 66 = .ok (.bipush 16, 2) := by decide +kernel
theorem dX12_init_68 : decode cX12_init 68 = .ok (.newarray .int, 2) := by decide +kernel
theorem dX12_init_70 : decode cX12_init 70 = .ok (.putfield 38, 3) := by decide +kernel
theorem dX12_init_73 : decode cX12_init 73 = .ok (.aload_n 0, 1) := by decide +kernel
theorem dX12_init_74 : decode cX12_init 74 = .ok (.bipush 16, 2) := by decide +kernel
theorem dX12_init_76 : decode cX12_init 76 = .ok (.newarray .long, 2) := by decide +kernel
theorem dX12_init_78 : decode cX12_init 78 = .ok (.putfield 41, 3) := by decide +kernel
theorem dX12_init_81 : decode cX12_init 81 = .ok (.aload_n 0, 1) := by decide +kernel
theorem dX12_init_82 : decode cX12_init 82 = .ok (.bipush 12, 2) := by decide +kernel
theorem dX12_init_84 : decode cX12_init 84 = .ok (.newarray .int, 2) := by decide +kernel
theorem dX12_init_86 : decode cX12_init 86 = .ok (.putfield 44, 3) := by decide +kernel
theorem dX12_init_89 : decode cX12_init 89 = .ok (.aload_n 0, 1) := by decide +kernel
theorem dX12_init_90 : decode cX12_init 90 = .ok (.iconst 4, 1) := by decide +kernel
theorem dX12_init_91 : decode cX12_init 91 = .ok (.putfield 47, 3) := by decide +kernel
theorem dX12_init_94 : decode cX12_init 94 = .ok (.aload_n 0, 1) := by decide +kernel
theorem dX12_init_95 : decode cX12_init 95 = .ok (.iconst 4, 1) := by decide +kernel
theorem dX12_init_96 : decode cX12_init 96 = .ok (.putfield 50, 3) := by decide +kernel
theorem dX12_init_99 : decode cX12_init 99 = .ok (.aload_n 0, 1) := by decide +kernel
theorem dX12_init_100 : decode cX12_init 100 = .ok (.bipush 80, 2) := by decide +kernel
theorem dX12_init_102 : decode cX12_init 102 = .ok (.newarray .int, 2) := by decide +kernel
theorem dX12_init_104 : decode cX12_init 104 = .ok (.putfield 53, 3) := by decide +kernel
theorem dX12_init_107 : decode cX12_init 107 = .ok (.aload_n 0, 1) := by decide +kernel
theorem dX12_init_108 : decode cX12_init 108 = .ok (.sipush 500, 3) := by decide +kernel
theorem dX12_init_111 : decode cX12_init 111 = .ok (.newarray .int, 2) := by decide +kernel
theorem dX12_init_113 : decode cX12_init 113 = .ok (.putfield 56, 3) := by decide +kernel
theorem dX12_init_116 : decode cX12_init 116 = .ok (.aload_n 0, 1) := by decide +kernel
theorem dX12_init_117 : decode cX12_init 117 = .ok (.iconst 3, 1) := by decide +kernel
theorem dX12_init_118 : decode cX12_init 118 = .ok (.newarray .int, 2) := by decide +kernel
theorem dX12_init_120 : decode cX12_init 120 = .ok (.putfield 59, 3) := by decide +kernel
theorem dX12_init_123 : decode cX12_init 123 = .ok (.aload_n 0, 1) := by decide +kernel
theorem dX12_init_124 : decode cX12_init 124 = .ok (.iconst 3, 1) := by decide +kernel
theorem dX12_init_125 : decode cX12_init 125 = .ok (.newarray .int, 2) := by decide +kernel
theorem dX12_init_127 : decode cX12_init 127 = .ok (.putfield 62, 3) := by decide +kernel
theorem dX12_init_130 : decode cX12_init 130 = .ok (.aload_n 0, 1) := by decide +kernel
theorem dX12_init_131 : decode cX12_init 131 = .ok (.bipush 18, 2) := by decide +kernel
theorem dX12_init_133 : decode cX12_init 133 = .ok (.newarray .int, 2) := by decide +kernel
theorem dX12_init_135 : decode cX12_init 135 = .ok (.putfield 65, 3) := by decide +kernel
theorem dX12_init_138 : decode cX12_init 138 = .ok (.aload_n 0, 1) := by decide +kernel
theorem dX12_init_139 : decode cX12_init 139 = .ok (.bipush 18, 2) := by decide +kernel
theorem dX12_init_141 : decode cX12_init 141 = .ok (.newarray .int, 2) := by decide +kernel
theorem dX12_init_143 : decode cX12_init 143 = .ok (.putfield 68, 3) := by decide +kernel
theorem dX12_init_146 : decode cX12_init 146 = .ok (.aload_n 0, 1) := by decide +kernel
theorem dX12_init_147 : decode cX12_init 147 = .ok (.bipush 6, 2) := by decide +kernel
theorem dX12_init_149 : decode cX12_init 149 = .ok (.newarray .int, 2) := by decide +kernel
theorem dX12_init_151 : decode cX12_init 151 = .ok (.putfield 71, 3) := by decide +kernel
theorem dX12_init_154 : decode cX12_init 154 = .ok (.aload_n 0, 1) := by decide +kernel
theorem dX12_init_155 : decode cX12_init 155 = .ok (.bipush 6, 2) := by decide +kernel
theorem dX12_init_157 : decode cX12_init 157 = .ok (.newarray .int, 2) := by decide +kernel
theorem dX12_init_159 : decode cX12_init 159 = .ok (.putfield 74, 3) := by decide +kernel
theorem dX12_init_162 : decode cX12_init 162 = .ok (.aload_n 0, 1) := by decide +kernel
theorem dX12_init_163 : decode cX12_init 163 = .ok (.bipush 18, 2) := by decide +kernel
theorem dX12_init_165 : decode cX12_init 165 = .ok (.newarray .long, 2) := by decide +kernel
theorem dX12_init_167 : decode cX12_init 167 = .ok (.putfield 77, 3) := by decide +kernel
theorem dX12_init_170 : decode cX12_init 170 = .ok (.aload_n 0, 1) := by decide +kernel
theorem dX12_init_171 : decode cX12_init 171 = .ok (.bipush 6, 2) := by decide +kernel
theorem dX12_init_173 : decode cX12_init 173 = .ok (.newarray .long, 2) := by decide +kernel
theorem dX12_init_175 : decode cX12_init 175 = .ok (.putfield 80, 3) := by decide +kernel
theorem dX12_init_178 : decode cX12_init 178 = .ok (.aload_n 0, 1) := by decide +kernel
theorem dX12_init_179 : decode cX12_init 179 = .ok (.iconst 3, 1) := by decide +kernel
theorem dX12_init_180 : decode cX12_init 180 = .ok (.newarray .int, 2) := by decide +kernel
theorem dX12_init_182 : decode cX12_init 182 = .ok (.putfield 83, 3) := by decide +kernel
theorem dX12_init_185 : decode cX12_init 185 = .ok (.aload_n 0, 1) := by decide +kernel
theorem dX12_init_186 : decode cX12_init 186 = .ok (.iconst 3, 1) := by decide +kernel
theorem dX12_init_187 : decode cX12_init 187 = .ok (.newarray .int, 2) := by decide +kernel
theorem dX12_init_189 : decode cX12_init 189 = .ok (.putfield 86, 3) := by decide +kernel
theorem dX12_init_192 : decode cX12_init 192 = .ok (.aload_n 0, 1) := by decide +kernel
theorem dX12_init_193 : decode cX12_init 193 = .ok (.bipush 60, 2) := by decide +kernel
theorem dX12_init_195 : decode cX12_init 195 = .ok (.newarray .long, 2) := by decide +kernel
theorem dX12_init_197 : decode cX12_init 197 = .ok (.putfield 89, 3) := by decide +kernel
theorem dX12_init_200 : decode cX12_init 200 = .ok (.aload_n 0, 1) := by decide +kernel
theorem dX12_init_201 : decode cX12_init 201 = .ok (.bipush 24, 2) := by decide +kernel
theorem dX12_init_203 : decode cX12_init 203 = .ok (.newarray .int, 2) := by decide +kernel
theorem dX12_init_205 : decode cX12_init 205 = .ok (.putfield 92, 3) := by decide +kernel
theorem dX12_init_208 : decode cX12_init 208 = .ok (.iconst 0, 1) := by decide +kernel
theorem dX12_init_209 : decode cX12_init 209 = .ok (.istore_n 1, 1) := by decide +kernel
theorem dX12_init_210 : decode cX12_init 210 = .ok (.iload_n 1, 1) := by decide +kernel
theorem dX12_init_211 : decode cX12_init 211 = .ok (.iconst 3, 1) := by decide +kernel
theorem dX12_init_212 : decode cX12_init 212 = .ok (.if_icmp .ge 23, 3) := by decide +kernel
theorem dX12_init_215 : decode cX12_init 215 = .ok (.aload_n 0, 1) := by decide +kernel
theorem dX12_init_216 : decode cX12_init 216 = .ok (.getfield 59, 3) := by decide +kernel
theorem dX12_init_219 : decode cX12_init 219 = .ok (.iload_n 1, 1) := by decide +kernel
theorem dX12_init_220 : decode cX12_init 220 = .ok (.iconst (-1), 1) := by decide +kernel
theorem dX12_init_221 : decode cX12_init 221 = .ok (.iastore, 1) := by decide +kernel
theorem dX12_init_222 : decode cX12_init 222 = .ok (.aload_n 0, 1) := by decide +kernel
theorem dX12_init_223 : decode cX12_init 223 = .ok (.getfield 83, 3) := by decide +kernel
theorem dX12_init_226 : decode cX12_init 226 = .ok (.iload_n 1, 1) := by decide +kernel
theorem dX12_init_227 : decode cX12_init 227 = .ok (.iconst (-1), 1) := by decide +kernel
theorem dX12_init_228 : decode cX12_init 228 = .ok (.iastore, 1) := by decide +kernel
theorem dX12_init_229 : decode cX12_init 229 = .ok (.iinc 1 1, 3) := by decide +kernel
theorem dX12_init_232 : decode cX12_init 232 = .ok (.goto (-22), 3) := by decide +kernel
theorem dX12_init_235 : decode cX12_init 235 = .ok (.return_, 1) := by decide +kernel
theorem dX12_isIn_0 : decode cX12_isIn 0 = .ok (.lload_n 0, 1) := by decide +kernel
theorem dX12_isIn_1 : decode cX12_isIn 1 = .ok (.lload_n 2, 1) := by decide +kernel
theorem dX12_isIn_2 : decode cX12_isIn 2 = .ok (.lcmp, 1) := by decide +kernel
theorem dX12_isIn_3 : decode cX12_isIn 3 = .ok (.ifCond .lt 14, 3) := by decide +kernel
theorem dX12_isIn_6 : decode cX12_isIn 6 = .ok (.lload_n 0, 1) := by decide +kernel
theorem dX12_isIn_7 : decode cX12_isIn 7 = .ok (.lload 4, 2) := by decide +kernel
theorem dX12_isIn_9 : decode cX12_isIn 9 = .ok (.lcmp, 1) := by decide +kernel
theorem dX12_isIn_10 : decode cX12_isIn 10 = .ok (.ifCond .gt 7, 3) := by decide +kernel
theorem dX12_isIn_13 : decode cX12_isIn 13 = .ok (.iconst 1, 1) := by decide +kernel
theorem dX12_isIn_14 : decode cX12_isIn 14 = .ok (.goto 4, 3) := by decide +kernel
theorem dX12_isIn_17 : decode cX12_isIn 17 = .ok (.iconst 0, 1) := by decide +kernel
theorem dX12_isIn_18 : decode cX12_isIn 18 = .ok (.ireturn, 1) := by decide +kernel
theorem dX12_has_0 : decode cX12_has 0 = .ok (.lload_n 0, 1) := by decide +kernel
theorem dX12_has_1 : decode cX12_has 1 = .ok (.iload_n 2, 1) := by decide +kernel
theorem dX12_has_2 : decode cX12_has 2 = .ok (.lushr, 1) := by decide +kernel
theorem dX12_has_3 : decode cX12_has 3 = .ok (.lconst 1, 1) := by decide +kernel
theorem dX12_has_4 : decode cX12_has 4 = .ok (.land, 1) := by decide +kernel
theorem dX12_has_5 : decode cX12_has 5 = .ok (.lconst 1, 1) := by decide +kernel
theorem dX12_has_6 : decode cX12_has 6 = .ok (.lcmp, 1) := by decide +kernel
theorem dX12_has_7 : decode cX12_has 7 = .ok (.ifCond .ne 7, 3) := by decide +kernel
theorem dX12_has_10 : decode cX12_has 10 = .ok (.iconst 1, 1) := by decide +kernel
theorem dX12_has_11 : decode cX12_has 11 = .ok (.goto 4, 3) := by decide +kernel
theorem dX12_has_14 : decode cX12_has 14 = .ok (.iconst 0, 1) := by decide +kernel
theorem dX12_has_15 : decode cX12_has 15 = .ok (.ireturn, 1) := by decide +kernel
theorem dX12_many_0 : decode cX12_many 0 = .ok (.iconst 0, 1) := by decide +kernel
theorem dX12_many_1 : decode cX12_many 1 = .ok (.istore_n 2, 1) := by decide +kernel
theorem dX12_many_2 : decode cX12_many 2 = .ok (.lload_n 0, 1) := by decide +kernel
theorem dX12_many_3 : decode cX12_many 3 = .ok (.lstore_n 3, 1) := by decide +kernel
theorem dX12_many_4 : decode cX12_many 4 = .ok (.lload_n 3, 1) := by decide +kernel
theorem dX12_many_5 : decode cX12_many 5 = .ok (.lconst 0, 1) := by decide +kernel
theorem dX12_many_6 : decode cX12_many 6 = .ok (.lcmp, 1) := by decide +kernel
theorem dX12_many_7 : decode cX12_many 7 = .ok (.ifCond .eq 15, 3) := by decide +kernel
theorem dX12_many_10 : decode cX12_many 10 = .ok (.iinc 2 1, 3) := by decide +kernel
theorem dX12_many_13 : decode cX12_many 13 = .ok (.lload_n 3, 1) := by decide +kernel
theorem dX12_many_14 : decode cX12_many 14 = .ok (.lload_n 3, 1) := by decide +kernel
theorem dX12_many_15 : decode cX12_many 15 = .ok (.lconst 1, 1) := by decide +kernel
theorem dX12_many_16 : decode cX12_many 16 = .ok (.lsub, 1) := by decide +kernel
theorem dX12_many_17 : decode cX12_many 17 = .ok (.land, 1) := by decide +kernel
theorem dX12_many_18 : decode cX12_many 18 = .ok (.lstore_n 3, 1) := by decide +kernel
theorem dX12_many_19 : decode cX12_many 19 = .ok (.goto (-15), 3) := by decide +kernel
theorem dX12_many_22 : decode cX12_many 22 = .ok (.iload_n 2, 1) := by decide +kernel
theorem dX12_many_23 : decode cX12_many 23 = .ok (.ireturn, 1) := by decide +kernel
theorem dX12_bits_0 : decode cX12_bits 0 = .ok (.iload_n 0, 1) := by decide +kernel
theorem dX12_bits_1 : decode cX12_bits 1 = .ok (.bipush 64, 2) := by decide +kernel
theorem dX12_bits_3 : decode cX12_bits 3 = .ok (.if_icmp .ne 9, 3) := by decide +kernel
theorem dX12_bits_6 : decode cX12_bits 6 = .ok (.ldc2_w 95, 3) := by decide +kernel
theorem dX12_bits_9 : decode cX12_bits 9 = .ok (.goto 8, 3) := by decide +kernel
theorem dX12_bits_12 : decode cX12_bits 12 = .ok (.lconst 1, 1) := by decide +kernel
theorem dX12_bits_13 : decode cX12_bits 13 = .ok (.iload_n 0, 1) := by decide +kernel
theorem dX12_bits_14 : decode cX12_bits 14 = .ok (.lshl, 1) := by decide +kernel
theorem dX12_bits_15 : decode cX12_bits 15 = .ok (.lconst 1, 1) := by decide +kernel
theorem dX12_bits_16 : decode cX12_bits 16 = .ok (.lsub, 1) := by decide +kernel
theorem dX12_bits_17 : decode cX12_bits 17 = .ok (.lreturn, 1) := by decide +kernel
theorem dX12_all_0 : decode cX12_all 0 = .ok (.iconst 1, 1) := by decide +kernel
theorem dX12_all_1 : decode cX12_all 1 = .ok (.aload_n 0, 1) := by decide +kernel
theorem dX12_all_2 : decode cX12_all 2 = .ok (.getfield 9, 3) := by decide +kernel
theorem dX12_all_5 : decode cX12_all 5 = .ok (.ishl, 1) := by decide +kernel
theorem dX12_all_6 : decode cX12_all 6 = .ok (.ireturn, 1) := by decide +kernel
theorem dX12_isFamily_0 : decode cX12_isFamily 0 = .ok (.iload_n 1, 1) := by decide +kernel
theorem dX12_isFamily_1 : decode cX12_isFamily 1 = .ok (.i2l, 1) := by decide +kernel
theorem dX12_isFamily_2 : decode cX12_isFamily 2 = .ok (.lconst 0, 1) := by decide +kernel
theorem dX12_isFamily_3 : decode cX12_isFamily 3 = .ok (.aload_n 0, 1) := by decide +kernel
theorem dX12_isFamily_4 : decode cX12_isFamily 4 = .ok (.getfield 97, 3) := by decide +kernel
theorem dX12_isFamily_7 : decode cX12_isFamily 7 = .ok (.iconst 1, 1) := by decide +kernel
theorem dX12_isFamily_8 : decode cX12_isFamily 8 = .ok (.isub, 1) := by decide +kernel
theorem dX12_isFamily_9 : decode cX12_isFamily 9 = .ok (.i2l, 1) := by decide +kernel
theorem dX12_isFamily_10 : decode cX12_isFamily 10 = .ok (.invokestatic 100, 3) := by decide +kernel
theorem dX12_isFamily_13 : decode cX12_isFamily 13 = .ok (.ireturn, 1) := by decide +kernel
theorem dX12_leaves_0 : decode cX12_leaves 0 = .ok (.aload_n 0, 1) := by decide +kernel
theorem dX12_leaves_1 : decode cX12_leaves 1 = .ok (.iconst 0, 1) := by decide +kernel
theorem dX12_leaves_2 : decode cX12_leaves 2 = .ok (.putfield 104, 3) := by decide +kernel
theorem dX12_leaves_5 : decode cX12_leaves 5 = .ok (.aload_n 0, 1) := by decide +kernel
theorem dX12_leaves_6 : decode cX12_leaves 6 = .ok (.iconst 0, 1) := by decide +kernel
theorem dX12_leaves_7 : decode cX12_leaves 7 = .ok (.putfield 107, 3) := by decide +kernel
theorem dX12_leaves_10 : decode cX12_leaves 10 = .ok (.return_, 1) := by decide +kernel
theorem dX12_cube_0 : decode cX12_cube 0 = .ok (.iload_n 1, 1) := by decide +kernel
theorem dX12_cube_1 : decode cX12_cube 1 = .ok (.i2l, 1) := by decide +kernel
theorem dX12_cube_2 : decode cX12_cube 2 = .ok (.lconst 1, 1) := by decide +kernel
theorem dX12_cube_3 : decode cX12_cube 3 = .ok (.ldc2_w 110, 3) := by decide +kernel
theorem dX12_cube_6 : decode cX12_cube 6 = .ok (.invokestatic 100, 3) := by decide +kernel
theorem dX12_cube_9 : decode cX12_cube 9 = .ok (.ifCond .ne 5, 3) := by decide +kernel
theorem dX12_cube_12 : decode cX12_cube 12 = .ok (.iconst (-1), 1) := by decide +kernel
theorem dX12_cube_13 : decode cX12_cube 13 = .ok (.ireturn, 1) := by decide +kernel
theorem dX12_cube_14 : decode cX12_cube 14 = .ok (.aload_n 0, 1) := by decide +kernel
theorem dX12_cube_15 : decode cX12_cube 15 = .ok (.getfield 9, 3) := by decide +kernel
theorem dX12_cube_18 : decode cX12_cube 18 = .ok (.istore_n 2, 1) := by decide +kernel
theorem dX12_cube_19 : decode cX12_cube 19 = .ok (.aload_n 0, 1) := by decide +kernel
theorem dX12_cube_20 : decode cX12_cube 20 = .ok (.iload_n 1, 1) := by decide +kernel
theorem dX12_cube_21 : decode cX12_cube 21 = .ok (.putfield 9, 3) := by decide +kernel
theorem dX12_cube_24 : decode cX12_cube 24 = .ok (.aload_n 0, 1) := by decide +kernel
theorem dX12_cube_25 : decode cX12_cube 25 = .ok (.iconst 0, 1) := by decide +kernel
theorem dX12_cube_26 : decode cX12_cube 26 = .ok (.putfield 97, 3) := by decide +kernel
theorem dX12_cube_29 : decode cX12_cube 29 = .ok (.aload_n 0, 1) := by decide +kernel
theorem dX12_cube_30 : decode cX12_cube 30 = .ok (.invokevirtual 112, 3) := by decide +kernel
theorem dX12_cube_33 : decode cX12_cube 33 = .ok (.iload_n 2, 1) := by decide +kernel
theorem dX12_cube_34 : decode cX12_cube 34 = .ok (.ireturn, 1) := by decide +kernel
theorem dX12_comes_0 : decode cX12_comes 0 = .ok (.aload_n 0, 1) := by decide +kernel
theorem dX12_comes_1 : decode cX12_comes 1 = .ok (.getfield 97, 3) := by decide +kernel
theorem dX12_comes_4 : decode cX12_comes 4 = .ok (.bipush 8, 2) := by decide +kernel
theorem dX12_comes_6 : decode cX12_comes 6 = .ok (.if_icmp .ne 6, 3) := by decide +kernel
theorem dX12_comes_9 : decode cX12_comes 9 = .ok (.bipush (-3), 2) := by decide +kernel
theorem dX12_comes_11 : decode cX12_comes 11 = .ok (.ireturn, 1) := by decide +kernel
theorem dX12_comes_12 : decode cX12_comes 12 = .ok (.aload_n 0, 1) := by decide +kernel
theorem dX12_comes_13 : decode cX12_comes 13 = .ok (.getfield 15, 3) := by decide +kernel
theorem dX12_comes_16 : decode cX12_comes 16 = .ok (.aload_n 0, 1) := by decide +kernel
theorem dX12_comes_17 : decode cX12_comes 17 = .ok (.getfield 97, 3) := by decide +kernel
theorem dX12_comes_20 : decode cX12_comes 20 = .ok (.iconst 0, 1) := by decide +kernel
theorem dX12_comes_21 : decode cX12_comes 21 = .ok (.iastore, 1) := by decide +kernel
theorem dX12_comes_22 : decode cX12_comes 22 = .ok (.aload_n 0, 1) := by decide +kernel
theorem dX12_comes_23 : decode cX12_comes 23 = .ok (.getfield 19, 3) := by decide +kernel
theorem dX12_comes_26 : decode cX12_comes 26 = .ok (.aload_n 0, 1) := by decide +kernel
theorem dX12_comes_27 : decode cX12_comes 27 = .ok (.getfield 97, 3) := by decide +kernel
theorem dX12_comes_30 : decode cX12_comes 30 = .ok (.iconst 0, 1) := by decide +kernel
theorem dX12_comes_31 : decode cX12_comes 31 = .ok (.iastore, 1) := by decide +kernel
theorem dX12_comes_32 : decode cX12_comes 32 = .ok (.aload_n 0, 1) := by decide +kernel
theorem dX12_comes_33 : decode cX12_comes 33 = .ok (.getfield 28, 3) := by decide +kernel
theorem dX12_comes_36 : decode cX12_comes 36 = .ok (.aload_n 0, 1) := by decide +kernel
theorem dX12_comes_37 : decode cX12_comes 37 = .ok (.getfield 97, 3) := by decide +kernel
theorem dX12_comes_40 : decode cX12_comes 40 = .ok (.lload_n 1, 1) := by decide +kernel
theorem dX12_comes_41 : decode cX12_comes 41 = .ok (.lastore, 1) := by decide +kernel
theorem dX12_comes_42 : decode cX12_comes 42 = .ok (.aload_n 0, 1) := by decide +kernel
theorem dX12_comes_43 : decode cX12_comes 43 = .ok (.dup, 1) := by decide +kernel
theorem dX12_comes_44 : decode cX12_comes 44 = .ok (.getfield 97, 3) := by decide +kernel
theorem dX12_comes_47 : decode cX12_comes 47 = .ok (.iconst 1, 1) := by decide +kernel
theorem dX12_comes_48 : decode cX12_comes 48 = .ok (.iadd, 1) := by decide +kernel
theorem dX12_comes_49 : decode cX12_comes 49 = .ok (.putfield 97, 3) := by decide +kernel
theorem dX12_comes_52 : decode cX12_comes 52 = .ok (.aload_n 0, 1) := by decide +kernel
theorem dX12_comes_53 : decode cX12_comes 53 = .ok (.invokevirtual 112, 3) := by decide +kernel
theorem dX12_comes_56 : decode cX12_comes 56 = .ok (.aload_n 0, 1) := by decide +kernel
theorem dX12_comes_57 : decode cX12_comes 57 = .ok (.getfield 97, 3) := by decide +kernel
theorem dX12_comes_60 : decode cX12_comes 60 = .ok (.iconst 1, 1) := by decide +kernel
theorem dX12_comes_61 : decode cX12_comes 61 = .ok (.isub, 1) := by decide +kernel
theorem dX12_comes_62 : decode cX12_comes 62 = .ok (.ireturn, 1) := by decide +kernel
theorem dX12_come_0 : decode cX12_come 0 = .ok (.lload_n 1, 1) := by decide +kernel
theorem dX12_come_1 : decode cX12_come 1 = .ok (.aload_n 0, 1) := by decide +kernel
theorem dX12_come_2 : decode cX12_come 2 = .ok (.invokevirtual 115, 3) := by decide +kernel
theorem dX12_come_5 : decode cX12_come 5 = .ok (.invokestatic 119, 3) := by decide +kernel
theorem dX12_come_8 : decode cX12_come 8 = .ok (.ldc2_w 95, 3) := by decide +kernel
theorem dX12_come_11 : decode cX12_come 11 = .ok (.lxor, 1) := by decide +kernel
theorem dX12_come_12 : decode cX12_come 12 = .ok (.land, 1) := by decide +kernel
theorem dX12_come_13 : decode cX12_come 13 = .ok (.lconst 0, 1) := by decide +kernel
theorem dX12_come_14 : decode cX12_come 14 = .ok (.lcmp, 1) := by decide +kernel
theorem dX12_come_15 : decode cX12_come 15 = .ok (.ifCond .eq 7, 3) := by decide +kernel
theorem dX12_come_18 : decode cX12_come 18 = .ok (.iconst (-1), 1) := by decide +kernel
theorem dX12_come_19 : decode cX12_come 19 = .ok (.goto 8, 3) := by decide +kernel
theorem dX12_come_22 : decode cX12_come 22 = .ok (.aload_n 0, 1) := by decide +kernel
theorem dX12_come_23 : decode cX12_come 23 = .ok (.lload_n 1, 1) := by decide +kernel
theorem dX12_come_24 : decode cX12_come 24 = .ok (.invokevirtual 123, 3) := by decide +kernel
theorem dX12_come_27 : decode cX12_come 27 = .ok (.ireturn, 1) := by decide +kernel
theorem dX12_drop_0 : decode cX12_drop 0 = .ok (.aload_n 0, 1) := by decide +kernel
theorem dX12_drop_1 : decode cX12_drop 1 = .ok (.getfield 97, 3) := by decide +kernel
theorem dX12_drop_4 : decode cX12_drop 4 = .ok (.ifCond .ne 6, 3) := by decide +kernel
theorem dX12_drop_7 : decode cX12_drop 7 = .ok (.bipush (-5), 2) := by decide +kernel
theorem dX12_drop_9 : decode cX12_drop 9 = .ok (.ireturn, 1) := by decide +kernel
theorem dX12_drop_10 : decode cX12_drop 10 = .ok (.aload_n 0, 1) := by decide +kernel
theorem dX12_drop_11 : decode cX12_drop 11 = .ok (.dup, 1) := by decide +kernel
theorem dX12_drop_12 : decode cX12_drop 12 = .ok (.getfield 97, 3) := by decide +kernel
theorem dX12_drop_15 : decode cX12_drop 15 = .ok (.iconst 1, 1) := by decide +kernel
theorem dX12_drop_16 : decode cX12_drop 16 = .ok (.isub, 1) := by decide +kernel
theorem dX12_drop_17 : decode cX12_drop 17 = .ok (.putfield 97, 3) := by decide +kernel
theorem dX12_drop_20 : decode cX12_drop 20 = .ok (.aload_n 0, 1) := by decide +kernel
theorem dX12_drop_21 : decode cX12_drop 21 = .ok (.invokevirtual 112, 3) := by decide +kernel
theorem dX12_drop_24 : decode cX12_drop 24 = .ok (.aload_n 0, 1) := by decide +kernel
theorem dX12_drop_25 : decode cX12_drop 25 = .ok (.getfield 97, 3) := by decide +kernel
theorem dX12_drop_28 : decode cX12_drop 28 = .ok (.ireturn, 1) := by decide +kernel
theorem dX12_lays_0 : decode cX12_lays 0 = .ok (.iload_n 2, 1) := by decide +kernel
theorem dX12_lays_1 : decode cX12_lays 1 = .ok (.ifCond .ne 13, 3) := by decide +kernel
theorem dX12_lays_4 : decode cX12_lays 4 = .ok (.aload_n 0, 1) := by decide +kernel
theorem dX12_lays_5 : decode cX12_lays 5 = .ok (.getfield 15, 3) := by decide +kernel
theorem dX12_lays_8 : decode cX12_lays 8 = .ok (.iload_n 1, 1) := by decide +kernel
theorem dX12_lays_9 : decode cX12_lays 9 = .ok (.iload_n 3, 1) := by decide +kernel
theorem dX12_lays_10 : decode cX12_lays 10 = .ok (.iastore, 1) := by decide +kernel
theorem dX12_lays_11 : decode cX12_lays 11 = .ok (.goto 10, 3) := by decide +kernel
theorem dX12_lays_14 : decode cX12_lays 14 = .ok (.aload_n 0, 1) := by decide +kernel
theorem dX12_lays_15 : decode cX12_lays 15 = .ok (.getfield 19, 3) := by decide +kernel
theorem dX12_lays_18 : decode cX12_lays 18 = .ok (.iload_n 1, 1) := by decide +kernel
theorem dX12_lays_19 : decode cX12_lays 19 = .ok (.iload_n 3, 1) := by decide +kernel
theorem dX12_lays_20 : decode cX12_lays 20 = .ok (.iastore, 1) := by decide +kernel
theorem dX12_lays_21 : decode cX12_lays 21 = .ok (.return_, 1) := by decide +kernel
theorem dX12_set_0 : decode cX12_set 0 = .ok (.aload_n 0, 1) := by decide +kernel
theorem dX12_set_1 : decode cX12_set 1 = .ok (.iload_n 1, 1) := by decide +kernel
theorem dX12_set_2 : decode cX12_set 2 = .ok (.invokevirtual 127, 3) := by decide +kernel
theorem dX12_set_5 : decode cX12_set 5 = .ok (.ifCond .eq 35, 3) := by decide +kernel
theorem dX12_set_8 : decode cX12_set 8 = .ok (.iload_n 2, 1) := by decide +kernel
theorem dX12_set_9 : decode cX12_set 9 = .ok (.i2l, 1) := by decide +kernel
theorem dX12_set_10 : decode cX12_set 10 = .ok (.lconst 0, 1) := by decide +kernel
theorem dX12_set_11 : decode cX12_set 11 = .ok (.lconst 1, 1) := by decide +kernel
theorem dX12_set_12 : decode cX12_set 12 = .ok (.invokestatic 100, 3) := by decide +kernel
theorem dX12_set_15 : decode cX12_set 15 = .ok (.ifCond .eq 25, 3) := by decide +kernel
theorem dX12_set_18 : decode cX12_set 18 = .ok (.iload_n 3, 1) := by decide +kernel
theorem dX12_set_19 : decode cX12_set 19 = .ok (.i2l, 1) := by decide +kernel
theorem dX12_set_20 : decode cX12_set 20 = .ok (.lconst 0, 1) := by decide +kernel
theorem dX12_set_21 : decode cX12_set 21 = .ok (.iload_n 2, 1) := by decide +kernel
theorem dX12_set_22 : decode cX12_set 22 = .ok (.ifCond .ne 9, 3) := by decide +kernel
theorem dX12_set_25 : decode cX12_set 25 = .ok (.ldc2_w 131, 3) := by decide +kernel
theorem dX12_set_28 : decode cX12_set 28 = .ok (.goto 6, 3) := by decide +kernel
theorem dX12_set_31 : decode cX12_set 31 = .ok (.ldc2_w 133, 3) := by decide +kernel
theorem dX12_set_34 : decode cX12_set 34 = .ok (.invokestatic 100, 3) := by decide +kernel
theorem dX12_set_37 : decode cX12_set 37 = .ok (.ifCond .ne 5, 3) := by decide +kernel
theorem dX12_set_40 : decode cX12_set 40 = .ok (.iconst (-1), 1) := by decide +kernel
theorem dX12_set_41 : decode cX12_set 41 = .ok (.ireturn, 1) := by decide +kernel
theorem dX12_set_42 : decode cX12_set 42 = .ok (.iload_n 2, 1) := by decide +kernel
theorem dX12_set_43 : decode cX12_set 43 = .ok (.ifCond .ne 12, 3) := by decide +kernel
theorem dX12_set_46 : decode cX12_set 46 = .ok (.aload_n 0, 1) := by decide +kernel
theorem dX12_set_47 : decode cX12_set 47 = .ok (.getfield 15, 3) := by decide +kernel
theorem dX12_set_50 : decode cX12_set 50 = .ok (.iload_n 1, 1) := by decide +kernel
theorem dX12_set_51 : decode cX12_set 51 = .ok (.iaload, 1) := by decide +kernel
theorem dX12_set_52 : decode cX12_set 52 = .ok (.goto 9, 3) := by decide +kernel
theorem dX12_set_55 : decode cX12_set 55 = .ok (.aload_n 0, 1) := by decide +kernel
theorem dX12_set_56 : decode cX12_set 56 = .ok (.getfield 19, 3) := by decide +kernel
theorem dX12_set_59 : decode cX12_set 59 = .ok (.iload_n 1, 1) := by decide +kernel
theorem dX12_set_60 : decode cX12_set 60 = .ok (.iaload, 1) := by decide +kernel
theorem dX12_set_61 : decode cX12_set 61 = .ok (.istore 4, 2) := by decide +kernel
theorem dX12_set_63 : decode cX12_set 63 = .ok (.iload 4, 2) := by decide +kernel
theorem dX12_set_65 : decode cX12_set 65 = .ok (.iload_n 3, 1) := by decide +kernel
theorem dX12_set_66 : decode cX12_set 66 = .ok (.if_icmp .ne 6, 3) := by decide +kernel
theorem dX12_set_69 : decode cX12_set 69 = .ok (.iload 4, 2) := by decide +kernel
theorem dX12_set_71 : decode cX12_set 71 = .ok (.ireturn, 1) := by decide +kernel
theorem dX12_set_72 : decode cX12_set 72 = .ok (.aload_n 0, 1) := by decide +kernel
theorem dX12_set_73 : decode cX12_set 73 = .ok (.getfield 104, 3) := by decide +kernel
theorem dX12_set_76 : decode cX12_set 76 = .ok (.bipush 12, 2) := by decide +kernel
theorem dX12_set_78 : decode cX12_set 78 = .ok (.if_icmp .ne 45, 3) := by decide +kernel
theorem dX12_set_81 : decode cX12_set 81 = .ok (.iconst 4, 1) := by decide +kernel
theorem dX12_set_82 : decode cX12_set 82 = .ok (.istore 5, 2) := by decide +kernel
theorem dX12_set_84 : decode cX12_set 84 = .ok (.iload 5, 2) := by decide +kernel
theorem dX12_set_86 : decode cX12_set 86 = .ok (.bipush 48, 2) := by decide +kernel
theorem dX12_set_88 : decode cX12_set 88 = .ok (.if_icmp .ge 25, 3) := by decide +kernel
theorem dX12_set_91 : decode cX12_set 91 = .ok (.aload_n 0, 1) := by decide +kernel
theorem dX12_set_92 : decode cX12_set 92 = .ok (.getfield 35, 3) := by decide +kernel
theorem dX12_set_95 : decode cX12_set 95 = .ok (.iload 5, 2) := by decide +kernel
theorem dX12_set_97 : decode cX12_set 97 = .ok (.iconst 4, 1) := by decide +kernel
theorem dX12_set_98 : decode cX12_set 98 = .ok (.isub, 1) := by decide +kernel
theorem dX12_set_99 : decode cX12_set 99 = .ok (.aload_n 0, 1) := by decide +kernel
theorem dX12_set_100 : decode cX12_set 100 = .ok (.getfield 35, 3) := by decide +kernel
theorem dX12_set_103 : decode cX12_set 103 = .ok (.iload 5, 2) := by decide +kernel
theorem dX12_set_105 : decode cX12_set 105 = .ok (.iaload, 1) := by decide +kernel
theorem dX12_set_106 : decode cX12_set 106 = .ok (.iastore, 1) := by decide +kernel
theorem dX12_set_107 : decode cX12_set 107 = .ok (.iinc 5 1, 3) := by decide +kernel
theorem dX12_set_110 : decode cX12_set 110 = .ok (.goto (-26), 3) := by decide +kernel
theorem dX12_set_113 : decode cX12_set 113 = .ok (.aload_n 0, 1) := by decide +kernel
theorem dX12_set_114 : decode cX12_set 114 = .ok (.dup, 1) := by decide +kernel
theorem dX12_set_115 : decode cX12_set 115 = .ok (.getfield 104, 3) := by decide +kernel
theorem dX12_set_118 : decode cX12_set 118 = .ok (.iconst 1, 1) := by decide +kernel
theorem dX12_set_119 : decode cX12_set 119 = .ok (.isub, 1) := by decide +kernel
theorem dX12_set_120 : decode cX12_set 120 = .ok (.putfield 104, 3) := by decide +kernel
theorem dX12_set_123 : decode cX12_set 123 = .ok (.aload_n 0, 1) := by decide +kernel
theorem dX12_set_124 : decode cX12_set 124 = .ok (.getfield 35, 3) := by decide +kernel
theorem dX12_set_127 : decode cX12_set 127 = .ok (.iconst 4, 1) := by decide +kernel
theorem dX12_set_128 : decode cX12_set 128 = .ok (.aload_n 0, 1) := by decide +kernel
theorem dX12_set_129 : decode cX12_set 129 = .ok (.getfield 104, 3) := by decide +kernel
theorem dX12_set_132 : decode cX12_set 132 = .ok (.imul, 1) := by decide +kernel
theorem dX12_set_133 : decode cX12_set 133 = .ok (.iload_n 1, 1) := by decide +kernel
theorem dX12_set_134 : decode cX12_set 134 = .ok (.iastore, 1) := by decide +kernel
theorem dX12_set_135 : decode cX12_set 135 = .ok (.aload_n 0, 1) := by decide +kernel
theorem dX12_set_136 : decode cX12_set 136 = .ok (.getfield 35, 3) := by decide +kernel
theorem dX12_set_139 : decode cX12_set 139 = .ok (.iconst 4, 1) := by decide +kernel
theorem dX12_set_140 : decode cX12_set 140 = .ok (.aload_n 0, 1) := by decide +kernel
theorem dX12_set_141 : decode cX12_set 141 = .ok (.getfield 104, 3) := by decide +kernel
theorem dX12_set_144 : decode cX12_set 144 = .ok (.imul, 1) := by decide +kernel
theorem dX12_set_145 : decode cX12_set 145 = .ok (.iconst 1, 1) := by decide +kernel
theorem dX12_set_146 : decode cX12_set 146 = .ok (.iadd, 1) := by decide +kernel
theorem dX12_set_147 : decode cX12_set 147 = .ok (.iload_n 2, 1) := by decide +kernel
theorem dX12_set_148 : decode cX12_set 148 = .ok (.iastore, 1) := by decide +kernel
theorem dX12_set_149 : decode cX12_set 149 = .ok (.aload_n 0, 1) := by decide +kernel
theorem dX12_set_150 : decode cX12_set 150 = .ok (.getfield 35, 3) := by decide +kernel
theorem dX12_set_153 : decode cX12_set 153 = .ok (.iconst 4, 1) := by decide +kernel
theorem dX12_set_154 : decode cX12_set 154 = .ok (.aload_n 0, 1) := by decide +kernel
theorem dX12_set_155 : decode cX12_set 155 = .ok (.getfield 104, 3) := by decide +kernel
theorem dX12_set_158 : decode cX12_set 158 = .ok (.imul, 1) := by decide +kernel
theorem dX12_set_159 : decode cX12_set 159 = .ok (.iconst 2, 1) := by decide +kernel
theorem dX12_set_160 : decode cX12_set 160 = .ok (.iadd, 1) := by decide +kernel
theorem dX12_set_161 : decode cX12_set 161 = .ok (.iload 4, 2) := by decide +kernel
theorem dX12_set_163 : decode cX12_set 163 = .ok (.iastore, 1) := by decide +kernel
theorem dX12_set_164 : decode cX12_set 164 = .ok (.aload_n 0, 1) := by decide +kernel
theorem dX12_set_165 : decode cX12_set 165 = .ok (.getfield 35, 3) := by decide +kernel
theorem dX12_set_168 : decode cX12_set 168 = .ok (.iconst 4, 1) := by decide +kernel
theorem dX12_set_169 : decode cX12_set 169 = .ok (.aload_n 0, 1) := by decide +kernel
theorem dX12_set_170 : decode cX12_set 170 = .ok (.getfield 104, 3) := by decide +kernel
theorem dX12_set_173 : decode cX12_set 173 = .ok (.imul, 1) := by decide +kernel
theorem dX12_set_174 : decode cX12_set 174 = .ok (.iconst 3, 1) := by decide +kernel
theorem dX12_set_175 : decode cX12_set 175 = .ok (.iadd, 1) := by decide +kernel
theorem dX12_set_176 : decode cX12_set 176 = .ok (.iload_n 3, 1) := by decide +kernel
theorem dX12_set_177 : decode cX12_set 177 = .ok (.iastore, 1) := by decide +kernel
theorem dX12_set_178 : decode cX12_set 178 = .ok (.aload_n 0, 1) := by decide +kernel
theorem dX12_set_179 : decode cX12_set 179 = .ok (.dup, 1) := by decide +kernel
theorem dX12_set_180 : decode cX12_set 180 = .ok (.getfield 104, 3) := by decide +kernel
theorem dX12_set_183 : decode cX12_set 183 = .ok (.iconst 1, 1) := by decide +kernel
theorem dX12_set_184 : decode cX12_set 184 = .ok (.iadd, 1) := by decide +kernel
theorem dX12_set_185 : decode cX12_set 185 = .ok (.putfield 104, 3) := by decide +kernel
theorem dX12_set_188 : decode cX12_set 188 = .ok (.aload_n 0, 1) := by decide +kernel
theorem dX12_set_189 : decode cX12_set 189 = .ok (.iconst 0, 1) := by decide +kernel
theorem dX12_set_190 : decode cX12_set 190 = .ok (.putfield 107, 3) := by decide +kernel
theorem dX12_set_193 : decode cX12_set 193 = .ok (.aload_n 0, 1) := by decide +kernel
theorem dX12_set_194 : decode cX12_set 194 = .ok (.iload_n 1, 1) := by decide +kernel
theorem dX12_set_195 : decode cX12_set 195 = .ok (.iload_n 2, 1) := by decide +kernel
theorem dX12_set_196 : decode cX12_set 196 = .ok (.iload_n 3, 1) := by decide +kernel
theorem dX12_set_197 : decode cX12_set 197 = .ok (.invokevirtual 135, 3) := by decide +kernel
theorem dX12_set_200 : decode cX12_set 200 = .ok (.iload 4, 2) := by decide +kernel
theorem dX12_set_202 : decode cX12_set 202 = .ok (.ireturn, 1) := by decide +kernel
theorem dX12_undo_0 : decode cX12_undo 0 = .ok (.aload_n 0, 1) := by decide +kernel
theorem dX12_undo_1 : decode cX12_undo 1 = .ok (.getfield 104, 3) := by decide +kernel
theorem dX12_undo_4 : decode cX12_undo 4 = .ok (.ifCond .ne 6, 3) := by decide +kernel
theorem dX12_undo_7 : decode cX12_undo 7 = .ok (.bipush (-5), 2) := by decide +kernel
theorem dX12_undo_9 : decode cX12_undo 9 = .ok (.ireturn, 1) := by decide +kernel
theorem dX12_undo_10 : decode cX12_undo 10 = .ok (.aload_n 0, 1) := by decide +kernel
theorem dX12_undo_11 : decode cX12_undo 11 = .ok (.dup, 1) := by decide +kernel
theorem dX12_undo_12 : decode cX12_undo 12 = .ok (.getfield 104, 3) := by decide +kernel
theorem dX12_undo_15 : decode cX12_undo 15 = .ok (.iconst 1, 1) := by decide +kernel
theorem dX12_undo_16 : decode cX12_undo 16 = .ok (.isub, 1) := by decide +kernel
theorem dX12_undo_17 : decode cX12_undo 17 = .ok (.putfield 104, 3) := by decide +kernel
theorem dX12_undo_20 : decode cX12_undo 20 = .ok (.aload_n 0, 1) := by decide +kernel
theorem dX12_undo_21 : decode cX12_undo 21 = .ok (.dup, 1) := by decide +kernel
theorem dX12_undo_22 : decode cX12_undo 22 = .ok (.getfield 107, 3) := by decide +kernel
theorem dX12_undo_25 : decode cX12_undo 25 = .ok (.iconst 1, 1) := by decide +kernel
theorem dX12_undo_26 : decode cX12_undo 26 = .ok (.iadd, 1) := by decide +kernel
theorem dX12_undo_27 : decode cX12_undo 27 = .ok (.putfield 107, 3) := by decide +kernel
theorem dX12_undo_30 : decode cX12_undo 30 = .ok (.aload_n 0, 1) := by decide +kernel
theorem dX12_undo_31 : decode cX12_undo 31 = .ok (.aload_n 0, 1) := by decide +kernel
theorem dX12_undo_32 : decode cX12_undo 32 = .ok (.getfield 35, 3) := by decide +kernel
theorem dX12_undo_35 : decode cX12_undo 35 = .ok (.iconst 4, 1) := by decide +kernel
theorem dX12_undo_36 : decode cX12_undo 36 = .ok (.aload_n 0, 1) := by decide +kernel
theorem dX12_undo_37 : decode cX12_undo 37 = .ok (.getfield 104, 3) := by decide +kernel
theorem dX12_undo_40 : decode cX12_undo 40 = .ok (.imul, 1) := by decide +kernel
theorem dX12_undo_41 : decode cX12_undo 41 = .ok (.iaload, 1) := by decide +kernel
theorem dX12_undo_42 : decode cX12_undo 42 = .ok (.aload_n 0, 1) := by decide +kernel
theorem dX12_undo_43 : decode cX12_undo 43 = .ok (.getfield 35, 3) := by decide +kernel
theorem dX12_undo_46 : decode cX12_undo 46 = .ok (.iconst 4, 1) := by decide +kernel
theorem dX12_undo_47 : decode cX12_undo 47 = .ok (.aload_n 0, 1) := by decide +kernel
theorem dX12_undo_48 : decode cX12_undo 48 = .ok (.getfield 104, 3) := by decide +kernel
theorem dX12_undo_51 : decode cX12_undo 51 = .ok (.imul, 1) := by decide +kernel
theorem dX12_undo_52 : decode cX12_undo 52 = .ok (.iconst 1, 1) := by decide +kernel
theorem dX12_undo_53 : decode cX12_undo 53 = .ok (.iadd, 1) := by decide +kernel
theorem dX12_undo_54 : decode cX12_undo 54 = .ok (.iaload, 1) := by decide +kernel
theorem dX12_undo_55 : decode cX12_undo 55 = .ok (.aload_n 0, 1) := by decide +kernel
theorem dX12_undo_56 : decode cX12_undo 56 = .ok (.getfield 35, 3) := by decide +kernel
theorem dX12_undo_59 : decode cX12_undo 59 = .ok (.iconst 4, 1) := by decide +kernel
theorem dX12_undo_60 : decode cX12_undo 60 = .ok (.aload_n 0, 1) := by decide +kernel
theorem dX12_undo_61 : decode cX12_undo 61 = .ok (.getfield 104, 3) := by decide +kernel
theorem dX12_undo_64 : decode cX12_undo 64 = .ok (.imul, 1) := by decide +kernel
theorem dX12_undo_65 : decode cX12_undo 65 = .ok (.iconst 2, 1) := by decide +kernel
theorem dX12_undo_66 : decode cX12_undo 66 = .ok (.iadd, 1) := by decide +kernel
theorem dX12_undo_67 : decode cX12_undo 67 = .ok (.iaload, 1) := by decide +kernel
theorem dX12_undo_68 : decode cX12_undo 68 = .ok (.invokevirtual 135, 3) := by decide +kernel
theorem dX12_undo_71 : decode cX12_undo 71 = .ok (.aload_n 0, 1) := by decide +kernel
theorem dX12_undo_72 : decode cX12_undo 72 = .ok (.getfield 104, 3) := by decide +kernel
theorem dX12_undo_75 : decode cX12_undo 75 = .ok (.ireturn, 1) := by decide +kernel
theorem dX12_redo_0 : decode cX12_redo 0 = .ok (.aload_n 0, 1) := by decide +kernel
theorem dX12_redo_1 : decode cX12_redo 1 = .ok (.getfield 107, 3) := by decide +kernel
theorem dX12_redo_4 : decode cX12_redo 4 = .ok (.ifCond .ne 6, 3) := by decide +kernel
theorem dX12_redo_7 : decode cX12_redo 7 = .ok (.bipush (-5), 2) := by decide +kernel
theorem dX12_redo_9 : decode cX12_redo 9 = .ok (.ireturn, 1) := by decide +kernel
theorem dX12_redo_10 : decode cX12_redo 10 = .ok (.aload_n 0, 1) := by decide +kernel
theorem dX12_redo_11 : decode cX12_redo 11 = .ok (.aload_n 0, 1) := by decide +kernel
theorem dX12_redo_12 : decode cX12_redo 12 = .ok (.getfield 35, 3) := by decide +kernel
theorem dX12_redo_15 : decode cX12_redo 15 = .ok (.iconst 4, 1) := by decide +kernel
theorem dX12_redo_16 : decode cX12_redo 16 = .ok (.aload_n 0, 1) := by decide +kernel
theorem dX12_redo_17 : decode cX12_redo 17 = .ok (.getfield 104, 3) := by decide +kernel
theorem dX12_redo_20 : decode cX12_redo 20 = .ok (.imul, 1) := by decide +kernel
theorem dX12_redo_21 : decode cX12_redo 21 = .ok (.iaload, 1) := by decide +kernel
theorem dX12_redo_22 : decode cX12_redo 22 = .ok (.aload_n 0, 1) := by decide +kernel
theorem dX12_redo_23 : decode cX12_redo 23 = .ok (.getfield 35, 3) := by decide +kernel
theorem dX12_redo_26 : decode cX12_redo 26 = .ok (.iconst 4, 1) := by decide +kernel
theorem dX12_redo_27 : decode cX12_redo 27 = .ok (.aload_n 0, 1) := by decide +kernel
theorem dX12_redo_28 : decode cX12_redo 28 = .ok (.getfield 104, 3) := by decide +kernel
theorem dX12_redo_31 : decode cX12_redo 31 = .ok (.imul, 1) := by decide +kernel
theorem dX12_redo_32 : decode cX12_redo 32 = .ok (.iconst 1, 1) := by decide +kernel
theorem dX12_redo_33 : decode cX12_redo 33 = .ok (.iadd, 1) := by decide +kernel
theorem dX12_redo_34 : decode cX12_redo 34 = .ok (.iaload, 1) := by decide +kernel
theorem dX12_redo_35 : decode cX12_redo 35 = .ok (.aload_n 0, 1) := by decide +kernel
theorem dX12_redo_36 : decode cX12_redo 36 = .ok (.getfield 35, 3) := by decide +kernel
theorem dX12_redo_39 : decode cX12_redo 39 = .ok (.iconst 4, 1) := by decide +kernel
theorem dX12_redo_40 : decode cX12_redo 40 = .ok (.aload_n 0, 1) := by decide +kernel
theorem dX12_redo_41 : decode cX12_redo 41 = .ok (.getfield 104, 3) := by decide +kernel
theorem dX12_redo_44 : decode cX12_redo 44 = .ok (.imul, 1) := by decide +kernel
theorem dX12_redo_45 : decode cX12_redo 45 = .ok (.iconst 3, 1) := by decide +kernel
theorem dX12_redo_46 : decode cX12_redo 46 = .ok (.iadd, 1) := by decide +kernel
theorem dX12_redo_47 : decode cX12_redo 47 = .ok (.iaload, 1) := by decide +kernel
theorem dX12_redo_48 : decode cX12_redo 48 = .ok (.invokevirtual 135, 3) := by decide +kernel
theorem dX12_redo_51 : decode cX12_redo 51 = .ok (.aload_n 0, 1) := by decide +kernel
theorem dX12_redo_52 : decode cX12_redo 52 = .ok (.dup, 1) := by decide +kernel
theorem dX12_redo_53 : decode cX12_redo 53 = .ok (.getfield 104, 3) := by decide +kernel
theorem dX12_redo_56 : decode cX12_redo 56 = .ok (.iconst 1, 1) := by decide +kernel
theorem dX12_redo_57 : decode cX12_redo 57 = .ok (.iadd, 1) := by decide +kernel
theorem dX12_redo_58 : decode cX12_redo 58 = .ok (.putfield 104, 3) := by decide +kernel
theorem dX12_redo_61 : decode cX12_redo 61 = .ok (.aload_n 0, 1) := by decide +kernel
theorem dX12_redo_62 : decode cX12_redo 62 = .ok (.dup, 1) := by decide +kernel
theorem dX12_redo_63 : decode cX12_redo 63 = .ok (.getfield 107, 3) := by decide +kernel
theorem dX12_redo_66 : decode cX12_redo 66 = .ok (.iconst 1, 1) := by decide +kernel
theorem dX12_redo_67 : decode cX12_redo 67 = .ok (.isub, 1) := by decide +kernel
theorem dX12_redo_68 : decode cX12_redo 68 = .ok (.putfield 107, 3) := by decide +kernel
theorem dX12_redo_71 : decode cX12_redo 71 = .ok (.aload_n 0, 1) := by decide +kernel
theorem dX12_redo_72 : decode cX12_redo 72 = .ok (.getfield 107, 3) := by decide +kernel
theorem dX12_redo_75 : decode cX12_redo 75 = .ok (.ireturn, 1) := by decide +kernel
theorem dX12_mirrored_0 : decode cX12_mirrored 0 = .ok (.iconst 0, 1) := by decide +kernel
theorem dX12_mirrored_1 : decode cX12_mirrored 1 = .ok (.istore_n 2, 1) := by decide +kernel
theorem dX12_mirrored_2 : decode cX12_mirrored 2 = .ok (.iconst 0, 1) := by decide +kernel
theorem dX12_mirrored_3 : decode cX12_mirrored 3 = .ok (.istore_n 3, 1) := by decide +kernel
theorem dX12_mirrored_4 : decode cX12_mirrored 4 = .ok (.iload_n 3, 1) := by decide +kernel
theorem dX12_mirrored_5 : decode cX12_mirrored 5 = .ok (.aload_n 0, 1) := by decide +kernel
theorem dX12_mirrored_6 : decode cX12_mirrored 6 = .ok (.getfield 9, 3) := by decide +kernel
theorem dX12_mirrored_9 : decode cX12_mirrored 9 = .ok (.if_icmp .ge 35, 3) := by decide +kernel
theorem dX12_mirrored_12 : decode cX12_mirrored 12 = .ok (.iload_n 2, 1) := by decide +kernel
theorem dX12_mirrored_13 : decode cX12_mirrored 13 = .ok (.iload_n 1, 1) := by decide +kernel
theorem dX12_mirrored_14 : decode cX12_mirrored 14 = .ok (.iload_n 3, 1) := by decide +kernel
theorem dX12_mirrored_15 : decode cX12_mirrored 15 = .ok (.ishr, 1) := by decide +kernel
theorem dX12_mirrored_16 : decode cX12_mirrored 16 = .ok (.iconst 1, 1) := by decide +kernel
theorem dX12_mirrored_17 : decode cX12_mirrored 17 = .ok (.iand, 1) := by decide +kernel
theorem dX12_mirrored_18 : decode cX12_mirrored 18 = .ok (.iconst 1, 1) := by decide +kernel
theorem dX12_mirrored_19 : decode cX12_mirrored 19 = .ok (.if_icmp .ne 16, 3) := by decide +kernel
theorem dX12_mirrored_22 : decode cX12_mirrored 22 = .ok (.iconst 1, 1) := by decide +kernel
theorem dX12_mirrored_23 : decode cX12_mirrored 23 = .ok (.aload_n 0, 1) := by decide +kernel
theorem dX12_mirrored_24 : decode cX12_mirrored 24 = .ok (.getfield 9, 3) := by decide +kernel
theorem dX12_mirrored_27 : decode cX12_mirrored 27 = .ok (.iconst 1, 1) := by decide +kernel
theorem dX12_mirrored_28 : decode cX12_mirrored 28 = .ok (.isub, 1) := by decide +kernel
theorem dX12_mirrored_29 : decode cX12_mirrored 29 = .ok (.iload_n 3, 1) := by decide +kernel
theorem dX12_mirrored_30 : decode cX12_mirrored 30 = .ok (.isub, 1) := by decide +kernel
theorem dX12_mirrored_31 : decode cX12_mirrored 31 = .ok (.ishl, 1) := by decide +kernel
theorem dX12_mirrored_32 : decode cX12_mirrored 32 = .ok (.goto 4, 3) := by decide +kernel
theorem dX12_mirrored_35 : decode cX12_mirrored 35 = .ok (.iconst 0, 1) := by decide +kernel
theorem dX12_mirrored_36 : decode cX12_mirrored 36 = .ok (.ior, 1) := by decide +kernel
theorem dX12_mirrored_37 : decode cX12_mirrored 37 = .ok (.istore_n 2, 1) := by decide +kernel
theorem dX12_mirrored_38 : decode cX12_mirrored 38 = .ok (.iinc 3 1, 3) := by decide +kernel
theorem dX12_mirrored_41 : decode cX12_mirrored 41 = .ok (.goto (-37), 3) := by decide +kernel
theorem dX12_mirrored_44 : decode cX12_mirrored 44 = .ok (.iload_n 2, 1) := by decide +kernel
theorem dX12_mirrored_45 : decode cX12_mirrored 45 = .ok (.ireturn, 1) := by decide +kernel
theorem dX12_isPartOfOne_0 : decode cX12_isPartOfOne 0 = .ok (.iconst 0, 1) := by decide +kernel
theorem dX12_isPartOfOne_1 : decode cX12_isPartOfOne 1 = .ok (.istore 4, 2) := by decide +kernel
theorem dX12_isPartOfOne_3 : decode cX12_isPartOfOne 3 = .ok (.iload 4, 2) := by decide +kernel
theorem dX12_isPartOfOne_5 : decode cX12_isPartOfOne 5 = .ok (.aload_n 0, 1) := by decide +kernel
theorem dX12_isPartOfOne_6 : decode cX12_isPartOfOne 6 = .ok (.invokevirtual 115, 3) := by decide +kernel
theorem dX12_isPartOfOne_9 : decode cX12_isPartOfOne 9 = .ok (.if_icmp .ge 28, 3) := by decide +kernel
theorem dX12_isPartOfOne_12 : decode cX12_isPartOfOne 12 = .ok (.lload_n 2, 1) := by decide +kernel
theorem dX12_isPartOfOne_13 : decode cX12_isPartOfOne 13 = .ok (.iload 4, 2) := by decide +kernel
theorem dX12_isPartOfOne_15 : decode cX12_isPartOfOne 15 = .ok (.invokestatic 139, 3) := by decide +kernel
theorem dX12_isPartOfOne_18 : decode cX12_isPartOfOne 18 = .ok (.ifCond .eq 13, 3) := by decide +kernel
theorem dX12_isPartOfOne_21 : decode cX12_isPartOfOne 21 = .ok (.iload_n 1, 1) := by decide +kernel
theorem dX12_isPartOfOne_22 : decode cX12_isPartOfOne 22 = .ok (.iload 4, 2) := by decide +kernel
theorem dX12_isPartOfOne_24 : decode cX12_isPartOfOne 24 = .ok (.iand, 1) := by decide +kernel
theorem dX12_isPartOfOne_25 : decode cX12_isPartOfOne 25 = .ok (.iload_n 1, 1) := by decide +kernel
theorem dX12_isPartOfOne_26 : decode cX12_isPartOfOne 26 = .ok (.if_icmp .ne 5, 3) := by decide +kernel
theorem dX12_isPartOfOne_29 : decode cX12_isPartOfOne 29 = .ok (.iconst 1, 1) := by decide +kernel
theorem dX12_isPartOfOne_30 : decode cX12_isPartOfOne 30 = .ok (.ireturn, 1) := by decide +kernel
theorem dX12_isPartOfOne_31 : decode cX12_isPartOfOne 31 = .ok (.iinc 4 1, 3) := by decide +kernel
theorem dX12_isPartOfOne_34 : decode cX12_isPartOfOne 34 = .ok (.goto (-31), 3) := by decide +kernel
theorem dX12_isPartOfOne_37 : decode cX12_isPartOfOne 37 = .ok (.iconst 0, 1) := by decide +kernel
theorem dX12_isPartOfOne_38 : decode cX12_isPartOfOne 38 = .ok (.ireturn, 1) := by decide +kernel
theorem dX12_setsBy_0 : decode cX12_setsBy 0 = .ok (.lload_n 3, 1) := by decide +kernel
theorem dX12_setsBy_1 : decode cX12_setsBy 1 = .ok (.aload_n 0, 1) := by decide +kernel
theorem dX12_setsBy_2 : decode cX12_setsBy 2 = .ok (.invokevirtual 115, 3) := by decide +kernel
theorem dX12_setsBy_5 : decode cX12_setsBy 5 = .ok (.invokestatic 119, 3) := by decide +kernel
theorem dX12_setsBy_8 : decode cX12_setsBy 8 = .ok (.land, 1) := by decide +kernel
theorem dX12_setsBy_9 : decode cX12_setsBy 9 = .ok (.lstore 5, 2) := by decide +kernel
theorem dX12_setsBy_11 : decode cX12_setsBy 11 = .ok (.lconst 0, 1) := by decide +kernel
theorem dX12_setsBy_12 : decode cX12_setsBy 12 = .ok (.lstore 7, 2) := by decide +kernel
theorem dX12_setsBy_14 : decode cX12_setsBy 14 = .ok (.iconst 0, 1) := by decide +kernel
theorem dX12_setsBy_15 : decode cX12_setsBy 15 = .ok (.istore 9, 2) := by decide +kernel
theorem dX12_setsBy_17 : decode cX12_setsBy 17 = .ok (.iload 9, 2) := by decide +kernel
theorem dX12_setsBy_19 : decode cX12_setsBy 19 = .ok (.aload_n 0, 1) := by decide +kernel
theorem dX12_setsBy_20 : decode cX12_setsBy 20 = .ok (.invokevirtual 115, 3) := by decide +kernel
theorem dX12_setsBy_23 : decode cX12_setsBy 23 = .ok (.if_icmp .ge 189, 3) := by decide +kernel
theorem dX12_setsBy_26 : decode cX12_setsBy 26 = .ok (.lload 5, 2) := by decide +kernel
theorem dX12_setsBy_28 : decode cX12_setsBy 28 = .ok (.iload 9, 2) := by decide +kernel
theorem dX12_setsBy_30 : decode cX12_setsBy 30 = .ok (.invokestatic 139, 3) := by decide +kernel
theorem dX12_setsBy_33 : decode cX12_setsBy 33 = .ok (.istore 10, 2) := by decide +kernel
theorem dX12_setsBy_35 : decode cX12_setsBy 35 = .ok (.iload_n 1, 1) := by decide +kernel
theorem dX12_setsBy_36 : decode cX12_setsBy 36 = .ok (.tableswitch 142 0 5 #[40, 61, 82, 142, 142, 110], 40) := by decide +kernel
theorem dX12_setsBy_76 : decode cX12_setsBy 76 = .ok (.lload 7, 2) := by decide +kernel
theorem dX12_setsBy_78 : decode cX12_setsBy 78 = .ok (.iload 10, 2) := by decide +kernel
theorem dX12_setsBy_80 : decode cX12_setsBy 80 = .ok (.ifCond .eq 10, 3) := by decide +kernel
theorem dX12_setsBy_83 : decode cX12_setsBy 83 = .ok (.lconst 1, 1) := by decide +kernel
theorem dX12_setsBy_84 : decode cX12_setsBy 84 = .ok (.iload 9, 2) := by decide +kernel
theorem dX12_setsBy_86 : decode cX12_setsBy 86 = .ok (.lshl, 1) := by decide +kernel
theorem dX12_setsBy_87 : decode cX12_setsBy 87 = .ok (.goto 4, 3) := by decide +kernel
theorem dX12_setsBy_90 : decode cX12_setsBy 90 = .ok (.lconst 0, 1) := by decide +kernel
theorem dX12_setsBy_91 : decode cX12_setsBy 91 = .ok (.lor, 1) := by decide +kernel
theorem dX12_setsBy_92 : decode cX12_setsBy 92 = .ok (.lstore 7, 2) := by decide +kernel
theorem dX12_setsBy_94 : decode cX12_setsBy 94 = .ok (.goto 112, 3) := by decide +kernel
theorem dX12_setsBy_97 : decode cX12_setsBy 97 = .ok (.lload 7, 2) := by decide +kernel
theorem dX12_setsBy_99 : decode cX12_setsBy 99 = .ok (.iload 10, 2) := by decide +kernel
theorem dX12_setsBy_101 : decode cX12_setsBy 101 = .ok (.ifCond .eq 7, 3) := by decide +kernel
theorem dX12_setsBy_104 : decode cX12_setsBy 104 = .ok (.lconst 0, 1) := by decide +kernel
theorem dX12_setsBy_105 : decode cX12_setsBy 105 = .ok (.goto 7, 3) := by decide +kernel
theorem dX12_setsBy_108 : decode cX12_setsBy 108 = .ok (.lconst 1, 1) := by decide +kernel
theorem dX12_setsBy_109 : decode cX12_setsBy 109 = .ok (.iload 9, 2) := by decide +kernel
theorem dX12_setsBy_111 : decode cX12_setsBy 111 = .ok (.lshl, 1) := by decide +kernel
theorem dX12_setsBy_112 : decode cX12_setsBy 112 = .ok (.lor, 1) := by decide +kernel
theorem dX12_setsBy_113 : decode cX12_setsBy 113 = .ok (.lstore 7, 2) := by decide +kernel
theorem dX12_setsBy_115 : decode cX12_setsBy 115 = .ok (.goto 91, 3) := by decide +kernel
theorem dX12_setsBy_118 : decode cX12_setsBy 118 = .ok (.lload 7, 2) := by decide +kernel
theorem dX12_setsBy_120 : decode cX12_setsBy 120 = .ok (.iload 10, 2) := by decide +kernel
theorem dX12_setsBy_122 : decode cX12_setsBy 122 = .ok (.ifCond .eq 17, 3) := by decide +kernel
theorem dX12_setsBy_125 : decode cX12_setsBy 125 = .ok (.lconst 1, 1) := by decide +kernel
theorem dX12_setsBy_126 : decode cX12_setsBy 126 = .ok (.aload_n 0, 1) := by decide +kernel
theorem dX12_setsBy_127 : decode cX12_setsBy 127 = .ok (.invokevirtual 115, 3) := by decide +kernel
theorem dX12_setsBy_130 : decode cX12_setsBy 130 = .ok (.iconst 1, 1) := by decide +kernel
theorem dX12_setsBy_131 : decode cX12_setsBy 131 = .ok (.isub, 1) := by decide +kernel
theorem dX12_setsBy_132 : decode cX12_setsBy 132 = .ok (.iload 9, 2) := by decide +kernel
theorem dX12_setsBy_134 : decode cX12_setsBy 134 = .ok (.isub, 1) := by decide +kernel
theorem dX12_setsBy_135 : decode cX12_setsBy 135 = .ok (.lshl, 1) := by decide +kernel
theorem dX12_setsBy_136 : decode cX12_setsBy 136 = .ok (.goto 4, 3) := by decide +kernel
theorem dX12_setsBy_139 : decode cX12_setsBy 139 = .ok (.lconst 0, 1) := by decide +kernel
theorem dX12_setsBy_140 : decode cX12_setsBy 140 = .ok (.lor, 1) := by decide +kernel
theorem dX12_setsBy_141 : decode cX12_setsBy 141 = .ok (.lstore 7, 2) := by decide +kernel
theorem dX12_setsBy_143 : decode cX12_setsBy 143 = .ok (.goto 63, 3) := by decide +kernel
theorem dX12_setsBy_146 : decode cX12_setsBy 146 = .ok (.lload 7, 2) := by decide +kernel
theorem dX12_setsBy_148 : decode cX12_setsBy 148 = .ok (.iload 10, 2) := by decide +kernel
theorem dX12_setsBy_150 : decode cX12_setsBy 150 = .ok (.ifCond .eq 21, 3) := by decide +kernel
theorem dX12_setsBy_153 : decode cX12_setsBy 153 = .ok (.lconst 1, 1) := by decide +kernel
theorem dX12_setsBy_154 : decode cX12_setsBy 154 = .ok (.aload_n 0, 1) := by decide +kernel
theorem dX12_setsBy_155 : decode cX12_setsBy 155 = .ok (.aload_n 0, 1) := by decide +kernel
theorem dX12_setsBy_156 : decode cX12_setsBy 156 = .ok (.invokevirtual 115, 3) := by decide +kernel
theorem dX12_setsBy_159 : decode cX12_setsBy 159 = .ok (.iconst 1, 1) := by decide +kernel
theorem dX12_setsBy_160 : decode cX12_setsBy 160 = .ok (.isub, 1) := by decide +kernel
theorem dX12_setsBy_161 : decode cX12_setsBy 161 = .ok (.iload 9, 2) := by decide +kernel
theorem dX12_setsBy_163 : decode cX12_setsBy 163 = .ok (.isub, 1) := by decide +kernel
theorem dX12_setsBy_164 : decode cX12_setsBy 164 = .ok (.invokevirtual 143, 3) := by decide +kernel
theorem dX12_setsBy_167 : decode cX12_setsBy 167 = .ok (.lshl, 1) := by decide +kernel
theorem dX12_setsBy_168 : decode cX12_setsBy 168 = .ok (.goto 4, 3) := by decide +kernel
theorem dX12_setsBy_171 : decode cX12_setsBy 171 = .ok (.lconst 0, 1) := by decide +kernel
theorem dX12_setsBy_172 : decode cX12_setsBy 172 = .ok (.lor, 1) := by decide +kernel
theorem dX12_setsBy_173 : decode cX12_setsBy 173 = .ok (.lstore 7, 2) := by decide +kernel
theorem dX12_setsBy_175 : decode cX12_setsBy 175 = .ok (.goto 31, 3) := by decide +kernel
theorem dX12_setsBy_178 : decode cX12_setsBy 178 = .ok (.lload 7, 2) := by decide +kernel
theorem dX12_setsBy_180 : decode cX12_setsBy 180 = .ok (.iload 10, 2) := by decide +kernel
theorem dX12_setsBy_182 : decode cX12_setsBy 182 = .ok (.ifCond .eq 20, 3) := by decide +kernel
theorem dX12_setsBy_185 : decode cX12_setsBy 185 = .ok (.iload 9, 2) := by decide +kernel
theorem dX12_setsBy_187 : decode cX12_setsBy 187 = .ok (.i2l, 1) := by decide +kernel
theorem dX12_setsBy_188 : decode cX12_setsBy 188 = .ok (.invokestatic 147, 3) := by decide +kernel
theorem dX12_setsBy_191 : decode cX12_setsBy 191 = .ok (.iload_n 2, 1) := by decide +kernel
theorem dX12_setsBy_192 : decode cX12_setsBy 192 = .ok (.if_icmp .ne 10, 3) := by decide +kernel
theorem dX12_setsBy_195 : decode cX12_setsBy 195 = .ok (.lconst 1, 1) := by decide +kernel
theorem dX12_setsBy_196 : decode cX12_setsBy 196 = .ok (.iload 9, 2) := by decide +kernel
theorem dX12_setsBy_198 : decode cX12_setsBy 198 = .ok (.lshl, 1) := by decide +kernel
theorem dX12_setsBy_199 : decode cX12_setsBy 199 = .ok (.goto 4, 3) := by decide +kernel
theorem dX12_setsBy_202 : decode cX12_setsBy 202 = .ok (.lconst 0, 1) := by decide +kernel
theorem dX12_setsBy_203 : decode cX12_setsBy 203 = .ok (.lor, 1) := by decide +kernel
theorem dX12_setsBy_204 : decode cX12_setsBy 204 = .ok (.lstore 7, 2) := by decide +kernel
theorem dX12_setsBy_206 : decode cX12_setsBy 206 = .ok (.iinc 9 1, 3) := by decide +kernel
theorem dX12_setsBy_209 : decode cX12_setsBy 209 = .ok (.goto (-192), 3) := by decide +kernel
theorem dX12_setsBy_212 : decode cX12_setsBy 212 = .ok (.iload_n 1, 1) := by decide +kernel
theorem dX12_setsBy_213 : decode cX12_setsBy 213 = .ok (.iconst 4, 1) := by decide +kernel
theorem dX12_setsBy_214 : decode cX12_setsBy 214 = .ok (.if_icmp .eq 6, 3) := by decide +kernel
theorem dX12_setsBy_217 : decode cX12_setsBy 217 = .ok (.lload 7, 2) := by decide +kernel
theorem dX12_setsBy_219 : decode cX12_setsBy 219 = .ok (.lreturn, 1) := by decide +kernel
theorem dX12_setsBy_220 : decode cX12_setsBy 220 = .ok (.lconst 0, 1) := by decide +kernel
theorem dX12_setsBy_221 : decode cX12_setsBy 221 = .ok (.lstore 9, 2) := by decide +kernel
theorem dX12_setsBy_223 : decode cX12_setsBy 223 = .ok (.iconst 0, 1) := by decide +kernel
theorem dX12_setsBy_224 : decode cX12_setsBy 224 = .ok (.istore 11, 2) := by decide +kernel
theorem dX12_setsBy_226 : decode cX12_setsBy 226 = .ok (.iload 11, 2) := by decide +kernel
theorem dX12_setsBy_228 : decode cX12_setsBy 228 = .ok (.aload_n 0, 1) := by decide +kernel
theorem dX12_setsBy_229 : decode cX12_setsBy 229 = .ok (.invokevirtual 115, 3) := by decide +kernel
theorem dX12_setsBy_232 : decode cX12_setsBy 232 = .ok (.if_icmp .ge 33, 3) := by decide +kernel
theorem dX12_setsBy_235 : decode cX12_setsBy 235 = .ok (.lload 9, 2) := by decide +kernel
theorem dX12_setsBy_237 : decode cX12_setsBy 237 = .ok (.aload_n 0, 1) := by decide +kernel
theorem dX12_setsBy_238 : decode cX12_setsBy 238 = .ok (.iload 11, 2) := by decide +kernel
theorem dX12_setsBy_240 : decode cX12_setsBy 240 = .ok (.lload 7, 2) := by decide +kernel
theorem dX12_setsBy_242 : decode cX12_setsBy 242 = .ok (.invokevirtual 150, 3) := by decide +kernel
theorem dX12_setsBy_245 : decode cX12_setsBy 245 = .ok (.ifCond .eq 10, 3) := by decide +kernel
theorem dX12_setsBy_248 : decode cX12_setsBy 248 = .ok (.lconst 1, 1) := by decide +kernel
theorem dX12_setsBy_249 : decode cX12_setsBy 249 = .ok (.iload 11, 2) := by decide +kernel
theorem dX12_setsBy_251 : decode cX12_setsBy 251 = .ok (.lshl, 1) := by decide +kernel
theorem dX12_setsBy_252 : decode cX12_setsBy 252 = .ok (.goto 4, 3) := by decide +kernel
theorem dX12_setsBy_255 : decode cX12_setsBy 255 = .ok (.lconst 0, 1) := by decide +kernel
theorem dX12_setsBy_256 : decode cX12_setsBy 256 = .ok (.lor, 1) := by decide +kernel
theorem dX12_setsBy_257 : decode cX12_setsBy 257 = .ok (.lstore 9, 2) := by decide +kernel
theorem dX12_setsBy_259 : decode cX12_setsBy 259 = .ok (.iinc 11 1, 3) := by decide +kernel
theorem dX12_setsBy_262 : decode cX12_setsBy 262 = .ok (.goto (-36), 3) := by decide +kernel
theorem dX12_setsBy_265 : decode cX12_setsBy 265 = .ok (.lload 9, 2) := by decide +kernel
theorem dX12_setsBy_267 : decode cX12_setsBy 267 = .ok (.lreturn, 1) := by decide +kernel
theorem dX12_setsOf_0 : decode cX12_setsOf 0 = .ok (.aload_n 0, 1) := by decide +kernel
theorem dX12_setsOf_1 : decode cX12_setsOf 1 = .ok (.aload_n 0, 1) := by decide +kernel
theorem dX12_setsOf_2 : decode cX12_setsOf 2 = .ok (.getfield 15, 3) := by decide +kernel
theorem dX12_setsOf_5 : decode cX12_setsOf 5 = .ok (.iload_n 1, 1) := by decide +kernel
theorem dX12_setsOf_6 : decode cX12_setsOf 6 = .ok (.iaload, 1) := by decide +kernel
theorem dX12_setsOf_7 : decode cX12_setsOf 7 = .ok (.aload_n 0, 1) := by decide +kernel
theorem dX12_setsOf_8 : decode cX12_setsOf 8 = .ok (.getfield 19, 3) := by decide +kernel
theorem dX12_setsOf_11 : decode cX12_setsOf 11 = .ok (.iload_n 1, 1) := by decide +kernel
theorem dX12_setsOf_12 : decode cX12_setsOf 12 = .ok (.iaload, 1) := by decide +kernel
theorem dX12_setsOf_13 : decode cX12_setsOf 13 = .ok (.aload_n 0, 1) := by decide +kernel
theorem dX12_setsOf_14 : decode cX12_setsOf 14 = .ok (.getfield 28, 3) := by decide +kernel
theorem dX12_setsOf_17 : decode cX12_setsOf 17 = .ok (.iload_n 1, 1) := by decide +kernel
theorem dX12_setsOf_18 : decode cX12_setsOf 18 = .ok (.laload, 1) := by decide +kernel
theorem dX12_setsOf_19 : decode cX12_setsOf 19 = .ok (.invokevirtual 154, 3) := by decide +kernel
theorem dX12_setsOf_22 : decode cX12_setsOf 22 = .ok (.lreturn, 1) := by decide +kernel
theorem dX12_shadow_0 : decode cX12_shadow 0 = .ok (.lconst 0, 1) := by decide +kernel
theorem dX12_shadow_1 : decode cX12_shadow 1 = .ok (.lstore 4, 2) := by decide +kernel
theorem dX12_shadow_3 : decode cX12_shadow 3 = .ok (.iconst 0, 1) := by decide +kernel
theorem dX12_shadow_4 : decode cX12_shadow 4 = .ok (.istore 6, 2) := by decide +kernel
theorem dX12_shadow_6 : decode cX12_shadow 6 = .ok (.iload 6, 2) := by decide +kernel
theorem dX12_shadow_8 : decode cX12_shadow 8 = .ok (.aload_n 0, 1) := by decide +kernel
theorem dX12_shadow_9 : decode cX12_shadow 9 = .ok (.invokevirtual 115, 3) := by decide +kernel
theorem dX12_shadow_12 : decode cX12_shadow 12 = .ok (.if_icmp .ge 74, 3) := by decide +kernel
theorem dX12_shadow_15 : decode cX12_shadow 15 = .ok (.iconst 0, 1) := by decide +kernel
theorem dX12_shadow_16 : decode cX12_shadow 16 = .ok (.istore 7, 2) := by decide +kernel
theorem dX12_shadow_18 : decode cX12_shadow 18 = .ok (.iload 7, 2) := by decide +kernel
theorem dX12_shadow_20 : decode cX12_shadow 20 = .ok (.aload_n 0, 1) := by decide +kernel
theorem dX12_shadow_21 : decode cX12_shadow 21 = .ok (.getfield 9, 3) := by decide +kernel
theorem dX12_shadow_24 : decode cX12_shadow 24 = .ok (.if_icmp .ge 56, 3) := by decide +kernel
theorem dX12_shadow_27 : decode cX12_shadow 27 = .ok (.lload_n 1, 1) := by decide +kernel
theorem dX12_shadow_28 : decode cX12_shadow 28 = .ok (.iload 6, 2) := by decide +kernel
theorem dX12_shadow_30 : decode cX12_shadow 30 = .ok (.invokestatic 139, 3) := by decide +kernel
theorem dX12_shadow_33 : decode cX12_shadow 33 = .ok (.ifCond .eq 47, 3) := by decide +kernel
theorem dX12_shadow_36 : decode cX12_shadow 36 = .ok (.lload 4, 2) := by decide +kernel
theorem dX12_shadow_38 : decode cX12_shadow 38 = .ok (.iload 6, 2) := by decide +kernel
theorem dX12_shadow_40 : decode cX12_shadow 40 = .ok (.iload 7, 2) := by decide +kernel
theorem dX12_shadow_42 : decode cX12_shadow 42 = .ok (.ishr, 1) := by decide +kernel
theorem dX12_shadow_43 : decode cX12_shadow 43 = .ok (.iconst 1, 1) := by decide +kernel
theorem dX12_shadow_44 : decode cX12_shadow 44 = .ok (.iand, 1) := by decide +kernel
theorem dX12_shadow_45 : decode cX12_shadow 45 = .ok (.iconst 1, 1) := by decide +kernel
theorem dX12_shadow_46 : decode cX12_shadow 46 = .ok (.if_icmp .ne 7, 3) := by decide +kernel
theorem dX12_shadow_49 : decode cX12_shadow 49 = .ok (.iconst 1, 1) := by decide +kernel
theorem dX12_shadow_50 : decode cX12_shadow 50 = .ok (.goto 4, 3) := by decide +kernel
theorem dX12_shadow_53 : decode cX12_shadow 53 = .ok (.iconst 0, 1) := by decide +kernel
theorem dX12_shadow_54 : decode cX12_shadow 54 = .ok (.iload_n 3, 1) := by decide +kernel
theorem dX12_shadow_55 : decode cX12_shadow 55 = .ok (.if_icmp .eq 15, 3) := by decide +kernel
theorem dX12_shadow_58 : decode cX12_shadow 58 = .ok (.lconst 1, 1) := by decide +kernel
theorem dX12_shadow_59 : decode cX12_shadow 59 = .ok (.iload 6, 2) := by decide +kernel
theorem dX12_shadow_61 : decode cX12_shadow 61 = .ok (.iconst 1, 1) := by decide +kernel
theorem dX12_shadow_62 : decode cX12_shadow 62 = .ok (.iload 7, 2) := by decide +kernel
theorem dX12_shadow_64 : decode cX12_shadow 64 = .ok (.ishl, 1) := by decide +kernel
theorem dX12_shadow_65 : decode cX12_shadow 65 = .ok (.ixor, 1) := by decide +kernel
theorem dX12_shadow_66 : decode cX12_shadow 66 = .ok (.lshl, 1) := by decide +kernel
theorem dX12_shadow_67 : decode cX12_shadow 67 = .ok (.goto 4, 3) := by decide +kernel
theorem dX12_shadow_70 : decode cX12_shadow 70 = .ok (.lconst 0, 1) := by decide +kernel
theorem dX12_shadow_71 : decode cX12_shadow 71 = .ok (.lor, 1) := by decide +kernel
theorem dX12_shadow_72 : decode cX12_shadow 72 = .ok (.lstore 4, 2) := by decide +kernel
theorem dX12_shadow_74 : decode cX12_shadow 74 = .ok (.iinc 7 1, 3) := by decide +kernel
theorem dX12_shadow_77 : decode cX12_shadow 77 = .ok (.goto (-59), 3) := by decide +kernel
theorem dX12_shadow_80 : decode cX12_shadow 80 = .ok (.iinc 6 1, 3) := by decide +kernel
theorem dX12_shadow_83 : decode cX12_shadow 83 = .ok (.goto (-77), 3) := by decide +kernel
theorem dX12_shadow_86 : decode cX12_shadow 86 = .ok (.lload 4, 2) := by decide +kernel
theorem dX12_shadow_88 : decode cX12_shadow 88 = .ok (.lreturn, 1) := by decide +kernel
theorem dX12_borderOf_0 : decode cX12_borderOf 0 = .ok (.aload_n 0, 1) := by decide +kernel
theorem dX12_borderOf_1 : decode cX12_borderOf 1 = .ok (.lload_n 1, 1) := by decide +kernel
theorem dX12_borderOf_2 : decode cX12_borderOf 2 = .ok (.iconst 0, 1) := by decide +kernel
theorem dX12_borderOf_3 : decode cX12_borderOf 3 = .ok (.invokevirtual 158, 3) := by decide +kernel
theorem dX12_borderOf_6 : decode cX12_borderOf 6 = .ok (.aload_n 0, 1) := by decide +kernel
theorem dX12_borderOf_7 : decode cX12_borderOf 7 = .ok (.lload_n 1, 1) := by decide +kernel
theorem dX12_borderOf_8 : decode cX12_borderOf 8 = .ok (.iconst 1, 1) := by decide +kernel
theorem dX12_borderOf_9 : decode cX12_borderOf 9 = .ok (.invokevirtual 158, 3) := by decide +kernel
theorem dX12_borderOf_12 : decode cX12_borderOf 12 = .ok (.lor, 1) := by decide +kernel
theorem dX12_borderOf_13 : decode cX12_borderOf 13 = .ok (.lload_n 1, 1) := by decide +kernel
theorem dX12_borderOf_14 : decode cX12_borderOf 14 = .ok (.ldc2_w 95, 3) := by decide +kernel
theorem dX12_borderOf_17 : decode cX12_borderOf 17 = .ok (.lxor, 1) := by decide +kernel
theorem dX12_borderOf_18 : decode cX12_borderOf 18 = .ok (.land, 1) := by decide +kernel
theorem dX12_borderOf_19 : decode cX12_borderOf 19 = .ok (.lreturn, 1) := by decide +kernel
theorem dX12_edges_0 : decode cX12_edges 0 = .ok (.iconst 0, 1) := by decide +kernel
theorem dX12_edges_1 : decode cX12_edges 1 = .ok (.istore_n 3, 1) := by decide +kernel
theorem dX12_edges_2 : decode cX12_edges 2 = .ok (.iconst 0, 1) := by decide +kernel
theorem dX12_edges_3 : decode cX12_edges 3 = .ok (.istore 4, 2) := by decide +kernel
theorem dX12_edges_5 : decode cX12_edges 5 = .ok (.iload 4, 2) := by decide +kernel
theorem dX12_edges_7 : decode cX12_edges 7 = .ok (.aload_n 0, 1) := by decide +kernel
theorem dX12_edges_8 : decode cX12_edges 8 = .ok (.invokevirtual 115, 3) := by decide +kernel
theorem dX12_edges_11 : decode cX12_edges 11 = .ok (.if_icmp .ge 58, 3) := by decide +kernel
theorem dX12_edges_14 : decode cX12_edges 14 = .ok (.iconst 0, 1) := by decide +kernel
theorem dX12_edges_15 : decode cX12_edges 15 = .ok (.istore 5, 2) := by decide +kernel
theorem dX12_edges_17 : decode cX12_edges 17 = .ok (.iload 5, 2) := by decide +kernel
theorem dX12_edges_19 : decode cX12_edges 19 = .ok (.aload_n 0, 1) := by decide +kernel
theorem dX12_edges_20 : decode cX12_edges 20 = .ok (.getfield 9, 3) := by decide +kernel
theorem dX12_edges_23 : decode cX12_edges 23 = .ok (.if_icmp .ge 40, 3) := by decide +kernel
theorem dX12_edges_26 : decode cX12_edges 26 = .ok (.lload_n 1, 1) := by decide +kernel
theorem dX12_edges_27 : decode cX12_edges 27 = .ok (.iload 4, 2) := by decide +kernel
theorem dX12_edges_29 : decode cX12_edges 29 = .ok (.invokestatic 139, 3) := by decide +kernel
theorem dX12_edges_32 : decode cX12_edges 32 = .ok (.ifCond .eq 31, 3) := by decide +kernel
theorem dX12_edges_35 : decode cX12_edges 35 = .ok (.iload_n 3, 1) := by decide +kernel
theorem dX12_edges_36 : decode cX12_edges 36 = .ok (.lload_n 1, 1) := by decide +kernel
theorem dX12_edges_37 : decode cX12_edges 37 = .ok (.iload 4, 2) := by decide +kernel
theorem dX12_edges_39 : decode cX12_edges 39 = .ok (.iconst 1, 1) := by decide +kernel
theorem dX12_edges_40 : decode cX12_edges 40 = .ok (.iload 5, 2) := by decide +kernel
theorem dX12_edges_42 : decode cX12_edges 42 = .ok (.ishl, 1) := by decide +kernel
theorem dX12_edges_43 : decode cX12_edges 43 = .ok (.ixor, 1) := by decide +kernel
theorem dX12_edges_44 : decode cX12_edges 44 = .ok (.invokestatic 139, 3) := by decide +kernel
theorem dX12_edges_47 : decode cX12_edges 47 = .ok (.ifCond .eq 7, 3) := by decide +kernel
theorem dX12_edges_50 : decode cX12_edges 50 = .ok (.iconst 0, 1) := by decide +kernel
theorem dX12_edges_51 : decode cX12_edges 51 = .ok (.goto 4, 3) := by decide +kernel
theorem dX12_edges_54 : decode cX12_edges 54 = .ok (.iconst 1, 1) := by decide +kernel
theorem dX12_edges_55 : decode cX12_edges 55 = .ok (.iadd, 1) := by decide +kernel
theorem dX12_edges_56 : decode cX12_edges 56 = .ok (.istore_n 3, 1) := by decide +kernel
theorem dX12_edges_57 : decode cX12_edges 57 = .ok (.iinc 5 1, 3) := by decide +kernel
theorem dX12_edges_60 : decode cX12_edges 60 = .ok (.goto (-43), 3) := by decide +kernel
theorem dX12_edges_63 : decode cX12_edges 63 = .ok (.iinc 4 1, 3) := by decide +kernel
theorem dX12_edges_66 : decode cX12_edges 66 = .ok (.goto (-61), 3) := by decide +kernel
theorem dX12_edges_69 : decode cX12_edges 69 = .ok (.iload_n 3, 1) := by decide +kernel
theorem dX12_edges_70 : decode cX12_edges 70 = .ok (.ireturn, 1) := by decide +kernel
theorem dX12_sets_0 : decode cX12_sets 0 = .ok (.aload_n 0, 1) := by decide +kernel
theorem dX12_sets_1 : decode cX12_sets 1 = .ok (.iload_n 1, 1) := by decide +kernel
theorem dX12_sets_2 : decode cX12_sets 2 = .ok (.invokevirtual 127, 3) := by decide +kernel
theorem dX12_sets_5 : decode cX12_sets 5 = .ok (.ifCond .ne 7, 3) := by decide +kernel
theorem dX12_sets_8 : decode cX12_sets 8 = .ok (.ldc2_w 162, 3) := by decide +kernel
theorem dX12_sets_11 : decode cX12_sets 11 = .ok (.lreturn, 1) := by decide +kernel
theorem dX12_sets_12 : decode cX12_sets 12 = .ok (.aload_n 0, 1) := by decide +kernel
theorem dX12_sets_13 : decode cX12_sets 13 = .ok (.iload_n 1, 1) := by decide +kernel
theorem dX12_sets_14 : decode cX12_sets 14 = .ok (.invokevirtual 164, 3) := by decide +kernel
theorem dX12_sets_17 : decode cX12_sets 17 = .ok (.lstore_n 3, 1) := by decide +kernel
theorem dX12_sets_18 : decode cX12_sets 18 = .ok (.iload_n 2, 1) := by decide +kernel
theorem dX12_sets_19 : decode cX12_sets 19 = .ok (.tableswitch 62 0 4 #[33, 35, 42, 49, 56], 33) := by decide +kernel
theorem dX12_sets_52 : decode cX12_sets 52 = .ok (.lload_n 3, 1) := by decide +kernel
theorem dX12_sets_53 : decode cX12_sets 53 = .ok (.lreturn, 1) := by decide +kernel
theorem dX12_sets_54 : decode cX12_sets 54 = .ok (.aload_n 0, 1) := by decide +kernel
theorem dX12_sets_55 : decode cX12_sets 55 = .ok (.getfield 28, 3) := by decide +kernel
theorem dX12_sets_58 : decode cX12_sets 58 = .ok (.iload_n 1, 1) := by decide +kernel
theorem dX12_sets_59 : decode cX12_sets 59 = .ok (.laload, 1) := by decide +kernel
theorem dX12_sets_60 : decode cX12_sets 60 = .ok (.lreturn, 1) := by decide +kernel
theorem dX12_sets_61 : decode cX12_sets 61 = .ok (.aload_n 0, 1) := by decide +kernel
theorem dX12_sets_62 : decode cX12_sets 62 = .ok (.lload_n 3, 1) := by decide +kernel
theorem dX12_sets_63 : decode cX12_sets 63 = .ok (.iconst 0, 1) := by decide +kernel
theorem dX12_sets_64 : decode cX12_sets 64 = .ok (.invokevirtual 158, 3) := by decide +kernel
theorem dX12_sets_67 : decode cX12_sets 67 = .ok (.lreturn, 1) := by decide +kernel
theorem dX12_sets_68 : decode cX12_sets 68 = .ok (.aload_n 0, 1) := by decide +kernel
theorem dX12_sets_69 : decode cX12_sets 69 = .ok (.lload_n 3, 1) := by decide +kernel
theorem dX12_sets_70 : decode cX12_sets 70 = .ok (.iconst 1, 1) := by decide +kernel
theorem dX12_sets_71 : decode cX12_sets 71 = .ok (.invokevirtual 158, 3) := by decide +kernel
theorem dX12_sets_74 : decode cX12_sets 74 = .ok (.lreturn, 1) := by decide +kernel
theorem dX12_sets_75 : decode cX12_sets 75 = .ok (.aload_n 0, 1) := by decide +kernel
theorem dX12_sets_76 : decode cX12_sets 76 = .ok (.lload_n 3, 1) := by decide +kernel
theorem dX12_sets_77 : decode cX12_sets 77 = .ok (.invokevirtual 167, 3) := by decide +kernel
theorem dX12_sets_80 : decode cX12_sets 80 = .ok (.lreturn, 1) := by decide +kernel
theorem dX12_sets_81 : decode cX12_sets 81 = .ok (.ldc2_w 162, 3) := by decide +kernel
theorem dX12_sets_84 : decode cX12_sets 84 = .ok (.lreturn, 1) := by decide +kernel
theorem dX12_of_0 : decode cX12_of 0 = .ok (.aload_n 0, 1) := by decide +kernel
theorem dX12_of_1 : decode cX12_of 1 = .ok (.iload_n 1, 1) := by decide +kernel
theorem dX12_of_2 : decode cX12_of 2 = .ok (.invokevirtual 127, 3) := by decide +kernel
theorem dX12_of_5 : decode cX12_of 5 = .ok (.ifCond .ne 5, 3) := by decide +kernel
theorem dX12_of_8 : decode cX12_of 8 = .ok (.iconst (-1), 1) := by decide +kernel
theorem dX12_of_9 : decode cX12_of 9 = .ok (.ireturn, 1) := by decide +kernel
theorem dX12_of_10 : decode cX12_of 10 = .ok (.aload_n 0, 1) := by decide +kernel
theorem dX12_of_11 : decode cX12_of 11 = .ok (.iload_n 1, 1) := by decide +kernel
theorem dX12_of_12 : decode cX12_of 12 = .ok (.invokevirtual 164, 3) := by decide +kernel
theorem dX12_of_15 : decode cX12_of 15 = .ok (.lstore_n 3, 1) := by decide +kernel
theorem dX12_of_16 : decode cX12_of 16 = .ok (.iload_n 2, 1) := by decide +kernel
theorem dX12_of_17 : decode cX12_of 17 = .ok (.tableswitch 97 0 6 #[43, 50, 57, 62, 72, 82, 91], 43) := by decide +kernel
theorem dX12_of_60 : decode cX12_of 60 = .ok (.aload_n 0, 1) := by decide +kernel
theorem dX12_of_61 : decode cX12_of 61 = .ok (.getfield 15, 3) := by decide +kernel
theorem dX12_of_64 : decode cX12_of 64 = .ok (.iload_n 1, 1) := by decide +kernel
theorem dX12_of_65 : decode cX12_of 65 = .ok (.iaload, 1) := by decide +kernel
theorem dX12_of_66 : decode cX12_of 66 = .ok (.ireturn, 1) := by decide +kernel
theorem dX12_of_67 : decode cX12_of 67 = .ok (.aload_n 0, 1) := by decide +kernel
theorem dX12_of_68 : decode cX12_of 68 = .ok (.getfield 19, 3) := by decide +kernel
theorem dX12_of_71 : decode cX12_of 71 = .ok (.iload_n 1, 1) := by decide +kernel
theorem dX12_of_72 : decode cX12_of 72 = .ok (.iaload, 1) := by decide +kernel
theorem dX12_of_73 : decode cX12_of 73 = .ok (.ireturn, 1) := by decide +kernel
theorem dX12_of_74 : decode cX12_of 74 = .ok (.lload_n 3, 1) := by decide +kernel
theorem dX12_of_75 : decode cX12_of 75 = .ok (.invokestatic 147, 3) := by decide +kernel
theorem dX12_of_78 : decode cX12_of 78 = .ok (.ireturn, 1) := by decide +kernel
theorem dX12_of_79 : decode cX12_of 79 = .ok (.aload_n 0, 1) := by decide +kernel
theorem dX12_of_80 : decode cX12_of 80 = .ok (.lload_n 3, 1) := by decide +kernel
theorem dX12_of_81 : decode cX12_of 81 = .ok (.iconst 0, 1) := by decide +kernel
theorem dX12_of_82 : decode cX12_of 82 = .ok (.invokevirtual 158, 3) := by decide +kernel
theorem dX12_of_85 : decode cX12_of 85 = .ok (.invokestatic 147, 3) := by decide +kernel
theorem dX12_of_88 : decode cX12_of 88 = .ok (.ireturn, 1) := by decide +kernel
theorem dX12_of_89 : decode cX12_of 89 = .ok (.aload_n 0, 1) := by decide +kernel
theorem dX12_of_90 : decode cX12_of 90 = .ok (.lload_n 3, 1) := by decide +kernel
theorem dX12_of_91 : decode cX12_of 91 = .ok (.iconst 1, 1) := by decide +kernel
theorem dX12_of_92 : decode cX12_of 92 = .ok (.invokevirtual 158, 3) := by decide +kernel
theorem dX12_of_95 : decode cX12_of 95 = .ok (.invokestatic 147, 3) := by decide +kernel
theorem dX12_of_98 : decode cX12_of 98 = .ok (.ireturn, 1) := by decide +kernel
theorem dX12_of_99 : decode cX12_of 99 = .ok (.aload_n 0, 1) := by decide +kernel
theorem dX12_of_100 : decode cX12_of 100 = .ok (.lload_n 3, 1) := by decide +kernel
theorem dX12_of_101 : decode cX12_of 101 = .ok (.invokevirtual 167, 3) := by decide +kernel
theorem dX12_of_104 : decode cX12_of 104 = .ok (.invokestatic 147, 3) := by decide +kernel
theorem dX12_of_107 : decode cX12_of 107 = .ok (.ireturn, 1) := by decide +kernel
theorem dX12_of_108 : decode cX12_of 108 = .ok (.aload_n 0, 1) := by decide +kernel
theorem dX12_of_109 : decode cX12_of 109 = .ok (.lload_n 3, 1) := by decide +kernel
theorem dX12_of_110 : decode cX12_of 110 = .ok (.invokevirtual 171, 3) := by decide +kernel
theorem dX12_of_113 : decode cX12_of 113 = .ok (.ireturn, 1) := by decide +kernel
theorem dX12_of_114 : decode cX12_of 114 = .ok (.iconst (-1), 1) := by decide +kernel
theorem dX12_of_115 : decode cX12_of 115 = .ok (.ireturn, 1) := by decide +kernel
theorem dX12_pressedBy_0 : decode cX12_pressedBy 0 = .ok (.lconst 0, 1) := by decide +kernel
theorem dX12_pressedBy_1 : decode cX12_pressedBy 1 = .ok (.lstore 5, 2) := by decide +kernel
theorem dX12_pressedBy_3 : decode cX12_pressedBy 3 = .ok (.lconst 0, 1) := by decide +kernel
theorem dX12_pressedBy_4 : decode cX12_pressedBy 4 = .ok (.lstore 7, 2) := by decide +kernel
theorem dX12_pressedBy_6 : decode cX12_pressedBy 6 = .ok (.iconst 0, 1) := by decide +kernel
theorem dX12_pressedBy_7 : decode cX12_pressedBy 7 = .ok (.istore 9, 2) := by decide +kernel
theorem dX12_pressedBy_9 : decode cX12_pressedBy 9 = .ok (.iload 9, 2) := by decide +kernel
theorem dX12_pressedBy_11 : decode cX12_pressedBy 11 = .ok (.aload_n 0, 1) := by decide +kernel
theorem dX12_pressedBy_12 : decode cX12_pressedBy 12 = .ok (.invokevirtual 115, 3) := by decide +kernel
theorem dX12_pressedBy_15 : decode cX12_pressedBy 15 = .ok (.if_icmp .ge 80, 3) := by decide +kernel
theorem dX12_pressedBy_18 : decode cX12_pressedBy 18 = .ok (.iload 9, 2) := by decide +kernel
theorem dX12_pressedBy_20 : decode cX12_pressedBy 20 = .ok (.iconst 1, 1) := by decide +kernel
theorem dX12_pressedBy_21 : decode cX12_pressedBy 21 = .ok (.iload 4, 2) := by decide +kernel
theorem dX12_pressedBy_23 : decode cX12_pressedBy 23 = .ok (.ishl, 1) := by decide +kernel
theorem dX12_pressedBy_24 : decode cX12_pressedBy 24 = .ok (.iconst (-1), 1) := by decide +kernel
theorem dX12_pressedBy_25 : decode cX12_pressedBy 25 = .ok (.ixor, 1) := by decide +kernel
theorem dX12_pressedBy_26 : decode cX12_pressedBy 26 = .ok (.iand, 1) := by decide +kernel
theorem dX12_pressedBy_27 : decode cX12_pressedBy 27 = .ok (.iconst 1, 1) := by decide +kernel
theorem dX12_pressedBy_28 : decode cX12_pressedBy 28 = .ok (.iload_n 3, 1) := by decide +kernel
theorem dX12_pressedBy_29 : decode cX12_pressedBy 29 = .ok (.ishl, 1) := by decide +kernel
theorem dX12_pressedBy_30 : decode cX12_pressedBy 30 = .ok (.ior, 1) := by decide +kernel
theorem dX12_pressedBy_31 : decode cX12_pressedBy 31 = .ok (.istore 10, 2) := by decide +kernel
theorem dX12_pressedBy_33 : decode cX12_pressedBy 33 = .ok (.lload_n 1, 1) := by decide +kernel
theorem dX12_pressedBy_34 : decode cX12_pressedBy 34 = .ok (.iload 9, 2) := by decide +kernel
theorem dX12_pressedBy_36 : decode cX12_pressedBy 36 = .ok (.invokestatic 139, 3) := by decide +kernel
theorem dX12_pressedBy_39 : decode cX12_pressedBy 39 = .ok (.ifCond .eq 50, 3) := by decide +kernel
theorem dX12_pressedBy_42 : decode cX12_pressedBy 42 = .ok (.iload 9, 2) := by decide +kernel
theorem dX12_pressedBy_44 : decode cX12_pressedBy 44 = .ok (.iload 4, 2) := by decide +kernel
theorem dX12_pressedBy_46 : decode cX12_pressedBy 46 = .ok (.ishr, 1) := by decide +kernel
theorem dX12_pressedBy_47 : decode cX12_pressedBy 47 = .ok (.iconst 1, 1) := by decide +kernel
theorem dX12_pressedBy_48 : decode cX12_pressedBy 48 = .ok (.iand, 1) := by decide +kernel
theorem dX12_pressedBy_49 : decode cX12_pressedBy 49 = .ok (.iconst 1, 1) := by decide +kernel
theorem dX12_pressedBy_50 : decode cX12_pressedBy 50 = .ok (.if_icmp .ne 39, 3) := by decide +kernel
theorem dX12_pressedBy_53 : decode cX12_pressedBy 53 = .ok (.iload 9, 2) := by decide +kernel
theorem dX12_pressedBy_55 : decode cX12_pressedBy 55 = .ok (.iload_n 3, 1) := by decide +kernel
theorem dX12_pressedBy_56 : decode cX12_pressedBy 56 = .ok (.ishr, 1) := by decide +kernel
theorem dX12_pressedBy_57 : decode cX12_pressedBy 57 = .ok (.iconst 1, 1) := by decide +kernel
theorem dX12_pressedBy_58 : decode cX12_pressedBy 58 = .ok (.iand, 1) := by decide +kernel
theorem dX12_pressedBy_59 : decode cX12_pressedBy 59 = .ok (.ifCond .ne 30, 3) := by decide +kernel
theorem dX12_pressedBy_62 : decode cX12_pressedBy 62 = .ok (.lload_n 1, 1) := by decide +kernel
theorem dX12_pressedBy_63 : decode cX12_pressedBy 63 = .ok (.iload 10, 2) := by decide +kernel
theorem dX12_pressedBy_65 : decode cX12_pressedBy 65 = .ok (.invokestatic 139, 3) := by decide +kernel
theorem dX12_pressedBy_68 : decode cX12_pressedBy 68 = .ok (.ifCond .ne 21, 3) := by decide +kernel
theorem dX12_pressedBy_71 : decode cX12_pressedBy 71 = .ok (.lload 5, 2) := by decide +kernel
theorem dX12_pressedBy_73 : decode cX12_pressedBy 73 = .ok (.lconst 1, 1) := by decide +kernel
theorem dX12_pressedBy_74 : decode cX12_pressedBy 74 = .ok (.iload 9, 2) := by decide +kernel
theorem dX12_pressedBy_76 : decode cX12_pressedBy 76 = .ok (.lshl, 1) := by decide +kernel
theorem dX12_pressedBy_77 : decode cX12_pressedBy 77 = .ok (.lor, 1) := by decide +kernel
theorem dX12_pressedBy_78 : decode cX12_pressedBy 78 = .ok (.lstore 5, 2) := by decide +kernel
theorem dX12_pressedBy_80 : decode cX12_pressedBy 80 = .ok (.lload 7, 2) := by decide +kernel
theorem dX12_pressedBy_82 : decode cX12_pressedBy 82 = .ok (.lconst 1, 1) := by decide +kernel
theorem dX12_pressedBy_83 : decode cX12_pressedBy 83 = .ok (.iload 10, 2) := by decide +kernel
theorem dX12_pressedBy_85 : decode cX12_pressedBy 85 = .ok (.lshl, 1) := by decide +kernel
theorem dX12_pressedBy_86 : decode cX12_pressedBy 86 = .ok (.lor, 1) := by decide +kernel
theorem dX12_pressedBy_87 : decode cX12_pressedBy 87 = .ok (.lstore 7, 2) := by decide +kernel
theorem dX12_pressedBy_89 : decode cX12_pressedBy 89 = .ok (.iinc 9 1, 3) := by decide +kernel
theorem dX12_pressedBy_92 : decode cX12_pressedBy 92 = .ok (.goto (-83), 3) := by decide +kernel
theorem dX12_pressedBy_95 : decode cX12_pressedBy 95 = .ok (.lload_n 1, 1) := by decide +kernel
theorem dX12_pressedBy_96 : decode cX12_pressedBy 96 = .ok (.lload 5, 2) := by decide +kernel
theorem dX12_pressedBy_98 : decode cX12_pressedBy 98 = .ok (.ldc2_w 95, 3) := by decide +kernel
theorem dX12_pressedBy_101 : decode cX12_pressedBy 101 = .ok (.lxor, 1) := by decide +kernel
theorem dX12_pressedBy_102 : decode cX12_pressedBy 102 = .ok (.land, 1) := by decide +kernel
theorem dX12_pressedBy_103 : decode cX12_pressedBy 103 = .ok (.lload 7, 2) := by decide +kernel
theorem dX12_pressedBy_105 : decode cX12_pressedBy 105 = .ok (.lor, 1) := by decide +kernel
theorem dX12_pressedBy_106 : decode cX12_pressedBy 106 = .ok (.lreturn, 1) := by decide +kernel
theorem dX12_isAtRest_0 : decode cX12_isAtRest 0 = .ok (.iconst 1, 1) := by decide +kernel
theorem dX12_isAtRest_1 : decode cX12_isAtRest 1 = .ok (.istore_n 3, 1) := by decide +kernel
theorem dX12_isAtRest_2 : decode cX12_isAtRest 2 = .ok (.iconst 1, 1) := by decide +kernel
theorem dX12_isAtRest_3 : decode cX12_isAtRest 3 = .ok (.istore 4, 2) := by decide +kernel
theorem dX12_isAtRest_5 : decode cX12_isAtRest 5 = .ok (.iload 4, 2) := by decide +kernel
theorem dX12_isAtRest_7 : decode cX12_isAtRest 7 = .ok (.aload_n 0, 1) := by decide +kernel
theorem dX12_isAtRest_8 : decode cX12_isAtRest 8 = .ok (.getfield 9, 3) := by decide +kernel
theorem dX12_isAtRest_11 : decode cX12_isAtRest 11 = .ok (.if_icmp .ge 47, 3) := by decide +kernel
theorem dX12_isAtRest_14 : decode cX12_isAtRest 14 = .ok (.iconst 0, 1) := by decide +kernel
theorem dX12_isAtRest_15 : decode cX12_isAtRest 15 = .ok (.istore 5, 2) := by decide +kernel
theorem dX12_isAtRest_17 : decode cX12_isAtRest 17 = .ok (.iload 5, 2) := by decide +kernel
theorem dX12_isAtRest_19 : decode cX12_isAtRest 19 = .ok (.iload 4, 2) := by decide +kernel
theorem dX12_isAtRest_21 : decode cX12_isAtRest 21 = .ok (.if_icmp .ge 31, 3) := by decide +kernel
theorem dX12_isAtRest_24 : decode cX12_isAtRest 24 = .ok (.iload_n 3, 1) := by decide +kernel
theorem dX12_isAtRest_25 : decode cX12_isAtRest 25 = .ok (.aload_n 0, 1) := by decide +kernel
theorem dX12_isAtRest_26 : decode cX12_isAtRest 26 = .ok (.lload_n 1, 1) := by decide +kernel
theorem dX12_isAtRest_27 : decode cX12_isAtRest 27 = .ok (.iload 5, 2) := by decide +kernel
theorem dX12_isAtRest_29 : decode cX12_isAtRest 29 = .ok (.iload 4, 2) := by decide +kernel
theorem dX12_isAtRest_31 : decode cX12_isAtRest 31 = .ok (.invokevirtual 174, 3) := by decide +kernel
theorem dX12_isAtRest_34 : decode cX12_isAtRest 34 = .ok (.lload_n 1, 1) := by decide +kernel
theorem dX12_isAtRest_35 : decode cX12_isAtRest 35 = .ok (.lcmp, 1) := by decide +kernel
theorem dX12_isAtRest_36 : decode cX12_isAtRest 36 = .ok (.ifCond .ne 7, 3) := by decide +kernel
theorem dX12_isAtRest_39 : decode cX12_isAtRest 39 = .ok (.iconst 1, 1) := by decide +kernel
theorem dX12_isAtRest_40 : decode cX12_isAtRest 40 = .ok (.goto 4, 3) := by decide +kernel
theorem dX12_isAtRest_43 : decode cX12_isAtRest 43 = .ok (.iconst 0, 1) := by decide +kernel
theorem dX12_isAtRest_44 : decode cX12_isAtRest 44 = .ok (.iand, 1) := by decide +kernel
theorem dX12_isAtRest_45 : decode cX12_isAtRest 45 = .ok (.istore_n 3, 1) := by decide +kernel
theorem dX12_isAtRest_46 : decode cX12_isAtRest 46 = .ok (.iinc 5 1, 3) := by decide +kernel
theorem dX12_isAtRest_49 : decode cX12_isAtRest 49 = .ok (.goto (-32), 3) := by decide +kernel
theorem dX12_isAtRest_52 : decode cX12_isAtRest 52 = .ok (.iinc 4 1, 3) := by decide +kernel
theorem dX12_isAtRest_55 : decode cX12_isAtRest 55 = .ok (.goto (-50), 3) := by decide +kernel
theorem dX12_isAtRest_58 : decode cX12_isAtRest 58 = .ok (.iload_n 3, 1) := by decide +kernel
theorem dX12_isAtRest_59 : decode cX12_isAtRest 59 = .ok (.ireturn, 1) := by decide +kernel
theorem dX12_rests_0 : decode cX12_rests 0 = .ok (.lload_n 1, 1) := by decide +kernel
theorem dX12_rests_1 : decode cX12_rests 1 = .ok (.lstore_n 3, 1) := by decide +kernel
theorem dX12_rests_2 : decode cX12_rests 2 = .ok (.aload_n 0, 1) := by decide +kernel
theorem dX12_rests_3 : decode cX12_rests 3 = .ok (.iconst 0, 1) := by decide +kernel
theorem dX12_rests_4 : decode cX12_rests 4 = .ok (.putfield 178, 3) := by decide +kernel
theorem dX12_rests_7 : decode cX12_rests 7 = .ok (.aload_n 0, 1) := by decide +kernel
theorem dX12_rests_8 : decode cX12_rests 8 = .ok (.lload_n 3, 1) := by decide +kernel
theorem dX12_rests_9 : decode cX12_rests 9 = .ok (.invokevirtual 181, 3) := by decide +kernel
theorem dX12_rests_12 : decode cX12_rests 12 = .ok (.ifCond .ne 75, 3) := by decide +kernel
theorem dX12_rests_15 : decode cX12_rests 15 = .ok (.iconst 1, 1) := by decide +kernel
theorem dX12_rests_16 : decode cX12_rests 16 = .ok (.istore 5, 2) := by decide +kernel
theorem dX12_rests_18 : decode cX12_rests 18 = .ok (.iload 5, 2) := by decide +kernel
theorem dX12_rests_20 : decode cX12_rests 20 = .ok (.aload_n 0, 1) := by decide +kernel
theorem dX12_rests_21 : decode cX12_rests 21 = .ok (.getfield 9, 3) := by decide +kernel
theorem dX12_rests_24 : decode cX12_rests 24 = .ok (.if_icmp .ge 60, 3) := by decide +kernel
theorem dX12_rests_27 : decode cX12_rests 27 = .ok (.iconst 0, 1) := by decide +kernel
theorem dX12_rests_28 : decode cX12_rests 28 = .ok (.istore 6, 2) := by decide +kernel
theorem dX12_rests_30 : decode cX12_rests 30 = .ok (.iload 6, 2) := by decide +kernel
theorem dX12_rests_32 : decode cX12_rests 32 = .ok (.iload 5, 2) := by decide +kernel
theorem dX12_rests_34 : decode cX12_rests 34 = .ok (.if_icmp .ge 44, 3) := by decide +kernel
theorem dX12_rests_37 : decode cX12_rests 37 = .ok (.aload_n 0, 1) := by decide +kernel
theorem dX12_rests_38 : decode cX12_rests 38 = .ok (.lload_n 3, 1) := by decide +kernel
theorem dX12_rests_39 : decode cX12_rests 39 = .ok (.iload 6, 2) := by decide +kernel
theorem dX12_rests_41 : decode cX12_rests 41 = .ok (.iload 5, 2) := by decide +kernel
theorem dX12_rests_43 : decode cX12_rests 43 = .ok (.invokevirtual 174, 3) := by decide +kernel
theorem dX12_rests_46 : decode cX12_rests 46 = .ok (.lstore 7, 2) := by decide +kernel
theorem dX12_rests_48 : decode cX12_rests 48 = .ok (.aload_n 0, 1) := by decide +kernel
theorem dX12_rests_49 : decode cX12_rests 49 = .ok (.dup, 1) := by decide +kernel
theorem dX12_rests_50 : decode cX12_rests 50 = .ok (.getfield 178, 3) := by decide +kernel
theorem dX12_rests_53 : decode cX12_rests 53 = .ok (.lload 7, 2) := by decide +kernel
theorem dX12_rests_55 : decode cX12_rests 55 = .ok (.lload_n 3, 1) := by decide +kernel
theorem dX12_rests_56 : decode cX12_rests 56 = .ok (.lcmp, 1) := by decide +kernel
theorem dX12_rests_57 : decode cX12_rests 57 = .ok (.ifCond .ne 7, 3) := by decide +kernel
theorem dX12_rests_60 : decode cX12_rests 60 = .ok (.iconst 0, 1) := by decide +kernel
theorem dX12_rests_61 : decode cX12_rests 61 = .ok (.goto 4, 3) := by decide +kernel
theorem dX12_rests_64 : decode cX12_rests 64 = .ok (.iconst 1, 1) := by decide +kernel
theorem dX12_rests_65 : decode cX12_rests 65 = .ok (.iadd, 1) := by decide +kernel
theorem dX12_rests_66 : decode cX12_rests 66 = .ok (.putfield 178, 3) := by decide +kernel
theorem dX12_rests_69 : decode cX12_rests 69 = .ok (.lload 7, 2) := by decide +kernel
theorem dX12_rests_71 : decode cX12_rests 71 = .ok (.lstore_n 3, 1) := by decide +kernel
theorem dX12_rests_72 : decode cX12_rests 72 = .ok (.iinc 6 1, 3) := by decide +kernel
theorem dX12_rests_75 : decode cX12_rests 75 = .ok (.goto (-45), 3) := by decide +kernel
theorem dX12_rests_78 : decode cX12_rests 78 = .ok (.iinc 5 1, 3) := by decide +kernel
theorem dX12_rests_81 : decode cX12_rests 81 = .ok (.goto (-63), 3) := by decide +kernel
theorem dX12_rests_84 : decode cX12_rests 84 = .ok (.goto (-77), 3) := by decide +kernel
theorem dX12_rests_87 : decode cX12_rests 87 = .ok (.lload_n 3, 1) := by decide +kernel
theorem dX12_rests_88 : decode cX12_rests 88 = .ok (.lreturn, 1) := by decide +kernel
theorem dX12_pressed_0 : decode cX12_pressed 0 = .ok (.aload_n 0, 1) := by decide +kernel
theorem dX12_pressed_1 : decode cX12_pressed 1 = .ok (.iload_n 1, 1) := by decide +kernel
theorem dX12_pressed_2 : decode cX12_pressed 2 = .ok (.invokevirtual 127, 3) := by decide +kernel
theorem dX12_pressed_5 : decode cX12_pressed 5 = .ok (.ifCond .eq 46, 3) := by decide +kernel
theorem dX12_pressed_8 : decode cX12_pressed 8 = .ok (.iload_n 3, 1) := by decide +kernel
theorem dX12_pressed_9 : decode cX12_pressed 9 = .ok (.i2l, 1) := by decide +kernel
theorem dX12_pressed_10 : decode cX12_pressed 10 = .ok (.lconst 0, 1) := by decide +kernel
theorem dX12_pressed_11 : decode cX12_pressed 11 = .ok (.aload_n 0, 1) := by decide +kernel
theorem dX12_pressed_12 : decode cX12_pressed 12 = .ok (.getfield 9, 3) := by decide +kernel
theorem dX12_pressed_15 : decode cX12_pressed 15 = .ok (.iconst 1, 1) := by decide +kernel
theorem dX12_pressed_16 : decode cX12_pressed 16 = .ok (.isub, 1) := by decide +kernel
theorem dX12_pressed_17 : decode cX12_pressed 17 = .ok (.i2l, 1) := by decide +kernel
theorem dX12_pressed_18 : decode cX12_pressed 18 = .ok (.invokestatic 100, 3) := by decide +kernel
theorem dX12_pressed_21 : decode cX12_pressed 21 = .ok (.ifCond .eq 30, 3) := by decide +kernel
theorem dX12_pressed_24 : decode cX12_pressed 24 = .ok (.iload_n 2, 1) := by decide +kernel
theorem dX12_pressed_25 : decode cX12_pressed 25 = .ok (.i2l, 1) := by decide +kernel
theorem dX12_pressed_26 : decode cX12_pressed 26 = .ok (.lconst 0, 1) := by decide +kernel
theorem dX12_pressed_27 : decode cX12_pressed 27 = .ok (.iload_n 3, 1) := by decide +kernel
theorem dX12_pressed_28 : decode cX12_pressed 28 = .ok (.iconst 1, 1) := by decide +kernel
theorem dX12_pressed_29 : decode cX12_pressed 29 = .ok (.isub, 1) := by decide +kernel
theorem dX12_pressed_30 : decode cX12_pressed 30 = .ok (.i2l, 1) := by decide +kernel
theorem dX12_pressed_31 : decode cX12_pressed 31 = .ok (.invokestatic 100, 3) := by decide +kernel
theorem dX12_pressed_34 : decode cX12_pressed 34 = .ok (.ifCond .eq 17, 3) := by decide +kernel
theorem dX12_pressed_37 : decode cX12_pressed 37 = .ok (.aload_n 0, 1) := by decide +kernel
theorem dX12_pressed_38 : decode cX12_pressed 38 = .ok (.aload_n 0, 1) := by decide +kernel
theorem dX12_pressed_39 : decode cX12_pressed 39 = .ok (.iload_n 1, 1) := by decide +kernel
theorem dX12_pressed_40 : decode cX12_pressed 40 = .ok (.invokevirtual 164, 3) := by decide +kernel
theorem dX12_pressed_43 : decode cX12_pressed 43 = .ok (.iload_n 2, 1) := by decide +kernel
theorem dX12_pressed_44 : decode cX12_pressed 44 = .ok (.iload_n 3, 1) := by decide +kernel
theorem dX12_pressed_45 : decode cX12_pressed 45 = .ok (.invokevirtual 174, 3) := by decide +kernel
theorem dX12_pressed_48 : decode cX12_pressed 48 = .ok (.goto 6, 3) := by decide +kernel
theorem dX12_pressed_51 : decode cX12_pressed 51 = .ok (.ldc2_w 162, 3) := by decide +kernel
theorem dX12_pressed_54 : decode cX12_pressed 54 = .ok (.lreturn, 1) := by decide +kernel
theorem dX12_press_0 : decode cX12_press 0 = .ok (.aload_n 0, 1) := by decide +kernel
theorem dX12_press_1 : decode cX12_press 1 = .ok (.iload_n 1, 1) := by decide +kernel
theorem dX12_press_2 : decode cX12_press 2 = .ok (.invokevirtual 127, 3) := by decide +kernel
theorem dX12_press_5 : decode cX12_press 5 = .ok (.ifCond .eq 19, 3) := by decide +kernel
theorem dX12_press_8 : decode cX12_press 8 = .ok (.aload_n 0, 1) := by decide +kernel
theorem dX12_press_9 : decode cX12_press 9 = .ok (.aload_n 0, 1) := by decide +kernel

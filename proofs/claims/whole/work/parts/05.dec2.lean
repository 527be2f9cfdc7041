theorem dX10_where_27 : decode cX10_where 27 = .ok (.aload_n 0, 1) := by decide +kernel
theorem dX10_where_28 : decode cX10_where 28 = .ok (.getfield 30, 3) := by decide +kernel
theorem dX10_where_31 : decode cX10_where 31 = .ok (.iload_n 1, 1) := by decide +kernel
theorem dX10_where_32 : decode cX10_where 32 = .ok (.iload_n 2, 1) := by decide +kernel
theorem dX10_where_33 : decode cX10_where 33 = .ok (.iload_n 3, 1) := by decide +kernel
theorem dX10_where_34 : decode cX10_where 34 = .ok (.invokevirtual 128, 3) := by decide +kernel
theorem dX10_where_37 : decode cX10_where 37 = .ok (.ireturn, 1) := by decide +kernel
theorem dX10_chain_0 : decode cX10_chain 0 = .ok (.aload_n 0, 1) := by decide +kernel
theorem dX10_chain_1 : decode cX10_chain 1 = .ok (.getfield 23, 3) := by decide +kernel
theorem dX10_chain_4 : decode cX10_chain 4 = .ok (.iload_n 1, 1) := by decide +kernel
theorem dX10_chain_5 : decode cX10_chain 5 = .ok (.invokevirtual 119, 3) := by decide +kernel
theorem dX10_chain_8 : decode cX10_chain 8 = .ok (.ifCond .eq 10, 3) := by decide +kernel
theorem dX10_chain_11 : decode cX10_chain 11 = .ok (.iload_n 2, 1) := by decide +kernel
theorem dX10_chain_12 : decode cX10_chain 12 = .ok (.invokestatic 125, 3) := by decide +kernel
theorem dX10_chain_15 : decode cX10_chain 15 = .ok (.ifCond .ne 5, 3) := by decide +kernel
theorem dX10_chain_18 : decode cX10_chain 18 = .ok (.iconst (-1), 1) := by decide +kernel
theorem dX10_chain_19 : decode cX10_chain 19 = .ok (.ireturn, 1) := by decide +kernel
theorem dX10_chain_20 : decode cX10_chain 20 = .ok (.aload_n 0, 1) := by decide +kernel
theorem dX10_chain_21 : decode cX10_chain 21 = .ok (.getfield 30, 3) := by decide +kernel
theorem dX10_chain_24 : decode cX10_chain 24 = .ok (.iload_n 1, 1) := by decide +kernel
theorem dX10_chain_25 : decode cX10_chain 25 = .ok (.aload_n 0, 1) := by decide +kernel
theorem dX10_chain_26 : decode cX10_chain 26 = .ok (.getfield 23, 3) := by decide +kernel
theorem dX10_chain_29 : decode cX10_chain 29 = .ok (.getfield 131, 3) := by decide +kernel
theorem dX10_chain_32 : decode cX10_chain 32 = .ok (.iload_n 1, 1) := by decide +kernel
theorem dX10_chain_33 : decode cX10_chain 33 = .ok (.iaload, 1) := by decide +kernel
theorem dX10_chain_34 : decode cX10_chain 34 = .ok (.iload_n 2, 1) := by decide +kernel
theorem dX10_chain_35 : decode cX10_chain 35 = .ok (.invokevirtual 134, 3) := by decide +kernel
theorem dX10_chain_38 : decode cX10_chain 38 = .ok (.ireturn, 1) := by decide +kernel
theorem dX10_chained_0 : decode cX10_chained 0 = .ok (.aload_n 0, 1) := by decide +kernel
theorem dX10_chained_1 : decode cX10_chained 1 = .ok (.getfield 30, 3) := by decide +kernel
theorem dX10_chained_4 : decode cX10_chained 4 = .ok (.iload_n 1, 1) := by decide +kernel
theorem dX10_chained_5 : decode cX10_chained 5 = .ok (.invokevirtual 137, 3) := by decide +kernel
theorem dX10_chained_8 : decode cX10_chained 8 = .ok (.ireturn, 1) := by decide +kernel
theorem dX10_point_0 : decode cX10_point 0 = .ok (.iload_n 1, 1) := by decide +kernel
theorem dX10_point_1 : decode cX10_point 1 = .ok (.invokestatic 111, 3) := by decide +kernel
theorem dX10_point_4 : decode cX10_point 4 = .ok (.ifCond .eq 11, 3) := by decide +kernel
theorem dX10_point_7 : decode cX10_point 7 = .ok (.iload_n 2, 1) := by decide +kernel
theorem dX10_point_8 : decode cX10_point 8 = .ok (.iload_n 3, 1) := by decide +kernel
theorem dX10_point_9 : decode cX10_point 9 = .ok (.invokestatic 103, 3) := by decide +kernel
theorem dX10_point_12 : decode cX10_point 12 = .ok (.ifCond .ne 5, 3) := by decide +kernel
theorem dX10_point_15 : decode cX10_point 15 = .ok (.iconst (-1), 1) := by decide +kernel
theorem dX10_point_16 : decode cX10_point 16 = .ok (.ireturn, 1) := by decide +kernel
theorem dX10_point_17 : decode cX10_point 17 = .ok (.aload_n 0, 1) := by decide +kernel
theorem dX10_point_18 : decode cX10_point 18 = .ok (.getfield 16, 3) := by decide +kernel
theorem dX10_point_21 : decode cX10_point 21 = .ok (.iload_n 1, 1) := by decide +kernel
theorem dX10_point_22 : decode cX10_point 22 = .ok (.iload_n 2, 1) := by decide +kernel
theorem dX10_point_23 : decode cX10_point 23 = .ok (.iload_n 3, 1) := by decide +kernel
theorem dX10_point_24 : decode cX10_point 24 = .ok (.invokevirtual 141, 3) := by decide +kernel
theorem dX10_point_27 : decode cX10_point 27 = .ok (.ireturn, 1) := by decide +kernel
theorem dX10_chart_0 : decode cX10_chart 0 = .ok (.iload_n 1, 1) := by decide +kernel
theorem dX10_chart_1 : decode cX10_chart 1 = .ok (.bipush (-3), 2) := by decide +kernel
theorem dX10_chart_3 : decode cX10_chart 3 = .ok (.iconst 3, 1) := by decide +kernel
theorem dX10_chart_4 : decode cX10_chart 4 = .ok (.invokestatic 99, 3) := by decide +kernel
theorem dX10_chart_7 : decode cX10_chart 7 = .ok (.ifCond .eq 13, 3) := by decide +kernel
theorem dX10_chart_10 : decode cX10_chart 10 = .ok (.iload_n 2, 1) := by decide +kernel
theorem dX10_chart_11 : decode cX10_chart 11 = .ok (.bipush (-3), 2) := by decide +kernel
theorem dX10_chart_13 : decode cX10_chart 13 = .ok (.iconst 3, 1) := by decide +kernel
theorem dX10_chart_14 : decode cX10_chart 14 = .ok (.invokestatic 99, 3) := by decide +kernel
theorem dX10_chart_17 : decode cX10_chart 17 = .ok (.ifCond .ne 5, 3) := by decide +kernel
theorem dX10_chart_20 : decode cX10_chart 20 = .ok (.iconst 0, 1) := by decide +kernel
theorem dX10_chart_21 : decode cX10_chart 21 = .ok (.ireturn, 1) := by decide +kernel
theorem dX10_chart_22 : decode cX10_chart 22 = .ok (.aload_n 0, 1) := by decide +kernel
theorem dX10_chart_23 : decode cX10_chart 23 = .ok (.getfield 16, 3) := by decide +kernel
theorem dX10_chart_26 : decode cX10_chart 26 = .ok (.iload_n 1, 1) := by decide +kernel
theorem dX10_chart_27 : decode cX10_chart 27 = .ok (.putfield 144, 3) := by decide +kernel
theorem dX10_chart_30 : decode cX10_chart 30 = .ok (.aload_n 0, 1) := by decide +kernel
theorem dX10_chart_31 : decode cX10_chart 31 = .ok (.getfield 16, 3) := by decide +kernel
theorem dX10_chart_34 : decode cX10_chart 34 = .ok (.iload_n 2, 1) := by decide +kernel
theorem dX10_chart_35 : decode cX10_chart 35 = .ok (.putfield 147, 3) := by decide +kernel
theorem dX10_chart_38 : decode cX10_chart 38 = .ok (.iconst 1, 1) := by decide +kernel
theorem dX10_chart_39 : decode cX10_chart 39 = .ok (.ireturn, 1) := by decide +kernel
theorem dX10_reach_0 : decode cX10_reach 0 = .ok (.iload_n 1, 1) := by decide +kernel
theorem dX10_reach_1 : decode cX10_reach 1 = .ok (.invokestatic 111, 3) := by decide +kernel
theorem dX10_reach_4 : decode cX10_reach 4 = .ok (.ifCond .eq 10, 3) := by decide +kernel
theorem dX10_reach_7 : decode cX10_reach 7 = .ok (.iload_n 2, 1) := by decide +kernel
theorem dX10_reach_8 : decode cX10_reach 8 = .ok (.invokestatic 125, 3) := by decide +kernel
theorem dX10_reach_11 : decode cX10_reach 11 = .ok (.ifCond .ne 5, 3) := by decide +kernel
theorem dX10_reach_14 : decode cX10_reach 14 = .ok (.iconst (-1), 1) := by decide +kernel
theorem dX10_reach_15 : decode cX10_reach 15 = .ok (.ireturn, 1) := by decide +kernel
theorem dX10_reach_16 : decode cX10_reach 16 = .ok (.aload_n 0, 1) := by decide +kernel
theorem dX10_reach_17 : decode cX10_reach 17 = .ok (.iload_n 1, 1) := by decide +kernel
theorem dX10_reach_18 : decode cX10_reach 18 = .ok (.iload_n 2, 1) := by decide +kernel
theorem dX10_reach_19 : decode cX10_reach 19 = .ok (.invokevirtual 150, 3) := by decide +kernel
theorem dX10_reach_22 : decode cX10_reach 22 = .ok (.ireturn, 1) := by decide +kernel
theorem dX10_reachOf_0 : decode cX10_reachOf 0 = .ok (.aload_n 0, 1) := by decide +kernel
theorem dX10_reachOf_1 : decode cX10_reachOf 1 = .ok (.getfield 54, 3) := by decide +kernel
theorem dX10_reachOf_4 : decode cX10_reachOf 4 = .ok (.lconst 0, 1) := by decide +kernel
theorem dX10_reachOf_5 : decode cX10_reachOf 5 = .ok (.invokestatic 154, 3) := by decide +kernel
theorem dX10_reachOf_8 : decode cX10_reachOf 8 = .ok (.aload_n 0, 1) := by decide +kernel
theorem dX10_reachOf_9 : decode cX10_reachOf 9 = .ok (.getfield 54, 3) := by decide +kernel
theorem dX10_reachOf_12 : decode cX10_reachOf 12 = .ok (.iconst 0, 1) := by decide +kernel
theorem dX10_reachOf_13 : decode cX10_reachOf 13 = .ok (.iload_n 2, 1) := by decide +kernel
theorem dX10_reachOf_14 : decode cX10_reachOf 14 = .ok (.i2l, 1) := by decide +kernel
theorem dX10_reachOf_15 : decode cX10_reachOf 15 = .ok (.lastore, 1) := by decide +kernel
theorem dX10_reachOf_16 : decode cX10_reachOf 16 = .ok (.aload_n 0, 1) := by decide +kernel
theorem dX10_reachOf_17 : decode cX10_reachOf 17 = .ok (.getfield 37, 3) := by decide +kernel
theorem dX10_reachOf_20 : decode cX10_reachOf 20 = .ok (.iload_n 1, 1) := by decide +kernel
theorem dX10_reachOf_21 : decode cX10_reachOf 21 = .ok (.iconst 5, 1) := by decide +kernel
theorem dX10_reachOf_22 : decode cX10_reachOf 22 = .ok (.iload_n 2, 1) := by decide +kernel
theorem dX10_reachOf_23 : decode cX10_reachOf 23 = .ok (.aload_n 0, 1) := by decide +kernel
theorem dX10_reachOf_24 : decode cX10_reachOf 24 = .ok (.getfield 54, 3) := by decide +kernel
theorem dX10_reachOf_27 : decode cX10_reachOf 27 = .ok (.invokevirtual 160, 3) := by decide +kernel
theorem dX10_reachOf_30 : decode cX10_reachOf 30 = .ok (.istore_n 3, 1) := by decide +kernel
theorem dX10_reachOf_31 : decode cX10_reachOf 31 = .ok (.iload_n 3, 1) := by decide +kernel
theorem dX10_reachOf_32 : decode cX10_reachOf 32 = .ok (.iconst (-1), 1) := by decide +kernel
theorem dX10_reachOf_33 : decode cX10_reachOf 33 = .ok (.if_icmp .ne 5, 3) := by decide +kernel
theorem dX10_reachOf_36 : decode cX10_reachOf 36 = .ok (.iconst 3, 1) := by decide +kernel
theorem dX10_reachOf_37 : decode cX10_reachOf 37 = .ok (.ireturn, 1) := by decide +kernel
theorem dX10_reachOf_38 : decode cX10_reachOf 38 = .ok (.aload_n 0, 1) := by decide +kernel
theorem dX10_reachOf_39 : decode cX10_reachOf 39 = .ok (.getfield 37, 3) := by decide +kernel
theorem dX10_reachOf_42 : decode cX10_reachOf 42 = .ok (.iload_n 3, 1) := by decide +kernel
theorem dX10_reachOf_43 : decode cX10_reachOf 43 = .ok (.aload_n 0, 1) := by decide +kernel
theorem dX10_reachOf_44 : decode cX10_reachOf 44 = .ok (.getfield 54, 3) := by decide +kernel
theorem dX10_reachOf_47 : decode cX10_reachOf 47 = .ok (.invokevirtual 164, 3) := by decide +kernel
theorem dX10_reachOf_50 : decode cX10_reachOf 50 = .ok (.lstore 4, 2) := by decide +kernel
theorem dX10_reachOf_52 : decode cX10_reachOf 52 = .ok (.lconst 0, 1) := by decide +kernel
theorem dX10_reachOf_53 : decode cX10_reachOf 53 = .ok (.ldc2_w 168, 3) := by decide +kernel
theorem dX10_reachOf_56 : decode cX10_reachOf 56 = .ok (.lload 4, 2) := by decide +kernel
theorem dX10_reachOf_58 : decode cX10_reachOf 58 = .ok (.invokestatic 170, 3) := by decide +kernel
theorem dX10_reachOf_61 : decode cX10_reachOf 61 = .ok (.invokestatic 176, 3) := by decide +kernel
theorem dX10_reachOf_64 : decode cX10_reachOf 64 = .ok (.l2i, 1) := by decide +kernel
theorem dX10_reachOf_65 : decode cX10_reachOf 65 = .ok (.ireturn, 1) := by decide +kernel
theorem dX10_within_0 : decode cX10_within 0 = .ok (.iload_n 1, 1) := by decide +kernel
theorem dX10_within_1 : decode cX10_within 1 = .ok (.invokestatic 111, 3) := by decide +kernel
theorem dX10_within_4 : decode cX10_within 4 = .ok (.ifCond .eq 29, 3) := by decide +kernel
theorem dX10_within_7 : decode cX10_within 7 = .ok (.iload_n 2, 1) := by decide +kernel
theorem dX10_within_8 : decode cX10_within 8 = .ok (.iconst 0, 1) := by decide +kernel
theorem dX10_within_9 : decode cX10_within 9 = .ok (.iconst 1, 1) := by decide +kernel
theorem dX10_within_10 : decode cX10_within 10 = .ok (.invokestatic 99, 3) := by decide +kernel
theorem dX10_within_13 : decode cX10_within 13 = .ok (.ifCond .eq 20, 3) := by decide +kernel
theorem dX10_within_16 : decode cX10_within 16 = .ok (.iload_n 3, 1) := by decide +kernel
theorem dX10_within_17 : decode cX10_within 17 = .ok (.iload 4, 2) := by decide +kernel
theorem dX10_within_19 : decode cX10_within 19 = .ok (.invokestatic 103, 3) := by decide +kernel
theorem dX10_within_22 : decode cX10_within 22 = .ok (.ifCond .eq 11, 3) := by decide +kernel
theorem dX10_within_25 : decode cX10_within 25 = .ok (.iload 5, 2) := by decide +kernel
theorem dX10_within_27 : decode cX10_within 27 = .ok (.invokestatic 125, 3) := by decide +kernel
theorem dX10_within_30 : decode cX10_within 30 = .ok (.ifCond .ne 5, 3) := by decide +kernel
theorem dX10_within_33 : decode cX10_within 33 = .ok (.iconst (-1), 1) := by decide +kernel
theorem dX10_within_34 : decode cX10_within 34 = .ok (.ireturn, 1) := by decide +kernel
theorem dX10_within_35 : decode cX10_within 35 = .ok (.aload_n 0, 1) := by decide +kernel
theorem dX10_within_36 : decode cX10_within 36 = .ok (.getfield 16, 3) := by decide +kernel
theorem dX10_within_39 : decode cX10_within 39 = .ok (.iload_n 1, 1) := by decide +kernel
theorem dX10_within_40 : decode cX10_within 40 = .ok (.iload_n 2, 1) := by decide +kernel
theorem dX10_within_41 : decode cX10_within 41 = .ok (.iload_n 3, 1) := by decide +kernel
theorem dX10_within_42 : decode cX10_within 42 = .ok (.iload 4, 2) := by decide +kernel
theorem dX10_within_44 : decode cX10_within 44 = .ok (.aload_n 0, 1) := by decide +kernel
theorem dX10_within_45 : decode cX10_within 45 = .ok (.iload_n 1, 1) := by decide +kernel
theorem dX10_within_46 : decode cX10_within 46 = .ok (.iload 5, 2) := by decide +kernel
theorem dX10_within_48 : decode cX10_within 48 = .ok (.invokevirtual 150, 3) := by decide +kernel
theorem dX10_within_51 : decode cX10_within 51 = .ok (.invokevirtual 179, 3) := by decide +kernel
theorem dX10_within_54 : decode cX10_within 54 = .ok (.ifCond .eq 7, 3) := by decide +kernel
theorem dX10_within_57 : decode cX10_within 57 = .ok (.iconst 1, 1) := by decide +kernel
theorem dX10_within_58 : decode cX10_within 58 = .ok (.goto 4, 3) := by decide +kernel
theorem dX10_within_61 : decode cX10_within 61 = .ok (.iconst 0, 1) := by decide +kernel
theorem dX10_within_62 : decode cX10_within 62 = .ok (.ireturn, 1) := by decide +kernel
theorem dX10_inside_0 : decode cX10_inside 0 = .ok (.iload_n 1, 1) := by decide +kernel
theorem dX10_inside_1 : decode cX10_inside 1 = .ok (.invokestatic 111, 3) := by decide +kernel
theorem dX10_inside_4 : decode cX10_inside 4 = .ok (.ifCond .eq 27, 3) := by decide +kernel
theorem dX10_inside_7 : decode cX10_inside 7 = .ok (.iload_n 2, 1) := by decide +kernel
theorem dX10_inside_8 : decode cX10_inside 8 = .ok (.iconst 0, 1) := by decide +kernel
theorem dX10_inside_9 : decode cX10_inside 9 = .ok (.iconst 1, 1) := by decide +kernel
theorem dX10_inside_10 : decode cX10_inside 10 = .ok (.invokestatic 99, 3) := by decide +kernel
theorem dX10_inside_13 : decode cX10_inside 13 = .ok (.ifCond .eq 18, 3) := by decide +kernel
theorem dX10_inside_16 : decode cX10_inside 16 = .ok (.iload_n 3, 1) := by decide +kernel
theorem dX10_inside_17 : decode cX10_inside 17 = .ok (.invokestatic 125, 3) := by decide +kernel
theorem dX10_inside_20 : decode cX10_inside 20 = .ok (.ifCond .eq 11, 3) := by decide +kernel
theorem dX10_inside_23 : decode cX10_inside 23 = .ok (.iload 4, 2) := by decide +kernel
theorem dX10_inside_25 : decode cX10_inside 25 = .ok (.invokestatic 125, 3) := by decide +kernel
theorem dX10_inside_28 : decode cX10_inside 28 = .ok (.ifCond .ne 7, 3) := by decide +kernel
theorem dX10_inside_31 : decode cX10_inside 31 = .ok (.ldc2_w 183, 3) := by decide +kernel
theorem dX10_inside_34 : decode cX10_inside 34 = .ok (.lreturn, 1) := by decide +kernel
theorem dX10_inside_35 : decode cX10_inside 35 = .ok (.aload_n 0, 1) := by decide +kernel
theorem dX10_inside_36 : decode cX10_inside 36 = .ok (.iload_n 1, 1) := by decide +kernel
theorem dX10_inside_37 : decode cX10_inside 37 = .ok (.iload_n 3, 1) := by decide +kernel
theorem dX10_inside_38 : decode cX10_inside 38 = .ok (.invokevirtual 150, 3) := by decide +kernel
theorem dX10_inside_41 : decode cX10_inside 41 = .ok (.istore 5, 2) := by decide +kernel
theorem dX10_inside_43 : decode cX10_inside 43 = .ok (.lconst 0, 1) := by decide +kernel
theorem dX10_inside_44 : decode cX10_inside 44 = .ok (.lstore 6, 2) := by decide +kernel
theorem dX10_inside_46 : decode cX10_inside 46 = .ok (.iconst 0, 1) := by decide +kernel
theorem dX10_inside_47 : decode cX10_inside 47 = .ok (.istore 8, 2) := by decide +kernel
theorem dX10_inside_49 : decode cX10_inside 49 = .ok (.iload 8, 2) := by decide +kernel
theorem dX10_inside_51 : decode cX10_inside 51 = .ok (.aload_n 0, 1) := by decide +kernel
theorem dX10_inside_52 : decode cX10_inside 52 = .ok (.getfield 23, 3) := by decide +kernel
theorem dX10_inside_55 : decode cX10_inside 55 = .ok (.getfield 185, 3) := by decide +kernel
theorem dX10_inside_58 : decode cX10_inside 58 = .ok (.if_icmp .ge 79, 3) := by decide +kernel
theorem dX10_inside_61 : decode cX10_inside 61 = .ok (.aload_n 0, 1) := by decide +kernel
theorem dX10_inside_62 : decode cX10_inside 62 = .ok (.getfield 23, 3) := by decide +kernel
theorem dX10_inside_65 : decode cX10_inside 65 = .ok (.getfield 188, 3) := by decide +kernel
theorem dX10_inside_68 : decode cX10_inside 68 = .ok (.iload 8, 2) := by decide +kernel
theorem dX10_inside_70 : decode cX10_inside 70 = .ok (.iaload, 1) := by decide +kernel
theorem dX10_inside_71 : decode cX10_inside 71 = .ok (.iload_n 1, 1) := by decide +kernel
theorem dX10_inside_72 : decode cX10_inside 72 = .ok (.if_icmp .ne 6, 3) := by decide +kernel
theorem dX10_inside_75 : decode cX10_inside 75 = .ok (.goto 56, 3) := by decide +kernel
theorem dX10_inside_78 : decode cX10_inside 78 = .ok (.aload_n 0, 1) := by decide +kernel
theorem dX10_inside_79 : decode cX10_inside 79 = .ok (.getfield 30, 3) := by decide +kernel
theorem dX10_inside_82 : decode cX10_inside 82 = .ok (.iload 8, 2) := by decide +kernel
theorem dX10_inside_84 : decode cX10_inside 84 = .ok (.iload_n 3, 1) := by decide +kernel
theorem dX10_inside_85 : decode cX10_inside 85 = .ok (.iload 4, 2) := by decide +kernel
theorem dX10_inside_87 : decode cX10_inside 87 = .ok (.invokevirtual 128, 3) := by decide +kernel
theorem dX10_inside_90 : decode cX10_inside 90 = .ok (.istore 9, 2) := by decide +kernel
theorem dX10_inside_92 : decode cX10_inside 92 = .ok (.iload 9, 2) := by decide +kernel
theorem dX10_inside_94 : decode cX10_inside 94 = .ok (.iconst (-1), 1) := by decide +kernel
theorem dX10_inside_95 : decode cX10_inside 95 = .ok (.if_icmp .eq 36, 3) := by decide +kernel
theorem dX10_inside_98 : decode cX10_inside 98 = .ok (.aload_n 0, 1) := by decide +kernel
theorem dX10_inside_99 : decode cX10_inside 99 = .ok (.getfield 16, 3) := by decide +kernel
theorem dX10_inside_102 : decode cX10_inside 102 = .ok (.iload_n 1, 1) := by decide +kernel
theorem dX10_inside_103 : decode cX10_inside 103 = .ok (.iload_n 2, 1) := by decide +kernel
theorem dX10_inside_104 : decode cX10_inside 104 = .ok (.iload 9, 2) := by decide +kernel
theorem dX10_inside_106 : decode cX10_inside 106 = .ok (.invokestatic 191, 3) := by decide +kernel
theorem dX10_inside_109 : decode cX10_inside 109 = .ok (.iload 9, 2) := by decide +kernel
theorem dX10_inside_111 : decode cX10_inside 111 = .ok (.invokestatic 194, 3) := by decide +kernel
theorem dX10_inside_114 : decode cX10_inside 114 = .ok (.iload 5, 2) := by decide +kernel
theorem dX10_inside_116 : decode cX10_inside 116 = .ok (.invokevirtual 179, 3) := by decide +kernel
theorem dX10_inside_119 : decode cX10_inside 119 = .ok (.ifCond .eq 12, 3) := by decide +kernel
theorem dX10_inside_122 : decode cX10_inside 122 = .ok (.lload 6, 2) := by decide +kernel
theorem dX10_inside_124 : decode cX10_inside 124 = .ok (.lconst 1, 1) := by decide +kernel
theorem dX10_inside_125 : decode cX10_inside 125 = .ok (.iload 8, 2) := by decide +kernel
theorem dX10_inside_127 : decode cX10_inside 127 = .ok (.lshl, 1) := by decide +kernel
theorem dX10_inside_128 : decode cX10_inside 128 = .ok (.lor, 1) := by decide +kernel
theorem dX10_inside_129 : decode cX10_inside 129 = .ok (.lstore 6, 2) := by decide +kernel
theorem dX10_inside_131 : decode cX10_inside 131 = .ok (.iinc 8 1, 3) := by decide +kernel
theorem dX10_inside_134 : decode cX10_inside 134 = .ok (.goto (-85), 3) := by decide +kernel
theorem dX10_inside_137 : decode cX10_inside 137 = .ok (.lload 6, 2) := by decide +kernel
theorem dX10_inside_139 : decode cX10_inside 139 = .ok (.lreturn, 1) := by decide +kernel
theorem dX10_beside_0 : decode cX10_beside 0 = .ok (.iload_n 1, 1) := by decide +kernel
theorem dX10_beside_1 : decode cX10_beside 1 = .ok (.invokestatic 111, 3) := by decide +kernel
theorem dX10_beside_4 : decode cX10_beside 4 = .ok (.ifCond .eq 13, 3) := by decide +kernel
theorem dX10_beside_7 : decode cX10_beside 7 = .ok (.iload_n 2, 1) := by decide +kernel
theorem dX10_beside_8 : decode cX10_beside 8 = .ok (.iconst 0, 1) := by decide +kernel
theorem dX10_beside_9 : decode cX10_beside 9 = .ok (.bipush 40, 2) := by decide +kernel
theorem dX10_beside_11 : decode cX10_beside 11 = .ok (.invokestatic 99, 3) := by decide +kernel
theorem dX10_beside_14 : decode cX10_beside 14 = .ok (.ifCond .ne 5, 3) := by decide +kernel
theorem dX10_beside_17 : decode cX10_beside 17 = .ok (.iconst (-1), 1) := by decide +kernel
theorem dX10_beside_18 : decode cX10_beside 18 = .ok (.ireturn, 1) := by decide +kernel
theorem dX10_beside_19 : decode cX10_beside 19 = .ok (.iconst 0, 1) := by decide +kernel
theorem dX10_beside_20 : decode cX10_beside 20 = .ok (.istore_n 3, 1) := by decide +kernel
theorem dX10_beside_21 : decode cX10_beside 21 = .ok (.iconst 0, 1) := by decide +kernel
theorem dX10_beside_22 : decode cX10_beside 22 = .ok (.istore 4, 2) := by decide +kernel
theorem dX10_beside_24 : decode cX10_beside 24 = .ok (.iload 4, 2) := by decide +kernel
theorem dX10_beside_26 : decode cX10_beside 26 = .ok (.aload_n 0, 1) := by decide +kernel
theorem dX10_beside_27 : decode cX10_beside 27 = .ok (.getfield 30, 3) := by decide +kernel
theorem dX10_beside_30 : decode cX10_beside 30 = .ok (.getfield 197, 3) := by decide +kernel
theorem dX10_beside_33 : decode cX10_beside 33 = .ok (.if_icmp .ge 98, 3) := by decide +kernel
theorem dX10_beside_36 : decode cX10_beside 36 = .ok (.aload_n 0, 1) := by decide +kernel
theorem dX10_beside_37 : decode cX10_beside 37 = .ok (.getfield 30, 3) := by decide +kernel
theorem dX10_beside_40 : decode cX10_beside 40 = .ok (.getfield 198, 3) := by decide +kernel
theorem dX10_beside_43 : decode cX10_beside 43 = .ok (.iload 4, 2) := by decide +kernel
theorem dX10_beside_45 : decode cX10_beside 45 = .ok (.iaload, 1) := by decide +kernel
theorem dX10_beside_46 : decode cX10_beside 46 = .ok (.istore 5, 2) := by decide +kernel
theorem dX10_beside_48 : decode cX10_beside 48 = .ok (.iload 5, 2) := by decide +kernel
theorem dX10_beside_50 : decode cX10_beside 50 = .ok (.aload_n 0, 1) := by decide +kernel
theorem dX10_beside_51 : decode cX10_beside 51 = .ok (.getfield 30, 3) := by decide +kernel
theorem dX10_beside_54 : decode cX10_beside 54 = .ok (.getfield 201, 3) := by decide +kernel
theorem dX10_beside_57 : decode cX10_beside 57 = .ok (.iload 4, 2) := by decide +kernel
theorem dX10_beside_59 : decode cX10_beside 59 = .ok (.iaload, 1) := by decide +kernel
theorem dX10_beside_60 : decode cX10_beside 60 = .ok (.if_icmp .ne 65, 3) := by decide +kernel
theorem dX10_beside_63 : decode cX10_beside 63 = .ok (.aload_n 0, 1) := by decide +kernel
theorem dX10_beside_64 : decode cX10_beside 64 = .ok (.getfield 23, 3) := by decide +kernel
theorem dX10_beside_67 : decode cX10_beside 67 = .ok (.iload 5, 2) := by decide +kernel
theorem dX10_beside_69 : decode cX10_beside 69 = .ok (.invokevirtual 119, 3) := by decide +kernel
theorem dX10_beside_72 : decode cX10_beside 72 = .ok (.ifCond .eq 53, 3) := by decide +kernel
theorem dX10_beside_75 : decode cX10_beside 75 = .ok (.aload_n 0, 1) := by decide +kernel
theorem dX10_beside_76 : decode cX10_beside 76 = .ok (.getfield 23, 3) := by decide +kernel
theorem dX10_beside_79 : decode cX10_beside 79 = .ok (.getfield 188, 3) := by decide +kernel
theorem dX10_beside_82 : decode cX10_beside 82 = .ok (.iload 5, 2) := by decide +kernel
theorem dX10_beside_84 : decode cX10_beside 84 = .ok (.iaload, 1) := by decide +kernel
theorem dX10_beside_85 : decode cX10_beside 85 = .ok (.iload_n 1, 1) := by decide +kernel
theorem dX10_beside_86 : decode cX10_beside 86 = .ok (.if_icmp .eq 39, 3) := by decide +kernel
theorem dX10_beside_89 : decode cX10_beside 89 = .ok (.aload_n 0, 1) := by decide +kernel
theorem dX10_beside_90 : decode cX10_beside 90 = .ok (.getfield 16, 3) := by decide +kernel
theorem dX10_beside_93 : decode cX10_beside 93 = .ok (.iload_n 1, 1) := by decide +kernel
theorem dX10_beside_94 : decode cX10_beside 94 = .ok (.iconst 0, 1) := by decide +kernel
theorem dX10_beside_95 : decode cX10_beside 95 = .ok (.aload_n 0, 1) := by decide +kernel
theorem dX10_beside_96 : decode cX10_beside 96 = .ok (.getfield 30, 3) := by decide +kernel
theorem dX10_beside_99 : decode cX10_beside 99 = .ok (.getfield 204, 3) := by decide +kernel
theorem dX10_beside_102 : decode cX10_beside 102 = .ok (.iload 4, 2) := by decide +kernel
theorem dX10_beside_104 : decode cX10_beside 104 = .ok (.iaload, 1) := by decide +kernel
theorem dX10_beside_105 : decode cX10_beside 105 = .ok (.aload_n 0, 1) := by decide +kernel
theorem dX10_beside_106 : decode cX10_beside 106 = .ok (.getfield 30, 3) := by decide +kernel
theorem dX10_beside_109 : decode cX10_beside 109 = .ok (.getfield 206, 3) := by decide +kernel
theorem dX10_beside_112 : decode cX10_beside 112 = .ok (.iload 4, 2) := by decide +kernel
theorem dX10_beside_114 : decode cX10_beside 114 = .ok (.iaload, 1) := by decide +kernel
theorem dX10_beside_115 : decode cX10_beside 115 = .ok (.iload_n 2, 1) := by decide +kernel
theorem dX10_beside_116 : decode cX10_beside 116 = .ok (.invokevirtual 179, 3) := by decide +kernel
theorem dX10_beside_119 : decode cX10_beside 119 = .ok (.ifCond .eq 6, 3) := by decide +kernel
theorem dX10_beside_122 : decode cX10_beside 122 = .ok (.iinc 3 1, 3) := by decide +kernel
theorem dX10_beside_125 : decode cX10_beside 125 = .ok (.iinc 4 1, 3) := by decide +kernel
theorem dX10_beside_128 : decode cX10_beside 128 = .ok (.goto (-104), 3) := by decide +kernel
theorem dX10_beside_131 : decode cX10_beside 131 = .ok (.iload_n 3, 1) := by decide +kernel
theorem dX10_beside_132 : decode cX10_beside 132 = .ok (.ireturn, 1) := by decide +kernel
theorem dX10_feed_0 : decode cX10_feed 0 = .ok (.aload_n 0, 1) := by decide +kernel
theorem dX10_feed_1 : decode cX10_feed 1 = .ok (.getfield 46, 3) := by decide +kernel
theorem dX10_feed_4 : decode cX10_feed 4 = .ok (.bipush 20, 2) := by decide +kernel
theorem dX10_feed_6 : decode cX10_feed 6 = .ok (.invokevirtual 208, 3) := by decide +kernel
theorem dX10_feed_9 : decode cX10_feed 9 = .ok (.ifCond .ne 5, 3) := by decide +kernel
theorem dX10_feed_12 : decode cX10_feed 12 = .ok (.iconst (-1), 1) := by decide +kernel
theorem dX10_feed_13 : decode cX10_feed 13 = .ok (.ireturn, 1) := by decide +kernel
theorem dX10_feed_14 : decode cX10_feed 14 = .ok (.aload_n 0, 1) := by decide +kernel
theorem dX10_feed_15 : decode cX10_feed 15 = .ok (.getfield 46, 3) := by decide +kernel
theorem dX10_feed_18 : decode cX10_feed 18 = .ok (.iload_n 1, 1) := by decide +kernel
theorem dX10_feed_19 : decode cX10_feed 19 = .ok (.invokevirtual 211, 3) := by decide +kernel
theorem dX10_feed_22 : decode cX10_feed 22 = .ok (.aload_n 0, 1) := by decide +kernel
theorem dX10_feed_23 : decode cX10_feed 23 = .ok (.getfield 46, 3) := by decide +kernel
theorem dX10_feed_26 : decode cX10_feed 26 = .ok (.iload_n 2, 1) := by decide +kernel
theorem dX10_feed_27 : decode cX10_feed 27 = .ok (.invokevirtual 211, 3) := by decide +kernel
theorem dX10_feed_30 : decode cX10_feed 30 = .ok (.aload_n 0, 1) := by decide +kernel
theorem dX10_feed_31 : decode cX10_feed 31 = .ok (.getfield 46, 3) := by decide +kernel
theorem dX10_feed_34 : decode cX10_feed 34 = .ok (.iload_n 3, 1) := by decide +kernel
theorem dX10_feed_35 : decode cX10_feed 35 = .ok (.invokevirtual 211, 3) := by decide +kernel
theorem dX10_feed_38 : decode cX10_feed 38 = .ok (.aload_n 0, 1) := by decide +kernel
theorem dX10_feed_39 : decode cX10_feed 39 = .ok (.getfield 46, 3) := by decide +kernel
theorem dX10_feed_42 : decode cX10_feed 42 = .ok (.iload 4, 2) := by decide +kernel
theorem dX10_feed_44 : decode cX10_feed 44 = .ok (.invokevirtual 211, 3) := by decide +kernel
theorem dX10_feed_47 : decode cX10_feed 47 = .ok (.aload_n 0, 1) := by decide +kernel
theorem dX10_feed_48 : decode cX10_feed 48 = .ok (.getfield 46, 3) := by decide +kernel
theorem dX10_feed_51 : decode cX10_feed 51 = .ok (.iload 5, 2) := by decide +kernel
theorem dX10_feed_53 : decode cX10_feed 53 = .ok (.invokevirtual 211, 3) := by decide +kernel
theorem dX10_feed_56 : decode cX10_feed 56 = .ok (.aload_n 0, 1) := by decide +kernel
theorem dX10_feed_57 : decode cX10_feed 57 = .ok (.getfield 46, 3) := by decide +kernel
theorem dX10_feed_60 : decode cX10_feed 60 = .ok (.getfield 215, 3) := by decide +kernel
theorem dX10_feed_63 : decode cX10_feed 63 = .ok (.ireturn, 1) := by decide +kernel
theorem dX10_end_0 : decode cX10_end 0 = .ok (.iload_n 1, 1) := by decide +kernel
theorem dX10_end_1 : decode cX10_end 1 = .ok (.iconst 0, 1) := by decide +kernel
theorem dX10_end_2 : decode cX10_end 2 = .ok (.aload_n 0, 1) := by decide +kernel
theorem dX10_end_3 : decode cX10_end 3 = .ok (.getfield 46, 3) := by decide +kernel
theorem dX10_end_6 : decode cX10_end 6 = .ok (.getfield 215, 3) := by decide +kernel
theorem dX10_end_9 : decode cX10_end 9 = .ok (.invokestatic 99, 3) := by decide +kernel
theorem dX10_end_12 : decode cX10_end 12 = .ok (.ifCond .ne 5, 3) := by decide +kernel
theorem dX10_end_15 : decode cX10_end 15 = .ok (.iconst (-1), 1) := by decide +kernel
theorem dX10_end_16 : decode cX10_end 16 = .ok (.ireturn, 1) := by decide +kernel
theorem dX10_end_17 : decode cX10_end 17 = .ok (.aload_n 0, 1) := by decide +kernel
theorem dX10_end_18 : decode cX10_end 18 = .ok (.getfield 46, 3) := by decide +kernel
theorem dX10_end_21 : decode cX10_end 21 = .ok (.iload_n 1, 1) := by decide +kernel
theorem dX10_end_22 : decode cX10_end 22 = .ok (.putfield 215, 3) := by decide +kernel
theorem dX10_end_25 : decode cX10_end 25 = .ok (.iload_n 1, 1) := by decide +kernel
theorem dX10_end_26 : decode cX10_end 26 = .ok (.ireturn, 1) := by decide +kernel
theorem dX10_statute_0 : decode cX10_statute 0 = .ok (.iload_n 1, 1) := by decide +kernel
theorem dX10_statute_1 : decode cX10_statute 1 = .ok (.invokestatic 218, 3) := by decide +kernel
theorem dX10_statute_4 : decode cX10_statute 4 = .ok (.ifCond .eq 27, 3) := by decide +kernel
theorem dX10_statute_7 : decode cX10_statute 7 = .ok (.iload_n 2, 1) := by decide +kernel
theorem dX10_statute_8 : decode cX10_statute 8 = .ok (.aload_n 0, 1) := by decide +kernel
theorem dX10_statute_9 : decode cX10_statute 9 = .ok (.getfield 7, 3) := by decide +kernel
theorem dX10_statute_12 : decode cX10_statute 12 = .ok (.sipush 8999, 3) := by decide +kernel
theorem dX10_statute_15 : decode cX10_statute 15 = .ok (.invokestatic 99, 3) := by decide +kernel
theorem dX10_statute_18 : decode cX10_statute 18 = .ok (.ifCond .eq 13, 3) := by decide +kernel
theorem dX10_statute_21 : decode cX10_statute 21 = .ok (.aload_n 0, 1) := by decide +kernel
theorem dX10_statute_22 : decode cX10_statute 22 = .ok (.getfield 37, 3) := by decide +kernel
theorem dX10_statute_25 : decode cX10_statute 25 = .ok (.invokevirtual 221, 3) := by decide +kernel
theorem dX10_statute_28 : decode cX10_statute 28 = .ok (.ifCond .eq 5, 3) := by decide +kernel
theorem dX10_statute_31 : decode cX10_statute 31 = .ok (.iconst (-1), 1) := by decide +kernel
theorem dX10_statute_32 : decode cX10_statute 32 = .ok (.ireturn, 1) := by decide +kernel
theorem dX10_statute_33 : decode cX10_statute 33 = .ok (.aload_n 0, 1) := by decide +kernel
theorem dX10_statute_34 : decode cX10_statute 34 = .ok (.getfield 46, 3) := by decide +kernel
theorem dX10_statute_37 : decode cX10_statute 37 = .ok (.iload_n 1, 1) := by decide +kernel
theorem dX10_statute_38 : decode cX10_statute 38 = .ok (.invokevirtual 225, 3) := by decide +kernel
theorem dX10_statute_41 : decode cX10_statute 41 = .ok (.istore_n 3, 1) := by decide +kernel
theorem dX10_statute_42 : decode cX10_statute 42 = .ok (.aload_n 0, 1) := by decide +kernel
theorem dX10_statute_43 : decode cX10_statute 43 = .ok (.getfield 46, 3) := by decide +kernel
theorem dX10_statute_46 : decode cX10_statute 46 = .ok (.iconst 0, 1) := by decide +kernel
theorem dX10_statute_47 : decode cX10_statute 47 = .ok (.putfield 215, 3) := by decide +kernel
theorem dX10_statute_50 : decode cX10_statute 50 = .ok (.iload_n 3, 1) := by decide +kernel
theorem dX10_statute_51 : decode cX10_statute 51 = .ok (.ifCond .ne 15, 3) := by decide +kernel
theorem dX10_statute_54 : decode cX10_statute 54 = .ok (.aload_n 0, 1) := by decide +kernel
theorem dX10_statute_55 : decode cX10_statute 55 = .ok (.getfield 37, 3) := by decide +kernel
theorem dX10_statute_58 : decode cX10_statute 58 = .ok (.iload_n 1, 1) := by decide +kernel
theorem dX10_statute_59 : decode cX10_statute 59 = .ok (.iload_n 2, 1) := by decide +kernel
theorem dX10_statute_60 : decode cX10_statute 60 = .ok (.invokevirtual 228, 3) := by decide +kernel
theorem dX10_statute_63 : decode cX10_statute 63 = .ok (.goto 7, 3) := by decide +kernel
theorem dX10_statute_66 : decode cX10_statute 66 = .ok (.bipush (-2), 2) := by decide +kernel
theorem dX10_statute_68 : decode cX10_statute 68 = .ok (.iload_n 3, 1) := by decide +kernel
theorem dX10_statute_69 : decode cX10_statute 69 = .ok (.isub, 1) := by decide +kernel
theorem dX10_statute_70 : decode cX10_statute 70 = .ok (.ireturn, 1) := by decide +kernel
theorem dX10_inForce_0 : decode cX10_inForce 0 = .ok (.aload_n 0, 1) := by decide +kernel
theorem dX10_inForce_1 : decode cX10_inForce 1 = .ok (.getfield 37, 3) := by decide +kernel
theorem dX10_inForce_4 : decode cX10_inForce 4 = .ok (.iload_n 1, 1) := by decide +kernel
theorem dX10_inForce_5 : decode cX10_inForce 5 = .ok (.invokevirtual 231, 3) := by decide +kernel
theorem dX10_inForce_8 : decode cX10_inForce 8 = .ok (.ifCond .eq 10, 3) := by decide +kernel
theorem dX10_inForce_11 : decode cX10_inForce 11 = .ok (.iload_n 2, 1) := by decide +kernel
theorem dX10_inForce_12 : decode cX10_inForce 12 = .ok (.invokestatic 125, 3) := by decide +kernel
theorem dX10_inForce_15 : decode cX10_inForce 15 = .ok (.ifCond .ne 5, 3) := by decide +kernel
theorem dX10_inForce_18 : decode cX10_inForce 18 = .ok (.iconst (-1), 1) := by decide +kernel
theorem dX10_inForce_19 : decode cX10_inForce 19 = .ok (.ireturn, 1) := by decide +kernel
theorem dX10_inForce_20 : decode cX10_inForce 20 = .ok (.aload_n 0, 1) := by decide +kernel
theorem dX10_inForce_21 : decode cX10_inForce 21 = .ok (.getfield 37, 3) := by decide +kernel
theorem dX10_inForce_24 : decode cX10_inForce 24 = .ok (.iload_n 1, 1) := by decide +kernel
theorem dX10_inForce_25 : decode cX10_inForce 25 = .ok (.iload_n 2, 1) := by decide +kernel
theorem dX10_inForce_26 : decode cX10_inForce 26 = .ok (.invokevirtual 232, 3) := by decide +kernel
theorem dX10_inForce_29 : decode cX10_inForce 29 = .ok (.ifCond .eq 7, 3) := by decide +kernel
theorem dX10_inForce_32 : decode cX10_inForce 32 = .ok (.iconst 1, 1) := by decide +kernel
theorem dX10_inForce_33 : decode cX10_inForce 33 = .ok (.goto 4, 3) := by decide +kernel
theorem dX10_inForce_36 : decode cX10_inForce 36 = .ok (.iconst 0, 1) := by decide +kernel
theorem dX10_inForce_37 : decode cX10_inForce 37 = .ok (.ireturn, 1) := by decide +kernel
theorem dX10_canAsk_0 : decode cX10_canAsk 0 = .ok (.iload_n 1, 1) := by decide +kernel
theorem dX10_canAsk_1 : decode cX10_canAsk 1 = .ok (.invokestatic 218, 3) := by decide +kernel
theorem dX10_canAsk_4 : decode cX10_canAsk 4 = .ok (.ifCond .eq 35, 3) := by decide +kernel
theorem dX10_canAsk_7 : decode cX10_canAsk 7 = .ok (.aload_n 0, 1) := by decide +kernel
theorem dX10_canAsk_8 : decode cX10_canAsk 8 = .ok (.getfield 23, 3) := by decide +kernel
theorem dX10_canAsk_11 : decode cX10_canAsk 11 = .ok (.iload_n 2, 1) := by decide +kernel
theorem dX10_canAsk_12 : decode cX10_canAsk 12 = .ok (.invokevirtual 119, 3) := by decide +kernel
theorem dX10_canAsk_15 : decode cX10_canAsk 15 = .ok (.ifCond .eq 24, 3) := by decide +kernel
theorem dX10_canAsk_18 : decode cX10_canAsk 18 = .ok (.iload_n 3, 1) := by decide +kernel
theorem dX10_canAsk_19 : decode cX10_canAsk 19 = .ok (.iload 4, 2) := by decide +kernel
theorem dX10_canAsk_21 : decode cX10_canAsk 21 = .ok (.invokestatic 103, 3) := by decide +kernel
theorem dX10_canAsk_24 : decode cX10_canAsk 24 = .ok (.ifCond .eq 15, 3) := by decide +kernel
theorem dX10_canAsk_27 : decode cX10_canAsk 27 = .ok (.iload 5, 2) := by decide +kernel
theorem dX10_canAsk_29 : decode cX10_canAsk 29 = .ok (.invokestatic 125, 3) := by decide +kernel
theorem dX10_canAsk_32 : decode cX10_canAsk 32 = .ok (.ifCond .eq 7, 3) := by decide +kernel
theorem dX10_canAsk_35 : decode cX10_canAsk 35 = .ok (.iconst 1, 1) := by decide +kernel
theorem dX10_canAsk_36 : decode cX10_canAsk 36 = .ok (.goto 4, 3) := by decide +kernel
theorem dX10_canAsk_39 : decode cX10_canAsk 39 = .ok (.iconst 0, 1) := by decide +kernel
theorem dX10_canAsk_40 : decode cX10_canAsk 40 = .ok (.ireturn, 1) := by decide +kernel
theorem dX10_askOf_0 : decode cX10_askOf 0 = .ok (.aload_n 0, 1) := by decide +kernel
theorem dX10_askOf_1 : decode cX10_askOf 1 = .ok (.getfield 50, 3) := by decide +kernel
theorem dX10_askOf_4 : decode cX10_askOf 4 = .ok (.lconst 0, 1) := by decide +kernel
theorem dX10_askOf_5 : decode cX10_askOf 5 = .ok (.invokestatic 154, 3) := by decide +kernel
theorem dX10_askOf_8 : decode cX10_askOf 8 = .ok (.aload_n 0, 1) := by decide +kernel
theorem dX10_askOf_9 : decode cX10_askOf 9 = .ok (.getfield 50, 3) := by decide +kernel
theorem dX10_askOf_12 : decode cX10_askOf 12 = .ok (.iconst 0, 1) := by decide +kernel
theorem dX10_askOf_13 : decode cX10_askOf 13 = .ok (.iload 4, 2) := by decide +kernel
theorem dX10_askOf_15 : decode cX10_askOf 15 = .ok (.i2l, 1) := by decide +kernel
theorem dX10_askOf_16 : decode cX10_askOf 16 = .ok (.lastore, 1) := by decide +kernel
theorem dX10_askOf_17 : decode cX10_askOf 17 = .ok (.aload_n 0, 1) := by decide +kernel
theorem dX10_askOf_18 : decode cX10_askOf 18 = .ok (.getfield 50, 3) := by decide +kernel
theorem dX10_askOf_21 : decode cX10_askOf 21 = .ok (.iconst 1, 1) := by decide +kernel
theorem dX10_askOf_22 : decode cX10_askOf 22 = .ok (.iload_n 2, 1) := by decide +kernel
theorem dX10_askOf_23 : decode cX10_askOf 23 = .ok (.i2l, 1) := by decide +kernel
theorem dX10_askOf_24 : decode cX10_askOf 24 = .ok (.lastore, 1) := by decide +kernel
theorem dX10_askOf_25 : decode cX10_askOf 25 = .ok (.aload_n 0, 1) := by decide +kernel
theorem dX10_askOf_26 : decode cX10_askOf 26 = .ok (.getfield 50, 3) := by decide +kernel
theorem dX10_askOf_29 : decode cX10_askOf 29 = .ok (.iconst 2, 1) := by decide +kernel
theorem dX10_askOf_30 : decode cX10_askOf 30 = .ok (.iload_n 3, 1) := by decide +kernel
theorem dX10_askOf_31 : decode cX10_askOf 31 = .ok (.i2l, 1) := by decide +kernel
theorem dX10_askOf_32 : decode cX10_askOf 32 = .ok (.lastore, 1) := by decide +kernel
theorem dX10_askOf_33 : decode cX10_askOf 33 = .ok (.aload_n 0, 1) := by decide +kernel
theorem dX10_askOf_34 : decode cX10_askOf 34 = .ok (.getfield 50, 3) := by decide +kernel
theorem dX10_askOf_37 : decode cX10_askOf 37 = .ok (.iconst 3, 1) := by decide +kernel
theorem dX10_askOf_38 : decode cX10_askOf 38 = .ok (.aload_n 0, 1) := by decide +kernel
theorem dX10_askOf_39 : decode cX10_askOf 39 = .ok (.getfield 16, 3) := by decide +kernel
theorem dX10_askOf_42 : decode cX10_askOf 42 = .ok (.iload_n 2, 1) := by decide +kernel
theorem dX10_askOf_43 : decode cX10_askOf 43 = .ok (.iload_n 3, 1) := by decide +kernel
theorem dX10_askOf_44 : decode cX10_askOf 44 = .ok (.invokevirtual 235, 3) := by decide +kernel
theorem dX10_askOf_47 : decode cX10_askOf 47 = .ok (.i2l, 1) := by decide +kernel
theorem dX10_askOf_48 : decode cX10_askOf 48 = .ok (.lastore, 1) := by decide +kernel
theorem dX10_askOf_49 : decode cX10_askOf 49 = .ok (.aload_n 0, 1) := by decide +kernel
theorem dX10_askOf_50 : decode cX10_askOf 50 = .ok (.getfield 23, 3) := by decide +kernel
theorem dX10_askOf_53 : decode cX10_askOf 53 = .ok (.iload_n 1, 1) := by decide +kernel
theorem dX10_askOf_54 : decode cX10_askOf 54 = .ok (.invokevirtual 119, 3) := by decide +kernel
theorem dX10_askOf_57 : decode cX10_askOf 57 = .ok (.ifCond .eq 69, 3) := by decide +kernel
theorem dX10_askOf_60 : decode cX10_askOf 60 = .ok (.aload_n 0, 1) := by decide +kernel
theorem dX10_askOf_61 : decode cX10_askOf 61 = .ok (.getfield 50, 3) := by decide +kernel
theorem dX10_askOf_64 : decode cX10_askOf 64 = .ok (.iconst 4, 1) := by decide +kernel
theorem dX10_askOf_65 : decode cX10_askOf 65 = .ok (.aload_n 0, 1) := by decide +kernel
theorem dX10_askOf_66 : decode cX10_askOf 66 = .ok (.getfield 23, 3) := by decide +kernel
theorem dX10_askOf_69 : decode cX10_askOf 69 = .ok (.getfield 188, 3) := by decide +kernel
theorem dX10_askOf_72 : decode cX10_askOf 72 = .ok (.iload_n 1, 1) := by decide +kernel
theorem dX10_askOf_73 : decode cX10_askOf 73 = .ok (.iaload, 1) := by decide +kernel
theorem dX10_askOf_74 : decode cX10_askOf 74 = .ok (.i2l, 1) := by decide +kernel
theorem dX10_askOf_75 : decode cX10_askOf 75 = .ok (.lastore, 1) := by decide +kernel
theorem dX10_askOf_76 : decode cX10_askOf 76 = .ok (.aload_n 0, 1) := by decide +kernel
theorem dX10_askOf_77 : decode cX10_askOf 77 = .ok (.getfield 50, 3) := by decide +kernel
theorem dX10_askOf_80 : decode cX10_askOf 80 = .ok (.iconst 5, 1) := by decide +kernel
theorem dX10_askOf_81 : decode cX10_askOf 81 = .ok (.aload_n 0, 1) := by decide +kernel
theorem dX10_askOf_82 : decode cX10_askOf 82 = .ok (.getfield 23, 3) := by decide +kernel
theorem dX10_askOf_85 : decode cX10_askOf 85 = .ok (.getfield 238, 3) := by decide +kernel
theorem dX10_askOf_88 : decode cX10_askOf 88 = .ok (.iload_n 1, 1) := by decide +kernel
theorem dX10_askOf_89 : decode cX10_askOf 89 = .ok (.iaload, 1) := by decide +kernel
theorem dX10_askOf_90 : decode cX10_askOf 90 = .ok (.i2l, 1) := by decide +kernel
theorem dX10_askOf_91 : decode cX10_askOf 91 = .ok (.lastore, 1) := by decide +kernel
theorem dX10_askOf_92 : decode cX10_askOf 92 = .ok (.aload_n 0, 1) := by decide +kernel
theorem dX10_askOf_93 : decode cX10_askOf 93 = .ok (.getfield 50, 3) := by decide +kernel
theorem dX10_askOf_96 : decode cX10_askOf 96 = .ok (.bipush 6, 2) := by decide +kernel
theorem dX10_askOf_98 : decode cX10_askOf 98 = .ok (.aload_n 0, 1) := by decide +kernel
theorem dX10_askOf_99 : decode cX10_askOf 99 = .ok (.getfield 23, 3) := by decide +kernel
theorem dX10_askOf_102 : decode cX10_askOf 102 = .ok (.getfield 241, 3) := by decide +kernel
theorem dX10_askOf_105 : decode cX10_askOf 105 = .ok (.iload_n 1, 1) := by decide +kernel
theorem dX10_askOf_106 : decode cX10_askOf 106 = .ok (.iaload, 1) := by decide +kernel
theorem dX10_askOf_107 : decode cX10_askOf 107 = .ok (.i2l, 1) := by decide +kernel
theorem dX10_askOf_108 : decode cX10_askOf 108 = .ok (.lastore, 1) := by decide +kernel
theorem dX10_askOf_109 : decode cX10_askOf 109 = .ok (.aload_n 0, 1) := by decide +kernel
theorem dX10_askOf_110 : decode cX10_askOf 110 = .ok (.getfield 50, 3) := by decide +kernel
theorem dX10_askOf_113 : decode cX10_askOf 113 = .ok (.bipush 7, 2) := by decide +kernel
theorem dX10_askOf_115 : decode cX10_askOf 115 = .ok (.aload_n 0, 1) := by decide +kernel
theorem dX10_askOf_116 : decode cX10_askOf 116 = .ok (.getfield 23, 3) := by decide +kernel
theorem dX10_askOf_119 : decode cX10_askOf 119 = .ok (.getfield 131, 3) := by decide +kernel
theorem dX10_askOf_122 : decode cX10_askOf 122 = .ok (.iload_n 1, 1) := by decide +kernel
theorem dX10_askOf_123 : decode cX10_askOf 123 = .ok (.iaload, 1) := by decide +kernel
theorem dX10_askOf_124 : decode cX10_askOf 124 = .ok (.i2l, 1) := by decide +kernel
theorem dX10_askOf_125 : decode cX10_askOf 125 = .ok (.lastore, 1) := by decide +kernel
theorem dX10_askOf_126 : decode cX10_askOf 126 = .ok (.return_, 1) := by decide +kernel
theorem dX10_findMay_0 : decode cX10_findMay 0 = .ok (.aload_n 0, 1) := by decide +kernel
theorem dX10_findMay_1 : decode cX10_findMay 1 = .ok (.iload_n 3, 1) := by decide +kernel
theorem dX10_findMay_2 : decode cX10_findMay 2 = .ok (.iload 4, 2) := by decide +kernel
theorem dX10_findMay_4 : decode cX10_findMay 4 = .ok (.iload 5, 2) := by decide +kernel
theorem dX10_findMay_6 : decode cX10_findMay 6 = .ok (.iload 6, 2) := by decide +kernel
theorem dX10_findMay_8 : decode cX10_findMay 8 = .ok (.invokevirtual 244, 3) := by decide +kernel
theorem dX10_findMay_11 : decode cX10_findMay 11 = .ok (.iload_n 1, 1) := by decide +kernel
theorem dX10_findMay_12 : decode cX10_findMay 12 = .ok (.iconst 2, 1) := by decide +kernel
theorem dX10_findMay_13 : decode cX10_findMay 13 = .ok (.if_icmp .ne 7, 3) := by decide +kernel
theorem dX10_findMay_16 : decode cX10_findMay 16 = .ok (.iconst 0, 1) := by decide +kernel
theorem dX10_findMay_17 : decode cX10_findMay 17 = .ok (.goto 4, 3) := by decide +kernel
theorem dX10_findMay_20 : decode cX10_findMay 20 = .ok (.iload_n 1, 1) := by decide +kernel
theorem dX10_findMay_21 : decode cX10_findMay 21 = .ok (.istore 7, 2) := by decide +kernel
theorem dX10_findMay_23 : decode cX10_findMay 23 = .ok (.aload_n 0, 1) := by decide +kernel
theorem dX10_findMay_24 : decode cX10_findMay 24 = .ok (.getfield 50, 3) := by decide +kernel
theorem dX10_findMay_27 : decode cX10_findMay 27 = .ok (.bipush 8, 2) := by decide +kernel
theorem dX10_findMay_29 : decode cX10_findMay 29 = .ok (.aload_n 0, 1) := by decide +kernel
theorem dX10_findMay_30 : decode cX10_findMay 30 = .ok (.getfield 16, 3) := by decide +kernel
theorem dX10_findMay_33 : decode cX10_findMay 33 = .ok (.iload 7, 2) := by decide +kernel
theorem dX10_findMay_35 : decode cX10_findMay 35 = .ok (.iconst 0, 1) := by decide +kernel
theorem dX10_findMay_36 : decode cX10_findMay 36 = .ok (.iload 4, 2) := by decide +kernel
theorem dX10_findMay_38 : decode cX10_findMay 38 = .ok (.iload 5, 2) := by decide +kernel
theorem dX10_findMay_40 : decode cX10_findMay 40 = .ok (.aload_n 0, 1) := by decide +kernel
theorem dX10_findMay_41 : decode cX10_findMay 41 = .ok (.iload 7, 2) := by decide +kernel
theorem dX10_findMay_43 : decode cX10_findMay 43 = .ok (.iload 6, 2) := by decide +kernel
theorem dX10_findMay_45 : decode cX10_findMay 45 = .ok (.invokevirtual 150, 3) := by decide +kernel
theorem dX10_findMay_48 : decode cX10_findMay 48 = .ok (.invokevirtual 179, 3) := by decide +kernel
theorem dX10_findMay_51 : decode cX10_findMay 51 = .ok (.ifCond .eq 7, 3) := by decide +kernel
theorem dX10_findMay_54 : decode cX10_findMay 54 = .ok (.lconst 1, 1) := by decide +kernel
theorem dX10_findMay_55 : decode cX10_findMay 55 = .ok (.goto 4, 3) := by decide +kernel
theorem dX10_findMay_58 : decode cX10_findMay 58 = .ok (.lconst 0, 1) := by decide +kernel
theorem dX10_findMay_59 : decode cX10_findMay 59 = .ok (.lastore, 1) := by decide +kernel
theorem dX10_findMay_60 : decode cX10_findMay 60 = .ok (.aload_n 0, 1) := by decide +kernel
theorem dX10_findMay_61 : decode cX10_findMay 61 = .ok (.getfield 37, 3) := by decide +kernel
theorem dX10_findMay_64 : decode cX10_findMay 64 = .ok (.iload_n 1, 1) := by decide +kernel
theorem dX10_findMay_65 : decode cX10_findMay 65 = .ok (.iload_n 2, 1) := by decide +kernel
theorem dX10_findMay_66 : decode cX10_findMay 66 = .ok (.iload 6, 2) := by decide +kernel
theorem dX10_findMay_68 : decode cX10_findMay 68 = .ok (.aload_n 0, 1) := by decide +kernel
theorem dX10_findMay_69 : decode cX10_findMay 69 = .ok (.getfield 50, 3) := by decide +kernel
theorem dX10_findMay_72 : decode cX10_findMay 72 = .ok (.invokevirtual 160, 3) := by decide +kernel
theorem dX10_findMay_75 : decode cX10_findMay 75 = .ok (.ireturn, 1) := by decide +kernel
theorem dX10_meshFor_0 : decode cX10_meshFor 0 = .ok (.aload_n 0, 1) := by decide +kernel
theorem dX10_meshFor_1 : decode cX10_meshFor 1 = .ok (.iload_n 2, 1) := by decide +kernel
theorem dX10_meshFor_2 : decode cX10_meshFor 2 = .ok (.iload_n 3, 1) := by decide +kernel
theorem dX10_meshFor_3 : decode cX10_meshFor 3 = .ok (.iload 4, 2) := by decide +kernel
theorem dX10_meshFor_5 : decode cX10_meshFor 5 = .ok (.iload 5, 2) := by decide +kernel
theorem dX10_meshFor_7 : decode cX10_meshFor 7 = .ok (.invokevirtual 244, 3) := by decide +kernel
theorem dX10_meshFor_10 : decode cX10_meshFor 10 = .ok (.aload_n 0, 1) := by decide +kernel
theorem dX10_meshFor_11 : decode cX10_meshFor 11 = .ok (.getfield 37, 3) := by decide +kernel
theorem dX10_meshFor_14 : decode cX10_meshFor 14 = .ok (.aload_n 0, 1) := by decide +kernel
theorem dX10_meshFor_15 : decode cX10_meshFor 15 = .ok (.getfield 37, 3) := by decide +kernel
theorem dX10_meshFor_18 : decode cX10_meshFor 18 = .ok (.iload_n 1, 1) := by decide +kernel
theorem dX10_meshFor_19 : decode cX10_meshFor 19 = .ok (.bipush 6, 2) := by decide +kernel
theorem dX10_meshFor_21 : decode cX10_meshFor 21 = .ok (.iload 5, 2) := by decide +kernel
theorem dX10_meshFor_23 : decode cX10_meshFor 23 = .ok (.aload_n 0, 1) := by decide +kernel
theorem dX10_meshFor_24 : decode cX10_meshFor 24 = .ok (.getfield 50, 3) := by decide +kernel
theorem dX10_meshFor_27 : decode cX10_meshFor 27 = .ok (.invokevirtual 160, 3) := by decide +kernel
theorem dX10_meshFor_30 : decode cX10_meshFor 30 = .ok (.aload_n 0, 1) := by decide +kernel
theorem dX10_meshFor_31 : decode cX10_meshFor 31 = .ok (.getfield 50, 3) := by decide +kernel
theorem dX10_meshFor_34 : decode cX10_meshFor 34 = .ok (.invokevirtual 164, 3) := by decide +kernel
theorem dX10_meshFor_37 : decode cX10_meshFor 37 = .ok (.lreturn, 1) := by decide +kernel
theorem dX10_may_0 : decode cX10_may 0 = .ok (.aload_n 0, 1) := by decide +kernel
theorem dX10_may_1 : decode cX10_may 1 = .ok (.iload_n 1, 1) := by decide +kernel
theorem dX10_may_2 : decode cX10_may 2 = .ok (.iload_n 3, 1) := by decide +kernel
theorem dX10_may_3 : decode cX10_may 3 = .ok (.iload 4, 2) := by decide +kernel
theorem dX10_may_5 : decode cX10_may 5 = .ok (.iload 5, 2) := by decide +kernel
theorem dX10_may_7 : decode cX10_may 7 = .ok (.iload 6, 2) := by decide +kernel
theorem dX10_may_9 : decode cX10_may 9 = .ok (.invokevirtual 248, 3) := by decide +kernel
theorem dX10_may_12 : decode cX10_may 12 = .ok (.ifCond .eq 12, 3) := by decide +kernel
theorem dX10_may_15 : decode cX10_may 15 = .ok (.iload_n 2, 1) := by decide +kernel
theorem dX10_may_16 : decode cX10_may 16 = .ok (.iconst 0, 1) := by decide +kernel
theorem dX10_may_17 : decode cX10_may 17 = .ok (.iconst 4, 1) := by decide +kernel
theorem dX10_may_18 : decode cX10_may 18 = .ok (.invokestatic 99, 3) := by decide +kernel
theorem dX10_may_21 : decode cX10_may 21 = .ok (.ifCond .ne 5, 3) := by decide +kernel
theorem dX10_may_24 : decode cX10_may 24 = .ok (.iconst (-1), 1) := by decide +kernel
theorem dX10_may_25 : decode cX10_may 25 = .ok (.ireturn, 1) := by decide +kernel
theorem dX10_may_26 : decode cX10_may 26 = .ok (.aload_n 0, 1) := by decide +kernel
theorem dX10_may_27 : decode cX10_may 27 = .ok (.getfield 37, 3) := by decide +kernel
theorem dX10_may_30 : decode cX10_may 30 = .ok (.aload_n 0, 1) := by decide +kernel
theorem dX10_may_31 : decode cX10_may 31 = .ok (.iload_n 1, 1) := by decide +kernel
theorem dX10_may_32 : decode cX10_may 32 = .ok (.iload_n 2, 1) := by decide +kernel
theorem dX10_may_33 : decode cX10_may 33 = .ok (.iload_n 3, 1) := by decide +kernel
theorem dX10_may_34 : decode cX10_may 34 = .ok (.iload 4, 2) := by decide +kernel
theorem dX10_may_36 : decode cX10_may 36 = .ok (.iload 5, 2) := by decide +kernel
theorem dX10_may_38 : decode cX10_may 38 = .ok (.iload 6, 2) := by decide +kernel
theorem dX10_may_40 : decode cX10_may 40 = .ok (.invokevirtual 251, 3) := by decide +kernel
theorem dX10_may_43 : decode cX10_may 43 = .ok (.iload_n 2, 1) := by decide +kernel
theorem dX10_may_44 : decode cX10_may 44 = .ok (.invokevirtual 254, 3) := by decide +kernel
theorem dX10_may_47 : decode cX10_may 47 = .ok (.ifCond .eq 7, 3) := by decide +kernel
theorem dX10_may_50 : decode cX10_may 50 = .ok (.iconst 1, 1) := by decide +kernel
theorem dX10_may_51 : decode cX10_may 51 = .ok (.goto 4, 3) := by decide +kernel
theorem dX10_may_54 : decode cX10_may 54 = .ok (.iconst 0, 1) := by decide +kernel
theorem dX10_may_55 : decode cX10_may 55 = .ok (.ireturn, 1) := by decide +kernel
theorem dX10_mesh_0 : decode cX10_mesh 0 = .ok (.aload_n 0, 1) := by decide +kernel
theorem dX10_mesh_1 : decode cX10_mesh 1 = .ok (.iload_n 1, 1) := by decide +kernel
theorem dX10_mesh_2 : decode cX10_mesh 2 = .ok (.iload_n 2, 1) := by decide +kernel
theorem dX10_mesh_3 : decode cX10_mesh 3 = .ok (.iload_n 3, 1) := by decide +kernel
theorem dX10_mesh_4 : decode cX10_mesh 4 = .ok (.iload 4, 2) := by decide +kernel
theorem dX10_mesh_6 : decode cX10_mesh 6 = .ok (.iload 5, 2) := by decide +kernel
theorem dX10_mesh_8 : decode cX10_mesh 8 = .ok (.invokevirtual 248, 3) := by decide +kernel
theorem dX10_mesh_11 : decode cX10_mesh 11 = .ok (.ifCond .ne 5, 3) := by decide +kernel
theorem dX10_mesh_14 : decode cX10_mesh 14 = .ok (.lconst 0, 1) := by decide +kernel
theorem dX10_mesh_15 : decode cX10_mesh 15 = .ok (.lreturn, 1) := by decide +kernel
theorem dX10_mesh_16 : decode cX10_mesh 16 = .ok (.aload_n 0, 1) := by decide +kernel
theorem dX10_mesh_17 : decode cX10_mesh 17 = .ok (.iload_n 1, 1) := by decide +kernel
theorem dX10_mesh_18 : decode cX10_mesh 18 = .ok (.iload_n 2, 1) := by decide +kernel
theorem dX10_mesh_19 : decode cX10_mesh 19 = .ok (.iload_n 3, 1) := by decide +kernel
theorem dX10_mesh_20 : decode cX10_mesh 20 = .ok (.iload 4, 2) := by decide +kernel
theorem dX10_mesh_22 : decode cX10_mesh 22 = .ok (.iload 5, 2) := by decide +kernel
theorem dX10_mesh_24 : decode cX10_mesh 24 = .ok (.invokevirtual 257, 3) := by decide +kernel
theorem dX10_mesh_27 : decode cX10_mesh 27 = .ok (.lreturn, 1) := by decide +kernel
theorem dX10_by_0 : decode cX10_by 0 = .ok (.aload_n 0, 1) := by decide +kernel
theorem dX10_by_1 : decode cX10_by 1 = .ok (.iload_n 1, 1) := by decide +kernel
theorem dX10_by_2 : decode cX10_by 2 = .ok (.iload_n 3, 1) := by decide +kernel
theorem dX10_by_3 : decode cX10_by 3 = .ok (.iload 4, 2) := by decide +kernel
theorem dX10_by_5 : decode cX10_by 5 = .ok (.iload 5, 2) := by decide +kernel
theorem dX10_by_7 : decode cX10_by 7 = .ok (.iload 6, 2) := by decide +kernel
theorem dX10_by_9 : decode cX10_by 9 = .ok (.invokevirtual 248, 3) := by decide +kernel
theorem dX10_by_12 : decode cX10_by 12 = .ok (.ifCond .eq 12, 3) := by decide +kernel
theorem dX10_by_15 : decode cX10_by 15 = .ok (.iload_n 2, 1) := by decide +kernel
theorem dX10_by_16 : decode cX10_by 16 = .ok (.iconst 0, 1) := by decide +kernel
theorem dX10_by_17 : decode cX10_by 17 = .ok (.iconst 4, 1) := by decide +kernel
theorem dX10_by_18 : decode cX10_by 18 = .ok (.invokestatic 99, 3) := by decide +kernel
theorem dX10_by_21 : decode cX10_by 21 = .ok (.ifCond .ne 5, 3) := by decide +kernel
theorem dX10_by_24 : decode cX10_by 24 = .ok (.iconst (-1), 1) := by decide +kernel
theorem dX10_by_25 : decode cX10_by 25 = .ok (.ireturn, 1) := by decide +kernel
theorem dX10_by_26 : decode cX10_by 26 = .ok (.aload_n 0, 1) := by decide +kernel
theorem dX10_by_27 : decode cX10_by 27 = .ok (.iload_n 1, 1) := by decide +kernel
theorem dX10_by_28 : decode cX10_by 28 = .ok (.iload_n 2, 1) := by decide +kernel
theorem dX10_by_29 : decode cX10_by 29 = .ok (.iload_n 3, 1) := by decide +kernel
theorem dX10_by_30 : decode cX10_by 30 = .ok (.iload 4, 2) := by decide +kernel
theorem dX10_by_32 : decode cX10_by 32 = .ok (.iload 5, 2) := by decide +kernel
theorem dX10_by_34 : decode cX10_by 34 = .ok (.iload 6, 2) := by decide +kernel
theorem dX10_by_36 : decode cX10_by 36 = .ok (.invokevirtual 251, 3) := by decide +kernel
theorem dX10_by_39 : decode cX10_by 39 = .ok (.ireturn, 1) := by decide +kernel
theorem dX10_act_0 : decode cX10_act 0 = .ok (.aload_n 0, 1) := by decide +kernel
theorem dX10_act_1 : decode cX10_act 1 = .ok (.getfield 61, 3) := by decide +kernel
theorem dX10_act_4 : decode cX10_act 4 = .ok (.sipush 150, 3) := by decide +kernel
theorem dX10_act_7 : decode cX10_act 7 = .ok (.if_icmp .ge 45, 3) := by decide +kernel
theorem dX10_act_10 : decode cX10_act 10 = .ok (.aload_n 0, 1) := by decide +kernel
theorem dX10_act_11 : decode cX10_act 11 = .ok (.getfield 23, 3) := by decide +kernel
theorem dX10_act_14 : decode cX10_act 14 = .ok (.iload_n 1, 1) := by decide +kernel
theorem dX10_act_15 : decode cX10_act 15 = .ok (.invokevirtual 119, 3) := by decide +kernel
theorem dX10_act_18 : decode cX10_act 18 = .ok (.ifCond .eq 34, 3) := by decide +kernel
theorem dX10_act_21 : decode cX10_act 21 = .ok (.iload_n 2, 1) := by decide +kernel
theorem dX10_act_22 : decode cX10_act 22 = .ok (.iconst 0, 1) := by decide +kernel
theorem dX10_act_23 : decode cX10_act 23 = .ok (.iconst 4, 1) := by decide +kernel
theorem dX10_act_24 : decode cX10_act 24 = .ok (.invokestatic 99, 3) := by decide +kernel
theorem dX10_act_27 : decode cX10_act 27 = .ok (.ifCond .eq 25, 3) := by decide +kernel
theorem dX10_act_30 : decode cX10_act 30 = .ok (.iload_n 3, 1) := by decide +kernel
theorem dX10_act_31 : decode cX10_act 31 = .ok (.iload 4, 2) := by decide +kernel
theorem dX10_act_33 : decode cX10_act 33 = .ok (.invokestatic 103, 3) := by decide +kernel
theorem dX10_act_36 : decode cX10_act 36 = .ok (.ifCond .eq 16, 3) := by decide +kernel
theorem dX10_act_39 : decode cX10_act 39 = .ok (.iload 5, 2) := by decide +kernel
theorem dX10_act_41 : decode cX10_act 41 = .ok (.iconst 0, 1) := by decide +kernel
theorem dX10_act_42 : decode cX10_act 42 = .ok (.aload_n 0, 1) := by decide +kernel
theorem dX10_act_43 : decode cX10_act 43 = .ok (.getfield 7, 3) := by decide +kernel
theorem dX10_act_46 : decode cX10_act 46 = .ok (.invokestatic 99, 3) := by decide +kernel
theorem dX10_act_49 : decode cX10_act 49 = .ok (.ifCond .ne 5, 3) := by decide +kernel
theorem dX10_act_52 : decode cX10_act 52 = .ok (.iconst (-1), 1) := by decide +kernel
theorem dX10_act_53 : decode cX10_act 53 = .ok (.ireturn, 1) := by decide +kernel
theorem dX10_act_54 : decode cX10_act 54 = .ok (.aload_n 0, 1) := by decide +kernel
theorem dX10_act_55 : decode cX10_act 55 = .ok (.getfield 61, 3) := by decide +kernel
theorem dX10_act_58 : decode cX10_act 58 = .ok (.iconst 5, 1) := by decide +kernel
theorem dX10_act_59 : decode cX10_act 59 = .ok (.imul, 1) := by decide +kernel
theorem dX10_act_60 : decode cX10_act 60 = .ok (.istore 6, 2) := by decide +kernel
theorem dX10_act_62 : decode cX10_act 62 = .ok (.aload_n 0, 1) := by decide +kernel
theorem dX10_act_63 : decode cX10_act 63 = .ok (.getfield 57, 3) := by decide +kernel
theorem dX10_act_66 : decode cX10_act 66 = .ok (.iload 6, 2) := by decide +kernel
theorem dX10_act_68 : decode cX10_act 68 = .ok (.iload_n 1, 1) := by decide +kernel
theorem dX10_act_69 : decode cX10_act 69 = .ok (.iastore, 1) := by decide +kernel
theorem dX10_act_70 : decode cX10_act 70 = .ok (.aload_n 0, 1) := by decide +kernel
theorem dX10_act_71 : decode cX10_act 71 = .ok (.getfield 57, 3) := by decide +kernel
theorem dX10_act_74 : decode cX10_act 74 = .ok (.iload 6, 2) := by decide +kernel
theorem dX10_act_76 : decode cX10_act 76 = .ok (.iconst 1, 1) := by decide +kernel
theorem dX10_act_77 : decode cX10_act 77 = .ok (.iadd, 1) := by decide +kernel
theorem dX10_act_78 : decode cX10_act 78 = .ok (.iload_n 2, 1) := by decide +kernel
theorem dX10_act_79 : decode cX10_act 79 = .ok (.iastore, 1) := by decide +kernel
theorem dX10_act_80 : decode cX10_act 80 = .ok (.aload_n 0, 1) := by decide +kernel
theorem dX10_act_81 : decode cX10_act 81 = .ok (.getfield 57, 3) := by decide +kernel
theorem dX10_act_84 : decode cX10_act 84 = .ok (.iload 6, 2) := by decide +kernel
theorem dX10_act_86 : decode cX10_act 86 = .ok (.iconst 2, 1) := by decide +kernel
theorem dX10_act_87 : decode cX10_act 87 = .ok (.iadd, 1) := by decide +kernel
theorem dX10_act_88 : decode cX10_act 88 = .ok (.iload_n 3, 1) := by decide +kernel
theorem dX10_act_89 : decode cX10_act 89 = .ok (.iastore, 1) := by decide +kernel
theorem dX10_act_90 : decode cX10_act 90 = .ok (.aload_n 0, 1) := by decide +kernel
theorem dX10_act_91 : decode cX10_act 91 = .ok (.getfield 57, 3) := by decide +kernel
theorem dX10_act_94 : decode cX10_act 94 = .ok (.iload 6, 2) := by decide +kernel
theorem dX10_act_96 : decode cX10_act 96 = .ok (.iconst 3, 1) := by decide +kernel
theorem dX10_act_97 : decode cX10_act 97 = .ok (.iadd, 1) := by decide +kernel
theorem dX10_act_98 : decode cX10_act 98 = .ok (.iload 4, 2) := by decide +kernel
theorem dX10_act_100 : decode cX10_act 100 = .ok (.iastore, 1) := by decide +kernel
theorem dX10_act_101 : decode cX10_act 101 = .ok (.aload_n 0, 1) := by decide +kernel
theorem dX10_act_102 : decode cX10_act 102 = .ok (.getfield 57, 3) := by decide +kernel
theorem dX10_act_105 : decode cX10_act 105 = .ok (.iload 6, 2) := by decide +kernel
theorem dX10_act_107 : decode cX10_act 107 = .ok (.iconst 4, 1) := by decide +kernel
theorem dX10_act_108 : decode cX10_act 108 = .ok (.iadd, 1) := by decide +kernel
theorem dX10_act_109 : decode cX10_act 109 = .ok (.iload 5, 2) := by decide +kernel
theorem dX10_act_111 : decode cX10_act 111 = .ok (.iastore, 1) := by decide +kernel
theorem dX10_act_112 : decode cX10_act 112 = .ok (.aload_n 0, 1) := by decide +kernel
theorem dX10_act_113 : decode cX10_act 113 = .ok (.dup, 1) := by decide +kernel
theorem dX10_act_114 : decode cX10_act 114 = .ok (.getfield 61, 3) := by decide +kernel
theorem dX10_act_117 : decode cX10_act 117 = .ok (.iconst 1, 1) := by decide +kernel
theorem dX10_act_118 : decode cX10_act 118 = .ok (.iadd, 1) := by decide +kernel
theorem dX10_act_119 : decode cX10_act 119 = .ok (.putfield 61, 3) := by decide +kernel
theorem dX10_act_122 : decode cX10_act 122 = .ok (.aload_n 0, 1) := by decide +kernel
theorem dX10_act_123 : decode cX10_act 123 = .ok (.getfield 61, 3) := by decide +kernel
theorem dX10_act_126 : decode cX10_act 126 = .ok (.iconst 1, 1) := by decide +kernel
theorem dX10_act_127 : decode cX10_act 127 = .ok (.isub, 1) := by decide +kernel
theorem dX10_act_128 : decode cX10_act 128 = .ok (.ireturn, 1) := by decide +kernel
theorem dX10_isKept_0 : decode cX10_isKept 0 = .ok (.iload_n 1, 1) := by decide +kernel
theorem dX10_isKept_1 : decode cX10_isKept 1 = .ok (.iconst 5, 1) := by decide +kernel
theorem dX10_isKept_2 : decode cX10_isKept 2 = .ok (.imul, 1) := by decide +kernel
theorem dX10_isKept_3 : decode cX10_isKept 3 = .ok (.istore_n 3, 1) := by decide +kernel
theorem dX10_isKept_4 : decode cX10_isKept 4 = .ok (.iload_n 3, 1) := by decide +kernel
theorem dX10_isKept_5 : decode cX10_isKept 5 = .ok (.iconst 0, 1) := by decide +kernel
theorem dX10_isKept_6 : decode cX10_isKept 6 = .ok (.aload_n 0, 1) := by decide +kernel
theorem dX10_isKept_7 : decode cX10_isKept 7 = .ok (.getfield 57, 3) := by decide +kernel
theorem dX10_isKept_10 : decode cX10_isKept 10 = .ok (.arraylength, 1) := by decide +kernel
theorem dX10_isKept_11 : decode cX10_isKept 11 = .ok (.iconst 5, 1) := by decide +kernel
theorem dX10_isKept_12 : decode cX10_isKept 12 = .ok (.isub, 1) := by decide +kernel
theorem dX10_isKept_13 : decode cX10_isKept 13 = .ok (.invokestatic 99, 3) := by decide +kernel
theorem dX10_isKept_16 : decode cX10_isKept 16 = .ok (.ifCond .ne 5, 3) := by decide +kernel
theorem dX10_isKept_19 : decode cX10_isKept 19 = .ok (.iconst 0, 1) := by decide +kernel
theorem dX10_isKept_20 : decode cX10_isKept 20 = .ok (.ireturn, 1) := by decide +kernel
theorem dX10_isKept_21 : decode cX10_isKept 21 = .ok (.aload_n 0, 1) := by decide +kernel
theorem dX10_isKept_22 : decode cX10_isKept 22 = .ok (.getfield 57, 3) := by decide +kernel
theorem dX10_isKept_25 : decode cX10_isKept 25 = .ok (.iload_n 3, 1) := by decide +kernel
theorem dX10_isKept_26 : decode cX10_isKept 26 = .ok (.iaload, 1) := by decide +kernel
theorem dX10_isKept_27 : decode cX10_isKept 27 = .ok (.istore 4, 2) := by decide +kernel
theorem dX10_isKept_29 : decode cX10_isKept 29 = .ok (.aload_n 0, 1) := by decide +kernel
theorem dX10_isKept_30 : decode cX10_isKept 30 = .ok (.getfield 57, 3) := by decide +kernel
theorem dX10_isKept_33 : decode cX10_isKept 33 = .ok (.iload_n 3, 1) := by decide +kernel
theorem dX10_isKept_34 : decode cX10_isKept 34 = .ok (.iconst 1, 1) := by decide +kernel
theorem dX10_isKept_35 : decode cX10_isKept 35 = .ok (.iadd, 1) := by decide +kernel
theorem dX10_isKept_36 : decode cX10_isKept 36 = .ok (.iaload, 1) := by decide +kernel
theorem dX10_isKept_37 : decode cX10_isKept 37 = .ok (.istore 5, 2) := by decide +kernel
theorem dX10_isKept_39 : decode cX10_isKept 39 = .ok (.aload_n 0, 1) := by decide +kernel
theorem dX10_isKept_40 : decode cX10_isKept 40 = .ok (.getfield 57, 3) := by decide +kernel
theorem dX10_isKept_43 : decode cX10_isKept 43 = .ok (.iload_n 3, 1) := by decide +kernel
theorem dX10_isKept_44 : decode cX10_isKept 44 = .ok (.iconst 2, 1) := by decide +kernel
theorem dX10_isKept_45 : decode cX10_isKept 45 = .ok (.iadd, 1) := by decide +kernel
theorem dX10_isKept_46 : decode cX10_isKept 46 = .ok (.iaload, 1) := by decide +kernel
theorem dX10_isKept_47 : decode cX10_isKept 47 = .ok (.istore 6, 2) := by decide +kernel
theorem dX10_isKept_49 : decode cX10_isKept 49 = .ok (.aload_n 0, 1) := by decide +kernel
theorem dX10_isKept_50 : decode cX10_isKept 50 = .ok (.getfield 57, 3) := by decide +kernel
theorem dX10_isKept_53 : decode cX10_isKept 53 = .ok (.iload_n 3, 1) := by decide +kernel
theorem dX10_isKept_54 : decode cX10_isKept 54 = .ok (.iconst 3, 1) := by decide +kernel
theorem dX10_isKept_55 : decode cX10_isKept 55 = .ok (.iadd, 1) := by decide +kernel
theorem dX10_isKept_56 : decode cX10_isKept 56 = .ok (.iaload, 1) := by decide +kernel
theorem dX10_isKept_57 : decode cX10_isKept 57 = .ok (.istore 7, 2) := by decide +kernel
theorem dX10_isKept_59 : decode cX10_isKept 59 = .ok (.aload_n 0, 1) := by decide +kernel
theorem dX10_isKept_60 : decode cX10_isKept 60 = .ok (.getfield 57, 3) := by decide +kernel
theorem dX10_isKept_63 : decode cX10_isKept 63 = .ok (.iload_n 3, 1) := by decide +kernel
theorem dX10_isKept_64 : decode cX10_isKept 64 = .ok (.iconst 4, 1) := by decide +kernel
theorem dX10_isKept_65 : decode cX10_isKept 65 = .ok (.iadd, 1) := by decide +kernel
theorem dX10_isKept_66 : decode cX10_isKept 66 = .ok (.iaload, 1) := by decide +kernel
theorem dX10_isKept_67 : decode cX10_isKept 67 = .ok (.istore 8, 2) := by decide +kernel
theorem dX10_isKept_69 : decode cX10_isKept 69 = .ok (.aload_n 0, 1) := by decide +kernel
theorem dX10_isKept_70 : decode cX10_isKept 70 = .ok (.getfield 23, 3) := by decide +kernel
theorem dX10_isKept_73 : decode cX10_isKept 73 = .ok (.iload 4, 2) := by decide +kernel
theorem dX10_isKept_75 : decode cX10_isKept 75 = .ok (.invokevirtual 119, 3) := by decide +kernel
theorem dX10_isKept_78 : decode cX10_isKept 78 = .ok (.ifCond .eq 30, 3) := by decide +kernel
theorem dX10_isKept_81 : decode cX10_isKept 81 = .ok (.aload_n 0, 1) := by decide +kernel
theorem dX10_isKept_82 : decode cX10_isKept 82 = .ok (.getfield 37, 3) := by decide +kernel
theorem dX10_isKept_85 : decode cX10_isKept 85 = .ok (.aload_n 0, 1) := by decide +kernel
theorem dX10_isKept_86 : decode cX10_isKept 86 = .ok (.iload_n 2, 1) := by decide +kernel
theorem dX10_isKept_87 : decode cX10_isKept 87 = .ok (.iload 5, 2) := by decide +kernel
theorem dX10_isKept_89 : decode cX10_isKept 89 = .ok (.iload 4, 2) := by decide +kernel
theorem dX10_isKept_91 : decode cX10_isKept 91 = .ok (.iload 6, 2) := by decide +kernel
theorem dX10_isKept_93 : decode cX10_isKept 93 = .ok (.iload 7, 2) := by decide +kernel
theorem dX10_isKept_95 : decode cX10_isKept 95 = .ok (.iload 8, 2) := by decide +kernel
theorem dX10_isKept_97 : decode cX10_isKept 97 = .ok (.invokevirtual 251, 3) := by decide +kernel
theorem dX10_isKept_100 : decode cX10_isKept 100 = .ok (.iload 5, 2) := by decide +kernel
theorem dX10_isKept_102 : decode cX10_isKept 102 = .ok (.invokevirtual 254, 3) := by decide +kernel
theorem dX10_isKept_105 : decode cX10_isKept 105 = .ok (.ifCond .ne 5, 3) := by decide +kernel
theorem dX10_isKept_108 : decode cX10_isKept 108 = .ok (.iconst 0, 1) := by decide +kernel
theorem dX10_isKept_109 : decode cX10_isKept 109 = .ok (.ireturn, 1) := by decide +kernel
theorem dX10_isKept_110 : decode cX10_isKept 110 = .ok (.iload 5, 2) := by decide +kernel
theorem dX10_isKept_112 : decode cX10_isKept 112 = .ok (.ifCond .ne 31, 3) := by decide +kernel
theorem dX10_isKept_115 : decode cX10_isKept 115 = .ok (.aload_n 0, 1) := by decide +kernel
theorem dX10_isKept_116 : decode cX10_isKept 116 = .ok (.getfield 23, 3) := by decide +kernel
theorem dX10_isKept_119 : decode cX10_isKept 119 = .ok (.getfield 241, 3) := by decide +kernel
theorem dX10_isKept_122 : decode cX10_isKept 122 = .ok (.iload 4, 2) := by decide +kernel
theorem dX10_isKept_124 : decode cX10_isKept 124 = .ok (.iaload, 1) := by decide +kernel
theorem dX10_isKept_125 : decode cX10_isKept 125 = .ok (.i2l, 1) := by decide +kernel
theorem dX10_isKept_126 : decode cX10_isKept 126 = .ok (.aload_n 0, 1) := by decide +kernel
theorem dX10_isKept_127 : decode cX10_isKept 127 = .ok (.iload_n 2, 1) := by decide +kernel
theorem dX10_isKept_128 : decode cX10_isKept 128 = .ok (.iload 4, 2) := by decide +kernel
theorem dX10_isKept_130 : decode cX10_isKept 130 = .ok (.iload 6, 2) := by decide +kernel
theorem dX10_isKept_132 : decode cX10_isKept 132 = .ok (.iload 7, 2) := by decide +kernel
theorem dX10_isKept_134 : decode cX10_isKept 134 = .ok (.iload 8, 2) := by decide +kernel
theorem dX10_isKept_136 : decode cX10_isKept 136 = .ok (.invokevirtual 257, 3) := by decide +kernel
theorem dX10_isKept_139 : decode cX10_isKept 139 = .ok (.lcmp, 1) := by decide +kernel
theorem dX10_isKept_140 : decode cX10_isKept 140 = .ok (.ifCond .lt 7, 3) := by decide +kernel
theorem dX10_isKept_143 : decode cX10_isKept 143 = .ok (.iconst 1, 1) := by decide +kernel
theorem dX10_isKept_144 : decode cX10_isKept 144 = .ok (.goto 4, 3) := by decide +kernel
theorem dX10_isKept_147 : decode cX10_isKept 147 = .ok (.iconst 0, 1) := by decide +kernel
theorem dX10_isKept_148 : decode cX10_isKept 148 = .ok (.ireturn, 1) := by decide +kernel
theorem dX10_kept_0 : decode cX10_kept 0 = .ok (.iload_n 1, 1) := by decide +kernel
theorem dX10_kept_1 : decode cX10_kept 1 = .ok (.iconst 0, 1) := by decide +kernel
theorem dX10_kept_2 : decode cX10_kept 2 = .ok (.aload_n 0, 1) := by decide +kernel
theorem dX10_kept_3 : decode cX10_kept 3 = .ok (.getfield 61, 3) := by decide +kernel
theorem dX10_kept_6 : decode cX10_kept 6 = .ok (.iconst 1, 1) := by decide +kernel
theorem dX10_kept_7 : decode cX10_kept 7 = .ok (.isub, 1) := by decide +kernel
theorem dX10_kept_8 : decode cX10_kept 8 = .ok (.invokestatic 99, 3) := by decide +kernel
theorem dX10_kept_11 : decode cX10_kept 11 = .ok (.ifCond .eq 10, 3) := by decide +kernel
theorem dX10_kept_14 : decode cX10_kept 14 = .ok (.iload_n 2, 1) := by decide +kernel
theorem dX10_kept_15 : decode cX10_kept 15 = .ok (.invokestatic 218, 3) := by decide +kernel
theorem dX10_kept_18 : decode cX10_kept 18 = .ok (.ifCond .ne 5, 3) := by decide +kernel
theorem dX10_kept_21 : decode cX10_kept 21 = .ok (.iconst (-1), 1) := by decide +kernel
theorem dX10_kept_22 : decode cX10_kept 22 = .ok (.ireturn, 1) := by decide +kernel
theorem dX10_kept_23 : decode cX10_kept 23 = .ok (.aload_n 0, 1) := by decide +kernel
theorem dX10_kept_24 : decode cX10_kept 24 = .ok (.iload_n 1, 1) := by decide +kernel
theorem dX10_kept_25 : decode cX10_kept 25 = .ok (.iload_n 2, 1) := by decide +kernel
theorem dX10_kept_26 : decode cX10_kept 26 = .ok (.invokevirtual 261, 3) := by decide +kernel
theorem dX10_kept_29 : decode cX10_kept 29 = .ok (.ifCond .eq 7, 3) := by decide +kernel
theorem dX10_kept_32 : decode cX10_kept 32 = .ok (.iconst 1, 1) := by decide +kernel
theorem dX10_kept_33 : decode cX10_kept 33 = .ok (.goto 4, 3) := by decide +kernel
theorem dX10_kept_36 : decode cX10_kept 36 = .ok (.iconst 0, 1) := by decide +kernel
theorem dX10_kept_37 : decode cX10_kept 37 = .ok (.ireturn, 1) := by decide +kernel
theorem dX10_broken_0 : decode cX10_broken 0 = .ok (.iload_n 1, 1) := by decide +kernel
theorem dX10_broken_1 : decode cX10_broken 1 = .ok (.invokestatic 111, 3) := by decide +kernel
theorem dX10_broken_4 : decode cX10_broken 4 = .ok (.ifCond .eq 10, 3) := by decide +kernel
theorem dX10_broken_7 : decode cX10_broken 7 = .ok (.iload_n 2, 1) := by decide +kernel
theorem dX10_broken_8 : decode cX10_broken 8 = .ok (.invokestatic 218, 3) := by decide +kernel
theorem dX10_broken_11 : decode cX10_broken 11 = .ok (.ifCond .ne 5, 3) := by decide +kernel
theorem dX10_broken_14 : decode cX10_broken 14 = .ok (.iconst (-1), 1) := by decide +kernel
theorem dX10_broken_15 : decode cX10_broken 15 = .ok (.ireturn, 1) := by decide +kernel
theorem dX10_broken_16 : decode cX10_broken 16 = .ok (.iconst 0, 1) := by decide +kernel
theorem dX10_broken_17 : decode cX10_broken 17 = .ok (.istore_n 3, 1) := by decide +kernel
theorem dX10_broken_18 : decode cX10_broken 18 = .ok (.iconst 0, 1) := by decide +kernel
theorem dX10_broken_19 : decode cX10_broken 19 = .ok (.istore 4, 2) := by decide +kernel
theorem dX10_broken_21 : decode cX10_broken 21 = .ok (.iload 4, 2) := by decide +kernel
theorem dX10_broken_23 : decode cX10_broken 23 = .ok (.aload_n 0, 1) := by decide +kernel
theorem dX10_broken_24 : decode cX10_broken 24 = .ok (.getfield 61, 3) := by decide +kernel
theorem dX10_broken_27 : decode cX10_broken 27 = .ok (.if_icmp .ge 59, 3) := by decide +kernel
theorem dX10_broken_30 : decode cX10_broken 30 = .ok (.aload_n 0, 1) := by decide +kernel
theorem dX10_broken_31 : decode cX10_broken 31 = .ok (.getfield 57, 3) := by decide +kernel
theorem dX10_broken_34 : decode cX10_broken 34 = .ok (.iload 4, 2) := by decide +kernel
theorem dX10_broken_36 : decode cX10_broken 36 = .ok (.iconst 5, 1) := by decide +kernel
theorem dX10_broken_37 : decode cX10_broken 37 = .ok (.imul, 1) := by decide +kernel
theorem dX10_broken_38 : decode cX10_broken 38 = .ok (.iaload, 1) := by decide +kernel
theorem dX10_broken_39 : decode cX10_broken 39 = .ok (.istore 5, 2) := by decide +kernel
theorem dX10_broken_41 : decode cX10_broken 41 = .ok (.aload_n 0, 1) := by decide +kernel
theorem dX10_broken_42 : decode cX10_broken 42 = .ok (.getfield 23, 3) := by decide +kernel
theorem dX10_broken_45 : decode cX10_broken 45 = .ok (.iload 5, 2) := by decide +kernel
theorem dX10_broken_47 : decode cX10_broken 47 = .ok (.invokevirtual 119, 3) := by decide +kernel
theorem dX10_broken_50 : decode cX10_broken 50 = .ok (.ifCond .eq 30, 3) := by decide +kernel
theorem dX10_broken_53 : decode cX10_broken 53 = .ok (.aload_n 0, 1) := by decide +kernel
theorem dX10_broken_54 : decode cX10_broken 54 = .ok (.getfield 23, 3) := by decide +kernel
theorem dX10_broken_57 : decode cX10_broken 57 = .ok (.getfield 188, 3) := by decide +kernel
theorem dX10_broken_60 : decode cX10_broken 60 = .ok (.iload 5, 2) := by decide +kernel
theorem dX10_broken_62 : decode cX10_broken 62 = .ok (.iaload, 1) := by decide +kernel
theorem dX10_broken_63 : decode cX10_broken 63 = .ok (.iload_n 1, 1) := by decide +kernel
theorem dX10_broken_64 : decode cX10_broken 64 = .ok (.if_icmp .ne 16, 3) := by decide +kernel
theorem dX10_broken_67 : decode cX10_broken 67 = .ok (.aload_n 0, 1) := by decide +kernel
theorem dX10_broken_68 : decode cX10_broken 68 = .ok (.iload 4, 2) := by decide +kernel
theorem dX10_broken_70 : decode cX10_broken 70 = .ok (.iload_n 2, 1) := by decide +kernel
theorem dX10_broken_71 : decode cX10_broken 71 = .ok (.invokevirtual 261, 3) := by decide +kernel
theorem dX10_broken_74 : decode cX10_broken 74 = .ok (.ifCond .ne 6, 3) := by decide +kernel
theorem dX10_broken_77 : decode cX10_broken 77 = .ok (.iinc 3 1, 3) := by decide +kernel
theorem dX10_broken_80 : decode cX10_broken 80 = .ok (.iinc 4 1, 3) := by decide +kernel
theorem dX10_broken_83 : decode cX10_broken 83 = .ok (.goto (-62), 3) := by decide +kernel
theorem dX10_broken_86 : decode cX10_broken 86 = .ok (.iload_n 3, 1) := by decide +kernel
theorem dX10_broken_87 : decode cX10_broken 87 = .ok (.ireturn, 1) := by decide +kernel
theorem dX10_hook_0 : decode cX10_hook 0 = .ok (.iload_n 1, 1) := by decide +kernel
theorem dX10_hook_1 : decode cX10_hook 1 = .ok (.iconst 1, 1) := by decide +kernel
theorem dX10_hook_2 : decode cX10_hook 2 = .ok (.iconst 5, 1) := by decide +kernel
theorem dX10_hook_3 : decode cX10_hook 3 = .ok (.invokestatic 99, 3) := by decide +kernel
theorem dX10_hook_6 : decode cX10_hook 6 = .ok (.ifCond .eq 23, 3) := by decide +kernel
theorem dX10_hook_9 : decode cX10_hook 9 = .ok (.iload_n 2, 1) := by decide +kernel
theorem dX10_hook_10 : decode cX10_hook 10 = .ok (.iconst 1, 1) := by decide +kernel
theorem dX10_hook_11 : decode cX10_hook 11 = .ok (.iconst 5, 1) := by decide +kernel
theorem dX10_hook_12 : decode cX10_hook 12 = .ok (.invokestatic 99, 3) := by decide +kernel
theorem dX10_hook_15 : decode cX10_hook 15 = .ok (.ifCond .eq 14, 3) := by decide +kernel
theorem dX10_hook_18 : decode cX10_hook 18 = .ok (.iload 6, 2) := by decide +kernel
theorem dX10_hook_20 : decode cX10_hook 20 = .ok (.iconst 0, 1) := by decide +kernel
theorem dX10_hook_21 : decode cX10_hook 21 = .ok (.bipush 8, 2) := by decide +kernel
theorem dX10_hook_23 : decode cX10_hook 23 = .ok (.invokestatic 99, 3) := by decide +kernel
theorem dX10_hook_26 : decode cX10_hook 26 = .ok (.ifCond .ne 5, 3) := by decide +kernel
theorem dX10_hook_29 : decode cX10_hook 29 = .ok (.iconst (-1), 1) := by decide +kernel
theorem dX10_hook_30 : decode cX10_hook 30 = .ok (.ireturn, 1) := by decide +kernel
theorem dX10_hook_31 : decode cX10_hook 31 = .ok (.iload_n 1, 1) := by decide +kernel
theorem dX10_hook_32 : decode cX10_hook 32 = .ok (.iload_n 2, 1) := by decide +kernel
theorem dX10_hook_33 : decode cX10_hook 33 = .ok (.imul, 1) := by decide +kernel
theorem dX10_hook_34 : decode cX10_hook 34 = .ok (.iconst 1, 1) := by decide +kernel
theorem dX10_hook_35 : decode cX10_hook 35 = .ok (.isub, 1) := by decide +kernel
theorem dX10_hook_36 : decode cX10_hook 36 = .ok (.istore 7, 2) := by decide +kernel
theorem dX10_hook_38 : decode cX10_hook 38 = .ok (.iload_n 3, 1) := by decide +kernel
theorem dX10_hook_39 : decode cX10_hook 39 = .ok (.iconst 0, 1) := by decide +kernel
theorem dX10_hook_40 : decode cX10_hook 40 = .ok (.iload 7, 2) := by decide +kernel
theorem dX10_hook_42 : decode cX10_hook 42 = .ok (.invokestatic 99, 3) := by decide +kernel
theorem dX10_hook_45 : decode cX10_hook 45 = .ok (.ifCond .eq 32, 3) := by decide +kernel
theorem dX10_hook_48 : decode cX10_hook 48 = .ok (.iload 4, 2) := by decide +kernel
theorem dX10_hook_50 : decode cX10_hook 50 = .ok (.iconst 0, 1) := by decide +kernel
theorem dX10_hook_51 : decode cX10_hook 51 = .ok (.iload 7, 2) := by decide +kernel
theorem dX10_hook_53 : decode cX10_hook 53 = .ok (.invokestatic 99, 3) := by decide +kernel
theorem dX10_hook_56 : decode cX10_hook 56 = .ok (.ifCond .eq 21, 3) := by decide +kernel
theorem dX10_hook_59 : decode cX10_hook 59 = .ok (.iload 5, 2) := by decide +kernel
theorem dX10_hook_61 : decode cX10_hook 61 = .ok (.iconst (-1), 1) := by decide +kernel
theorem dX10_hook_62 : decode cX10_hook 62 = .ok (.iload 7, 2) := by decide +kernel
theorem dX10_hook_64 : decode cX10_hook 64 = .ok (.invokestatic 99, 3) := by decide +kernel
theorem dX10_hook_67 : decode cX10_hook 67 = .ok (.ifCond .eq 10, 3) := by decide +kernel
theorem dX10_hook_70 : decode cX10_hook 70 = .ok (.iload 4, 2) := by decide +kernel
theorem dX10_hook_72 : decode cX10_hook 72 = .ok (.iload 5, 2) := by decide +kernel
theorem dX10_hook_74 : decode cX10_hook 74 = .ok (.if_icmp .ne 5, 3) := by decide +kernel
theorem dX10_hook_77 : decode cX10_hook 77 = .ok (.iconst (-1), 1) := by decide +kernel
theorem dX10_hook_78 : decode cX10_hook 78 = .ok (.ireturn, 1) := by decide +kernel
theorem dX10_hook_79 : decode cX10_hook 79 = .ok (.aload_n 0, 1) := by decide +kernel
theorem dX10_hook_80 : decode cX10_hook 80 = .ok (.getfield 67, 3) := by decide +kernel
theorem dX10_hook_83 : decode cX10_hook 83 = .ok (.iload_n 1, 1) := by decide +kernel
theorem dX10_hook_84 : decode cX10_hook 84 = .ok (.iload_n 2, 1) := by decide +kernel
theorem dX10_hook_85 : decode cX10_hook 85 = .ok (.iload 5, 2) := by decide +kernel
theorem dX10_hook_87 : decode cX10_hook 87 = .ok (.iconst (-1), 1) := by decide +kernel
theorem dX10_hook_88 : decode cX10_hook 88 = .ok (.if_icmp .eq 7, 3) := by decide +kernel
theorem dX10_hook_91 : decode cX10_hook 91 = .ok (.iconst 1, 1) := by decide +kernel
theorem dX10_hook_92 : decode cX10_hook 92 = .ok (.goto 4, 3) := by decide +kernel
theorem dX10_hook_95 : decode cX10_hook 95 = .ok (.iconst 0, 1) := by decide +kernel
theorem dX10_hook_96 : decode cX10_hook 96 = .ok (.invokevirtual 264, 3) := by decide +kernel
theorem dX10_hook_99 : decode cX10_hook 99 = .ok (.aload_n 0, 1) := by decide +kernel
theorem dX10_hook_100 : decode cX10_hook 100 = .ok (.getfield 67, 3) := by decide +kernel
theorem dX10_hook_103 : decode cX10_hook 103 = .ok (.iload_n 3, 1) := by decide +kernel
theorem dX10_hook_104 : decode cX10_hook 104 = .ok (.iload 4, 2) := by decide +kernel
theorem dX10_hook_106 : decode cX10_hook 106 = .ok (.iload 5, 2) := by decide +kernel
theorem dX10_hook_108 : decode cX10_hook 108 = .ok (.iload 6, 2) := by decide +kernel
theorem dX10_hook_110 : decode cX10_hook 110 = .ok (.invokevirtual 268, 3) := by decide +kernel
theorem dX10_hook_113 : decode cX10_hook 113 = .ok (.ireturn, 1) := by decide +kernel
theorem dX10_hooks_0 : decode cX10_hooks 0 = .ok (.aload_n 0, 1) := by decide +kernel
theorem dX10_hooks_1 : decode cX10_hooks 1 = .ok (.getfield 67, 3) := by decide +kernel
theorem dX10_hooks_4 : decode cX10_hooks 4 = .ok (.getfield 271, 3) := by decide +kernel
theorem dX10_hooks_7 : decode cX10_hooks 7 = .ok (.ireturn, 1) := by decide +kernel
theorem dX10_way_0 : decode cX10_way 0 = .ok (.aload_n 0, 1) := by decide +kernel
theorem dX10_way_1 : decode cX10_way 1 = .ok (.getfield 23, 3) := by decide +kernel
theorem dX10_way_4 : decode cX10_way 4 = .ok (.iload_n 1, 1) := by decide +kernel
theorem dX10_way_5 : decode cX10_way 5 = .ok (.invokevirtual 119, 3) := by decide +kernel
theorem dX10_way_8 : decode cX10_way 8 = .ok (.ifCond .eq 38, 3) := by decide +kernel
theorem dX10_way_11 : decode cX10_way 11 = .ok (.aload_n 0, 1) := by decide +kernel
theorem dX10_way_12 : decode cX10_way 12 = .ok (.getfield 23, 3) := by decide +kernel
theorem dX10_way_15 : decode cX10_way 15 = .ok (.iload_n 2, 1) := by decide +kernel
theorem dX10_way_16 : decode cX10_way 16 = .ok (.invokevirtual 119, 3) := by decide +kernel
theorem dX10_way_19 : decode cX10_way 19 = .ok (.ifCond .eq 27, 3) := by decide +kernel
theorem dX10_way_22 : decode cX10_way 22 = .ok (.iload_n 1, 1) := by decide +kernel
theorem dX10_way_23 : decode cX10_way 23 = .ok (.iload_n 2, 1) := by decide +kernel
theorem dX10_way_24 : decode cX10_way 24 = .ok (.if_icmp .eq 22, 3) := by decide +kernel
theorem dX10_way_27 : decode cX10_way 27 = .ok (.iload_n 3, 1) := by decide +kernel
theorem dX10_way_28 : decode cX10_way 28 = .ok (.iconst 1, 1) := by decide +kernel
theorem dX10_way_29 : decode cX10_way 29 = .ok (.sipush 8999, 3) := by decide +kernel
theorem dX10_way_32 : decode cX10_way 32 = .ok (.invokestatic 99, 3) := by decide +kernel
theorem dX10_way_35 : decode cX10_way 35 = .ok (.ifCond .eq 11, 3) := by decide +kernel
theorem dX10_way_38 : decode cX10_way 38 = .ok (.iload 4, 2) := by decide +kernel
theorem dX10_way_40 : decode cX10_way 40 = .ok (.invokestatic 125, 3) := by decide +kernel
theorem dX10_way_43 : decode cX10_way 43 = .ok (.ifCond .ne 5, 3) := by decide +kernel
theorem dX10_way_46 : decode cX10_way 46 = .ok (.iconst (-1), 1) := by decide +kernel
theorem dX10_way_47 : decode cX10_way 47 = .ok (.ireturn, 1) := by decide +kernel
theorem dX10_way_48 : decode cX10_way 48 = .ok (.aload_n 0, 1) := by decide +kernel
theorem dX10_way_49 : decode cX10_way 49 = .ok (.getfield 30, 3) := by decide +kernel
theorem dX10_way_52 : decode cX10_way 52 = .ok (.iload_n 1, 1) := by decide +kernel
theorem dX10_way_53 : decode cX10_way 53 = .ok (.iload_n 3, 1) := by decide +kernel
theorem dX10_way_54 : decode cX10_way 54 = .ok (.iconst 1, 1) := by decide +kernel
theorem dX10_way_55 : decode cX10_way 55 = .ok (.isub, 1) := by decide +kernel
theorem dX10_way_56 : decode cX10_way 56 = .ok (.iload 4, 2) := by decide +kernel
theorem dX10_way_58 : decode cX10_way 58 = .ok (.invokevirtual 128, 3) := by decide +kernel
theorem dX10_way_61 : decode cX10_way 61 = .ok (.istore 5, 2) := by decide +kernel
theorem dX10_way_63 : decode cX10_way 63 = .ok (.aload_n 0, 1) := by decide +kernel
theorem dX10_way_64 : decode cX10_way 64 = .ok (.getfield 30, 3) := by decide +kernel
theorem dX10_way_67 : decode cX10_way 67 = .ok (.iload_n 1, 1) := by decide +kernel
theorem dX10_way_68 : decode cX10_way 68 = .ok (.iload_n 3, 1) := by decide +kernel
theorem dX10_way_69 : decode cX10_way 69 = .ok (.iload 4, 2) := by decide +kernel
theorem dX10_way_71 : decode cX10_way 71 = .ok (.invokevirtual 128, 3) := by decide +kernel
theorem dX10_way_74 : decode cX10_way 74 = .ok (.istore 6, 2) := by decide +kernel
theorem dX10_way_76 : decode cX10_way 76 = .ok (.aload_n 0, 1) := by decide +kernel
theorem dX10_way_77 : decode cX10_way 77 = .ok (.getfield 30, 3) := by decide +kernel
theorem dX10_way_80 : decode cX10_way 80 = .ok (.iload_n 2, 1) := by decide +kernel
theorem dX10_way_81 : decode cX10_way 81 = .ok (.iload_n 3, 1) := by decide +kernel
theorem dX10_way_82 : decode cX10_way 82 = .ok (.iconst 1, 1) := by decide +kernel
theorem dX10_way_83 : decode cX10_way 83 = .ok (.isub, 1) := by decide +kernel
theorem dX10_way_84 : decode cX10_way 84 = .ok (.iload 4, 2) := by decide +kernel
theorem dX10_way_86 : decode cX10_way 86 = .ok (.invokevirtual 128, 3) := by decide +kernel
theorem dX10_way_89 : decode cX10_way 89 = .ok (.istore 7, 2) := by decide +kernel
theorem dX10_way_91 : decode cX10_way 91 = .ok (.aload_n 0, 1) := by decide +kernel
theorem dX10_way_92 : decode cX10_way 92 = .ok (.getfield 30, 3) := by decide +kernel
theorem dX10_way_95 : decode cX10_way 95 = .ok (.iload_n 2, 1) := by decide +kernel
theorem dX10_way_96 : decode cX10_way 96 = .ok (.iload_n 3, 1) := by decide +kernel
theorem dX10_way_97 : decode cX10_way 97 = .ok (.iload 4, 2) := by decide +kernel
theorem dX10_way_99 : decode cX10_way 99 = .ok (.invokevirtual 128, 3) := by decide +kernel
theorem dX10_way_102 : decode cX10_way 102 = .ok (.istore 8, 2) := by decide +kernel
theorem dX10_way_104 : decode cX10_way 104 = .ok (.iload 5, 2) := by decide +kernel
theorem dX10_way_106 : decode cX10_way 106 = .ok (.iconst (-1), 1) := by decide +kernel
theorem dX10_way_107 : decode cX10_way 107 = .ok (.if_icmp .eq 21, 3) := by decide +kernel
theorem dX10_way_110 : decode cX10_way 110 = .ok (.iload 6, 2) := by decide +kernel
theorem dX10_way_112 : decode cX10_way 112 = .ok (.iconst (-1), 1) := by decide +kernel
theorem dX10_way_113 : decode cX10_way 113 = .ok (.if_icmp .eq 15, 3) := by decide +kernel
theorem dX10_way_116 : decode cX10_way 116 = .ok (.iload 7, 2) := by decide +kernel
theorem dX10_way_118 : decode cX10_way 118 = .ok (.iconst (-1), 1) := by decide +kernel
theorem dX10_way_119 : decode cX10_way 119 = .ok (.if_icmp .eq 9, 3) := by decide +kernel
theorem dX10_way_122 : decode cX10_way 122 = .ok (.iload 8, 2) := by decide +kernel
theorem dX10_way_124 : decode cX10_way 124 = .ok (.iconst (-1), 1) := by decide +kernel
theorem dX10_way_125 : decode cX10_way 125 = .ok (.if_icmp .ne 6, 3) := by decide +kernel
theorem dX10_way_128 : decode cX10_way 128 = .ok (.bipush (-2), 2) := by decide +kernel
theorem dX10_way_130 : decode cX10_way 130 = .ok (.ireturn, 1) := by decide +kernel
theorem dX10_way_131 : decode cX10_way 131 = .ok (.iload 5, 2) := by decide +kernel
theorem dX10_way_133 : decode cX10_way 133 = .ok (.iload 6, 2) := by decide +kernel
theorem dX10_way_135 : decode cX10_way 135 = .ok (.iload 7, 2) := by decide +kernel
theorem dX10_way_137 : decode cX10_way 137 = .ok (.iload 8, 2) := by decide +kernel
theorem dX10_way_139 : decode cX10_way 139 = .ok (.invokestatic 274, 3) := by decide +kernel
theorem dX10_way_142 : decode cX10_way 142 = .ok (.istore 9, 2) := by decide +kernel
theorem dX10_way_144 : decode cX10_way 144 = .ok (.iload 7, 2) := by decide +kernel
theorem dX10_way_146 : decode cX10_way 146 = .ok (.iload 8, 2) := by decide +kernel
theorem dX10_way_148 : decode cX10_way 148 = .ok (.iload 5, 2) := by decide +kernel
theorem dX10_way_150 : decode cX10_way 150 = .ok (.iload 6, 2) := by decide +kernel
theorem dX10_way_152 : decode cX10_way 152 = .ok (.invokestatic 274, 3) := by decide +kernel
theorem dX10_way_155 : decode cX10_way 155 = .ok (.istore 10, 2) := by decide +kernel
theorem dX10_way_157 : decode cX10_way 157 = .ok (.iload 10, 2) := by decide +kernel
theorem dX10_way_159 : decode cX10_way 159 = .ok (.ifCond .ne 24, 3) := by decide +kernel
theorem dX10_way_162 : decode cX10_way 162 = .ok (.iload 9, 2) := by decide +kernel
theorem dX10_way_164 : decode cX10_way 164 = .ok (.ifCond .ne 15, 3) := by decide +kernel
theorem dX10_way_167 : decode cX10_way 167 = .ok (.iload 5, 2) := by decide +kernel
theorem dX10_way_169 : decode cX10_way 169 = .ok (.iload 6, 2) := by decide +kernel
theorem dX10_way_171 : decode cX10_way 171 = .ok (.iload 7, 2) := by decide +kernel
theorem dX10_way_173 : decode cX10_way 173 = .ok (.invokestatic 278, 3) := by decide +kernel
theorem dX10_way_176 : decode cX10_way 176 = .ok (.ifCond .eq 7, 3) := by decide +kernel
theorem dX10_way_179 : decode cX10_way 179 = .ok (.iconst 1, 1) := by decide +kernel
theorem dX10_way_180 : decode cX10_way 180 = .ok (.goto 4, 3) := by decide +kernel
theorem dX10_way_183 : decode cX10_way 183 = .ok (.iconst 0, 1) := by decide +kernel
theorem dX10_way_184 : decode cX10_way 184 = .ok (.istore 11, 2) := by decide +kernel
theorem dX10_way_186 : decode cX10_way 186 = .ok (.iload 9, 2) := by decide +kernel
theorem dX10_way_188 : decode cX10_way 188 = .ok (.ifCond .ne 24, 3) := by decide +kernel
theorem dX10_way_191 : decode cX10_way 191 = .ok (.iload 10, 2) := by decide +kernel
theorem dX10_way_193 : decode cX10_way 193 = .ok (.ifCond .ne 15, 3) := by decide +kernel
theorem dX10_way_196 : decode cX10_way 196 = .ok (.iload 7, 2) := by decide +kernel
theorem dX10_way_198 : decode cX10_way 198 = .ok (.iload 8, 2) := by decide +kernel
theorem dX10_way_200 : decode cX10_way 200 = .ok (.iload 5, 2) := by decide +kernel
theorem dX10_way_202 : decode cX10_way 202 = .ok (.invokestatic 278, 3) := by decide +kernel
theorem dX10_way_205 : decode cX10_way 205 = .ok (.ifCond .eq 7, 3) := by decide +kernel
theorem dX10_way_208 : decode cX10_way 208 = .ok (.iconst 1, 1) := by decide +kernel
theorem dX10_way_209 : decode cX10_way 209 = .ok (.goto 4, 3) := by decide +kernel
theorem dX10_way_212 : decode cX10_way 212 = .ok (.iconst 0, 1) := by decide +kernel
theorem dX10_way_213 : decode cX10_way 213 = .ok (.istore 12, 2) := by decide +kernel
theorem dX10_way_215 : decode cX10_way 215 = .ok (.iload 11, 2) := by decide +kernel
theorem dX10_way_217 : decode cX10_way 217 = .ok (.ifCond .eq 7, 3) := by decide +kernel
theorem dX10_way_220 : decode cX10_way 220 = .ok (.iconst 1, 1) := by decide +kernel
theorem dX10_way_221 : decode cX10_way 221 = .ok (.goto 4, 3) := by decide +kernel
theorem dX10_way_224 : decode cX10_way 224 = .ok (.iconst 0, 1) := by decide +kernel
theorem dX10_way_225 : decode cX10_way 225 = .ok (.iload 12, 2) := by decide +kernel
theorem dX10_way_227 : decode cX10_way 227 = .ok (.ifCond .eq 7, 3) := by decide +kernel
theorem dX10_way_230 : decode cX10_way 230 = .ok (.iconst 2, 1) := by decide +kernel
theorem dX10_way_231 : decode cX10_way 231 = .ok (.goto 4, 3) := by decide +kernel
theorem dX10_way_234 : decode cX10_way 234 = .ok (.iconst 0, 1) := by decide +kernel
theorem dX10_way_235 : decode cX10_way 235 = .ok (.iadd, 1) := by decide +kernel
theorem dX10_way_236 : decode cX10_way 236 = .ok (.ireturn, 1) := by decide +kernel
theorem dX10_overtakes_0 : decode cX10_overtakes 0 = .ok (.iload_n 1, 1) := by decide +kernel
theorem dX10_overtakes_1 : decode cX10_overtakes 1 = .ok (.invokestatic 191, 3) := by decide +kernel
theorem dX10_overtakes_4 : decode cX10_overtakes 4 = .ok (.iload_n 0, 1) := by decide +kernel
theorem dX10_overtakes_5 : decode cX10_overtakes 5 = .ok (.invokestatic 191, 3) := by decide +kernel
theorem dX10_overtakes_8 : decode cX10_overtakes 8 = .ok (.isub, 1) := by decide +kernel
theorem dX10_overtakes_9 : decode cX10_overtakes 9 = .ok (.istore 4, 2) := by decide +kernel
theorem dX10_overtakes_11 : decode cX10_overtakes 11 = .ok (.iload_n 1, 1) := by decide +kernel
theorem dX10_overtakes_12 : decode cX10_overtakes 12 = .ok (.invokestatic 194, 3) := by decide +kernel
theorem dX10_overtakes_15 : decode cX10_overtakes 15 = .ok (.iload_n 0, 1) := by decide +kernel
theorem dX10_overtakes_16 : decode cX10_overtakes 16 = .ok (.invokestatic 194, 3) := by decide +kernel
theorem dX10_overtakes_19 : decode cX10_overtakes 19 = .ok (.isub, 1) := by decide +kernel
theorem dX10_overtakes_20 : decode cX10_overtakes 20 = .ok (.istore 5, 2) := by decide +kernel
theorem dX10_overtakes_22 : decode cX10_overtakes 22 = .ok (.iload_n 3, 1) := by decide +kernel
theorem dX10_overtakes_23 : decode cX10_overtakes 23 = .ok (.invokestatic 191, 3) := by decide +kernel
theorem dX10_overtakes_26 : decode cX10_overtakes 26 = .ok (.iload_n 2, 1) := by decide +kernel
theorem dX10_overtakes_27 : decode cX10_overtakes 27 = .ok (.invokestatic 191, 3) := by decide +kernel
theorem dX10_overtakes_30 : decode cX10_overtakes 30 = .ok (.isub, 1) := by decide +kernel
theorem dX10_overtakes_31 : decode cX10_overtakes 31 = .ok (.istore 6, 2) := by decide +kernel
theorem dX10_overtakes_33 : decode cX10_overtakes 33 = .ok (.iload_n 3, 1) := by decide +kernel
theorem dX10_overtakes_34 : decode cX10_overtakes 34 = .ok (.invokestatic 194, 3) := by decide +kernel
theorem dX10_overtakes_37 : decode cX10_overtakes 37 = .ok (.iload_n 2, 1) := by decide +kernel
theorem dX10_overtakes_38 : decode cX10_overtakes 38 = .ok (.invokestatic 194, 3) := by decide +kernel
theorem dX10_overtakes_41 : decode cX10_overtakes 41 = .ok (.isub, 1) := by decide +kernel
theorem dX10_overtakes_42 : decode cX10_overtakes 42 = .ok (.istore 7, 2) := by decide +kernel
theorem dX10_overtakes_44 : decode cX10_overtakes 44 = .ok (.iload_n 0, 1) := by decide +kernel
theorem dX10_overtakes_45 : decode cX10_overtakes 45 = .ok (.invokestatic 191, 3) := by decide +kernel
theorem dX10_overtakes_48 : decode cX10_overtakes 48 = .ok (.iload_n 2, 1) := by decide +kernel
theorem dX10_overtakes_49 : decode cX10_overtakes 49 = .ok (.invokestatic 191, 3) := by decide +kernel
theorem dX10_overtakes_52 : decode cX10_overtakes 52 = .ok (.isub, 1) := by decide +kernel
theorem dX10_overtakes_53 : decode cX10_overtakes 53 = .ok (.istore 8, 2) := by decide +kernel
theorem dX10_overtakes_55 : decode cX10_overtakes 55 = .ok (.iload_n 0, 1) := by decide +kernel
theorem dX10_overtakes_56 : decode cX10_overtakes 56 = .ok (.invokestatic 194, 3) := by decide +kernel
theorem dX10_overtakes_59 : decode cX10_overtakes 59 = .ok (.iload_n 2, 1) := by decide +kernel
theorem dX10_overtakes_60 : decode cX10_overtakes 60 = .ok (.invokestatic 194, 3) := by decide +kernel
theorem dX10_overtakes_63 : decode cX10_overtakes 63 = .ok (.isub, 1) := by decide +kernel
theorem dX10_overtakes_64 : decode cX10_overtakes 64 = .ok (.istore 9, 2) := by decide +kernel
theorem dX10_overtakes_66 : decode cX10_overtakes 66 = .ok (.iload 4, 2) := by decide +kernel
theorem dX10_overtakes_68 : decode cX10_overtakes 68 = .ok (.iload 6, 2) := by decide +kernel
theorem dX10_overtakes_70 : decode cX10_overtakes 70 = .ok (.imul, 1) := by decide +kernel
theorem dX10_overtakes_71 : decode cX10_overtakes 71 = .ok (.iload 5, 2) := by decide +kernel
theorem dX10_overtakes_73 : decode cX10_overtakes 73 = .ok (.iload 7, 2) := by decide +kernel
theorem dX10_overtakes_75 : decode cX10_overtakes 75 = .ok (.imul, 1) := by decide +kernel
theorem dX10_overtakes_76 : decode cX10_overtakes 76 = .ok (.iadd, 1) := by decide +kernel
theorem dX10_overtakes_77 : decode cX10_overtakes 77 = .ok (.ifCond .le 21, 3) := by decide +kernel
theorem dX10_overtakes_80 : decode cX10_overtakes 80 = .ok (.iload 8, 2) := by decide +kernel
theorem dX10_overtakes_82 : decode cX10_overtakes 82 = .ok (.iload 6, 2) := by decide +kernel
theorem dX10_overtakes_84 : decode cX10_overtakes 84 = .ok (.imul, 1) := by decide +kernel
theorem dX10_overtakes_85 : decode cX10_overtakes 85 = .ok (.iload 9, 2) := by decide +kernel
theorem dX10_overtakes_87 : decode cX10_overtakes 87 = .ok (.iload 7, 2) := by decide +kernel
theorem dX10_overtakes_89 : decode cX10_overtakes 89 = .ok (.imul, 1) := by decide +kernel
theorem dX10_overtakes_90 : decode cX10_overtakes 90 = .ok (.iadd, 1) := by decide +kernel
theorem dX10_overtakes_91 : decode cX10_overtakes 91 = .ok (.ifCond .ge 7, 3) := by decide +kernel
theorem dX10_overtakes_94 : decode cX10_overtakes 94 = .ok (.iconst 1, 1) := by decide +kernel
theorem dX10_overtakes_95 : decode cX10_overtakes 95 = .ok (.goto 4, 3) := by decide +kernel
theorem dX10_overtakes_98 : decode cX10_overtakes 98 = .ok (.iconst 0, 1) := by decide +kernel
theorem dX10_overtakes_99 : decode cX10_overtakes 99 = .ok (.ireturn, 1) := by decide +kernel
theorem dX10_isToTheRight_0 : decode cX10_isToTheRight 0 = .ok (.iload_n 1, 1) := by decide +kernel
theorem dX10_isToTheRight_1 : decode cX10_isToTheRight 1 = .ok (.invokestatic 191, 3) := by decide +kernel
theorem dX10_isToTheRight_4 : decode cX10_isToTheRight 4 = .ok (.iload_n 0, 1) := by decide +kernel
theorem dX10_isToTheRight_5 : decode cX10_isToTheRight 5 = .ok (.invokestatic 191, 3) := by decide +kernel
theorem dX10_isToTheRight_8 : decode cX10_isToTheRight 8 = .ok (.isub, 1) := by decide +kernel
theorem dX10_isToTheRight_9 : decode cX10_isToTheRight 9 = .ok (.istore_n 3, 1) := by decide +kernel
theorem dX10_isToTheRight_10 : decode cX10_isToTheRight 10 = .ok (.iload_n 1, 1) := by decide +kernel
theorem dX10_isToTheRight_11 : decode cX10_isToTheRight 11 = .ok (.invokestatic 194, 3) := by decide +kernel
theorem dX10_isToTheRight_14 : decode cX10_isToTheRight 14 = .ok (.iload_n 0, 1) := by decide +kernel
theorem dX10_isToTheRight_15 : decode cX10_isToTheRight 15 = .ok (.invokestatic 194, 3) := by decide +kernel
theorem dX10_isToTheRight_18 : decode cX10_isToTheRight 18 = .ok (.isub, 1) := by decide +kernel
theorem dX10_isToTheRight_19 : decode cX10_isToTheRight 19 = .ok (.istore 4, 2) := by decide +kernel
theorem dX10_isToTheRight_21 : decode cX10_isToTheRight 21 = .ok (.iload_n 2, 1) := by decide +kernel
theorem dX10_isToTheRight_22 : decode cX10_isToTheRight 22 = .ok (.invokestatic 191, 3) := by decide +kernel
theorem dX10_isToTheRight_25 : decode cX10_isToTheRight 25 = .ok (.iload_n 0, 1) := by decide +kernel
theorem dX10_isToTheRight_26 : decode cX10_isToTheRight 26 = .ok (.invokestatic 191, 3) := by decide +kernel
theorem dX10_isToTheRight_29 : decode cX10_isToTheRight 29 = .ok (.isub, 1) := by decide +kernel
theorem dX10_isToTheRight_30 : decode cX10_isToTheRight 30 = .ok (.istore 5, 2) := by decide +kernel
theorem dX10_isToTheRight_32 : decode cX10_isToTheRight 32 = .ok (.iload_n 2, 1) := by decide +kernel
theorem dX10_isToTheRight_33 : decode cX10_isToTheRight 33 = .ok (.invokestatic 194, 3) := by decide +kernel
theorem dX10_isToTheRight_36 : decode cX10_isToTheRight 36 = .ok (.iload_n 0, 1) := by decide +kernel
theorem dX10_isToTheRight_37 : decode cX10_isToTheRight 37 = .ok (.invokestatic 194, 3) := by decide +kernel
theorem dX10_isToTheRight_40 : decode cX10_isToTheRight 40 = .ok (.isub, 1) := by decide +kernel
theorem dX10_isToTheRight_41 : decode cX10_isToTheRight 41 = .ok (.istore 6, 2) := by decide +kernel
theorem dX10_isToTheRight_43 : decode cX10_isToTheRight 43 = .ok (.iload_n 3, 1) := by decide +kernel
theorem dX10_isToTheRight_44 : decode cX10_isToTheRight 44 = .ok (.iload 6, 2) := by decide +kernel
theorem dX10_isToTheRight_46 : decode cX10_isToTheRight 46 = .ok (.imul, 1) := by decide +kernel
theorem dX10_isToTheRight_47 : decode cX10_isToTheRight 47 = .ok (.iload 4, 2) := by decide +kernel
theorem dX10_isToTheRight_49 : decode cX10_isToTheRight 49 = .ok (.iload 5, 2) := by decide +kernel
theorem dX10_isToTheRight_51 : decode cX10_isToTheRight 51 = .ok (.imul, 1) := by decide +kernel
theorem dX10_isToTheRight_52 : decode cX10_isToTheRight 52 = .ok (.isub, 1) := by decide +kernel
theorem dX10_isToTheRight_53 : decode cX10_isToTheRight 53 = .ok (.ifCond .le 7, 3) := by decide +kernel
theorem dX10_isToTheRight_56 : decode cX10_isToTheRight 56 = .ok (.iconst 1, 1) := by decide +kernel
theorem dX10_isToTheRight_57 : decode cX10_isToTheRight 57 = .ok (.goto 4, 3) := by decide +kernel
theorem dX10_isToTheRight_60 : decode cX10_isToTheRight 60 = .ok (.iconst 0, 1) := by decide +kernel
theorem dX10_isToTheRight_61 : decode cX10_isToTheRight 61 = .ok (.ireturn, 1) := by decide +kernel
theorem dX10_office_0 : decode cX10_office 0 = .ok (.iload_n 1, 1) := by decide +kernel
theorem dX10_office_1 : decode cX10_office 1 = .ok (.iconst 0, 1) := by decide +kernel
theorem dX10_office_2 : decode cX10_office 2 = .ok (.iconst 1, 1) := by decide +kernel
theorem dX10_office_3 : decode cX10_office 3 = .ok (.invokestatic 99, 3) := by decide +kernel
theorem dX10_office_6 : decode cX10_office 6 = .ok (.ifCond .eq 25, 3) := by decide +kernel
theorem dX10_office_9 : decode cX10_office 9 = .ok (.iload_n 2, 1) := by decide +kernel
theorem dX10_office_10 : decode cX10_office 10 = .ok (.iconst 0, 1) := by decide +kernel
theorem dX10_office_11 : decode cX10_office 11 = .ok (.ldc_w 281, 3) := by decide +kernel
theorem dX10_office_14 : decode cX10_office 14 = .ok (.invokestatic 99, 3) := by decide +kernel
theorem dX10_office_17 : decode cX10_office 17 = .ok (.ifCond .eq 14, 3) := by decide +kernel
theorem dX10_office_20 : decode cX10_office 20 = .ok (.iload_n 3, 1) := by decide +kernel
theorem dX10_office_21 : decode cX10_office 21 = .ok (.iconst 0, 1) := by decide +kernel
theorem dX10_office_22 : decode cX10_office 22 = .ok (.sipush 1000, 3) := by decide +kernel
theorem dX10_office_25 : decode cX10_office 25 = .ok (.invokestatic 99, 3) := by decide +kernel
theorem dX10_office_28 : decode cX10_office 28 = .ok (.ifCond .ne 5, 3) := by decide +kernel
theorem dX10_office_31 : decode cX10_office 31 = .ok (.iconst 0, 1) := by decide +kernel
theorem dX10_office_32 : decode cX10_office 32 = .ok (.ireturn, 1) := by decide +kernel
theorem dX10_office_33 : decode cX10_office 33 = .ok (.aload_n 0, 1) := by decide +kernel
theorem dX10_office_34 : decode cX10_office 34 = .ok (.getfield 74, 3) := by decide +kernel
theorem dX10_office_37 : decode cX10_office 37 = .ok (.getfield 282, 3) := by decide +kernel
theorem dX10_office_40 : decode cX10_office 40 = .ok (.iload_n 1, 1) := by decide +kernel
theorem dX10_office_41 : decode cX10_office 41 = .ok (.iload_n 2, 1) := by decide +kernel
theorem dX10_office_42 : decode cX10_office 42 = .ok (.iastore, 1) := by decide +kernel
theorem dX10_office_43 : decode cX10_office 43 = .ok (.aload_n 0, 1) := by decide +kernel
theorem dX10_office_44 : decode cX10_office 44 = .ok (.getfield 74, 3) := by decide +kernel
theorem dX10_office_47 : decode cX10_office 47 = .ok (.getfield 285, 3) := by decide +kernel
theorem dX10_office_50 : decode cX10_office 50 = .ok (.iload_n 1, 1) := by decide +kernel
theorem dX10_office_51 : decode cX10_office 51 = .ok (.iload_n 3, 1) := by decide +kernel
theorem dX10_office_52 : decode cX10_office 52 = .ok (.iastore, 1) := by decide +kernel
theorem dX10_office_53 : decode cX10_office 53 = .ok (.iconst 1, 1) := by decide +kernel
theorem dX10_office_54 : decode cX10_office 54 = .ok (.ireturn, 1) := by decide +kernel
theorem dX10_year_0 : decode cX10_year 0 = .ok (.iload_n 1, 1) := by decide +kernel
theorem dX10_year_1 : decode cX10_year 1 = .ok (.iconst 0, 1) := by decide +kernel
theorem dX10_year_2 : decode cX10_year 2 = .ok (.iconst 2, 1) := by decide +kernel
theorem dX10_year_3 : decode cX10_year 3 = .ok (.invokestatic 99, 3) := by decide +kernel
theorem dX10_year_6 : decode cX10_year 6 = .ok (.ifCond .eq 21, 3) := by decide +kernel
theorem dX10_year_9 : decode cX10_year 9 = .ok (.iload_n 2, 1) := by decide +kernel
theorem dX10_year_10 : decode cX10_year 10 = .ok (.invokestatic 288, 3) := by decide +kernel
theorem dX10_year_13 : decode cX10_year 13 = .ok (.ifCond .eq 14, 3) := by decide +kernel
theorem dX10_year_16 : decode cX10_year 16 = .ok (.iload_n 3, 1) := by decide +kernel
theorem dX10_year_17 : decode cX10_year 17 = .ok (.iconst 0, 1) := by decide +kernel
theorem dX10_year_18 : decode cX10_year 18 = .ok (.ldc_w 291, 3) := by decide +kernel
theorem dX10_year_21 : decode cX10_year 21 = .ok (.invokestatic 99, 3) := by decide +kernel
theorem dX10_year_24 : decode cX10_year 24 = .ok (.ifCond .ne 5, 3) := by decide +kernel
theorem dX10_year_27 : decode cX10_year 27 = .ok (.iconst (-1), 1) := by decide +kernel
theorem dX10_year_28 : decode cX10_year 28 = .ok (.ireturn, 1) := by decide +kernel
theorem dX10_year_29 : decode cX10_year 29 = .ok (.aload_n 0, 1) := by decide +kernel
theorem dX10_year_30 : decode cX10_year 30 = .ok (.getfield 74, 3) := by decide +kernel
theorem dX10_year_33 : decode cX10_year 33 = .ok (.iload_n 1, 1) := by decide +kernel
theorem dX10_year_34 : decode cX10_year 34 = .ok (.iload_n 2, 1) := by decide +kernel
theorem dX10_year_35 : decode cX10_year 35 = .ok (.iload_n 3, 1) := by decide +kernel
theorem dX10_year_36 : decode cX10_year 36 = .ok (.invokevirtual 292, 3) := by decide +kernel
theorem dX10_year_39 : decode cX10_year 39 = .ok (.ireturn, 1) := by decide +kernel
theorem dX10_stock_0 : decode cX10_stock 0 = .ok (.iload_n 1, 1) := by decide +kernel
theorem dX10_stock_1 : decode cX10_stock 1 = .ok (.iconst 0, 1) := by decide +kernel
theorem dX10_stock_2 : decode cX10_stock 2 = .ok (.iconst 1, 1) := by decide +kernel
theorem dX10_stock_3 : decode cX10_stock 3 = .ok (.invokestatic 99, 3) := by decide +kernel
theorem dX10_stock_6 : decode cX10_stock 6 = .ok (.ifCond .eq 10, 3) := by decide +kernel
theorem dX10_stock_9 : decode cX10_stock 9 = .ok (.iload_n 2, 1) := by decide +kernel
theorem dX10_stock_10 : decode cX10_stock 10 = .ok (.invokestatic 288, 3) := by decide +kernel
theorem dX10_stock_13 : decode cX10_stock 13 = .ok (.ifCond .ne 7, 3) := by decide +kernel
theorem dX10_stock_16 : decode cX10_stock 16 = .ok (.ldc2_w 183, 3) := by decide +kernel
theorem dX10_stock_19 : decode cX10_stock 19 = .ok (.lreturn, 1) := by decide +kernel
theorem dX10_stock_20 : decode cX10_stock 20 = .ok (.aload_n 0, 1) := by decide +kernel
theorem dX10_stock_21 : decode cX10_stock 21 = .ok (.getfield 74, 3) := by decide +kernel
theorem dX10_stock_24 : decode cX10_stock 24 = .ok (.iload_n 1, 1) := by decide +kernel
theorem dX10_stock_25 : decode cX10_stock 25 = .ok (.iload_n 2, 1) := by decide +kernel
theorem dX10_stock_26 : decode cX10_stock 26 = .ok (.aload_n 0, 1) := by decide +kernel
theorem dX10_stock_27 : decode cX10_stock 27 = .ok (.getfield 74, 3) := by decide +kernel
theorem dX10_stock_30 : decode cX10_stock 30 = .ok (.getfield 285, 3) := by decide +kernel
theorem dX10_stock_33 : decode cX10_stock 33 = .ok (.iload_n 1, 1) := by decide +kernel
theorem dX10_stock_34 : decode cX10_stock 34 = .ok (.iaload, 1) := by decide +kernel
theorem dX10_stock_35 : decode cX10_stock 35 = .ok (.invokevirtual 295, 3) := by decide +kernel
theorem dX10_stock_38 : decode cX10_stock 38 = .ok (.lreturn, 1) := by decide +kernel
theorem dX10_fails_0 : decode cX10_fails 0 = .ok (.iload_n 1, 1) := by decide +kernel
theorem dX10_fails_1 : decode cX10_fails 1 = .ok (.iconst 0, 1) := by decide +kernel
theorem dX10_fails_2 : decode cX10_fails 2 = .ok (.iconst 1, 1) := by decide +kernel
theorem dX10_fails_3 : decode cX10_fails 3 = .ok (.invokestatic 99, 3) := by decide +kernel
theorem dX10_fails_6 : decode cX10_fails 6 = .ok (.ifCond .ne 5, 3) := by decide +kernel
theorem dX10_fails_9 : decode cX10_fails 9 = .ok (.iconst (-1), 1) := by decide +kernel
theorem dX10_fails_10 : decode cX10_fails 10 = .ok (.ireturn, 1) := by decide +kernel
theorem dX10_fails_11 : decode cX10_fails 11 = .ok (.aload_n 0, 1) := by decide +kernel
theorem dX10_fails_12 : decode cX10_fails 12 = .ok (.getfield 74, 3) := by decide +kernel
theorem dX10_fails_15 : decode cX10_fails 15 = .ok (.iload_n 1, 1) := by decide +kernel
theorem dX10_fails_16 : decode cX10_fails 16 = .ok (.invokevirtual 299, 3) := by decide +kernel
theorem dX10_fails_19 : decode cX10_fails 19 = .ok (.ireturn, 1) := by decide +kernel
theorem dX10_agree_0 : decode cX10_agree 0 = .ok (.iload_n 1, 1) := by decide +kernel
theorem dX10_agree_1 : decode cX10_agree 1 = .ok (.iconst 0, 1) := by decide +kernel
theorem dX10_agree_2 : decode cX10_agree 2 = .ok (.iconst 1, 1) := by decide +kernel
theorem dX10_agree_3 : decode cX10_agree 3 = .ok (.invokestatic 99, 3) := by decide +kernel
theorem dX10_agree_6 : decode cX10_agree 6 = .ok (.ifCond .eq 10, 3) := by decide +kernel
theorem dX10_agree_9 : decode cX10_agree 9 = .ok (.iload_n 2, 1) := by decide +kernel
theorem dX10_agree_10 : decode cX10_agree 10 = .ok (.invokestatic 288, 3) := by decide +kernel
theorem dX10_agree_13 : decode cX10_agree 13 = .ok (.ifCond .ne 5, 3) := by decide +kernel
theorem dX10_agree_16 : decode cX10_agree 16 = .ok (.iconst (-1), 1) := by decide +kernel
theorem dX10_agree_17 : decode cX10_agree 17 = .ok (.ireturn, 1) := by decide +kernel
theorem dX10_agree_18 : decode cX10_agree 18 = .ok (.aload_n 0, 1) := by decide +kernel
theorem dX10_agree_19 : decode cX10_agree 19 = .ok (.getfield 74, 3) := by decide +kernel
theorem dX10_agree_22 : decode cX10_agree 22 = .ok (.iconst 1, 1) := by decide +kernel
theorem dX10_agree_23 : decode cX10_agree 23 = .ok (.iload_n 1, 1) := by decide +kernel
theorem dX10_agree_24 : decode cX10_agree 24 = .ok (.isub, 1) := by decide +kernel
theorem dX10_agree_25 : decode cX10_agree 25 = .ok (.iload_n 2, 1) := by decide +kernel
theorem dX10_agree_26 : decode cX10_agree 26 = .ok (.aload_n 0, 1) := by decide +kernel
theorem dX10_agree_27 : decode cX10_agree 27 = .ok (.getfield 74, 3) := by decide +kernel
theorem dX10_agree_30 : decode cX10_agree 30 = .ok (.getfield 285, 3) := by decide +kernel
theorem dX10_agree_33 : decode cX10_agree 33 = .ok (.iconst 1, 1) := by decide +kernel
theorem dX10_agree_34 : decode cX10_agree 34 = .ok (.iload_n 1, 1) := by decide +kernel
theorem dX10_agree_35 : decode cX10_agree 35 = .ok (.isub, 1) := by decide +kernel
theorem dX10_agree_36 : decode cX10_agree 36 = .ok (.iaload, 1) := by decide +kernel
theorem dX10_agree_37 : decode cX10_agree 37 = .ok (.invokevirtual 295, 3) := by decide +kernel
theorem dX10_agree_40 : decode cX10_agree 40 = .ok (.lstore_n 3, 1) := by decide +kernel
theorem dX10_agree_41 : decode cX10_agree 41 = .ok (.aload_n 0, 1) := by decide +kernel
theorem dX10_agree_42 : decode cX10_agree 42 = .ok (.getfield 74, 3) := by decide +kernel
theorem dX10_agree_45 : decode cX10_agree 45 = .ok (.iload_n 1, 1) := by decide +kernel
theorem dX10_agree_46 : decode cX10_agree 46 = .ok (.iload_n 2, 1) := by decide +kernel
theorem dX10_agree_47 : decode cX10_agree 47 = .ok (.lload_n 3, 1) := by decide +kernel
theorem dX10_agree_48 : decode cX10_agree 48 = .ok (.invokevirtual 302, 3) := by decide +kernel
theorem dX10_agree_51 : decode cX10_agree 51 = .ok (.ireturn, 1) := by decide +kernel
theorem dX10_age_0 : decode cX10_age 0 = .ok (.iload_n 1, 1) := by decide +kernel
theorem dX10_age_1 : decode cX10_age 1 = .ok (.iconst 0, 1) := by decide +kernel
theorem dX10_age_2 : decode cX10_age 2 = .ok (.bipush 7, 2) := by decide +kernel
theorem dX10_age_4 : decode cX10_age 4 = .ok (.invokestatic 99, 3) := by decide +kernel
theorem dX10_age_7 : decode cX10_age 7 = .ok (.ifCond .eq 37, 3) := by decide +kernel
theorem dX10_age_10 : decode cX10_age 10 = .ok (.iload_n 2, 1) := by decide +kernel
theorem dX10_age_11 : decode cX10_age 11 = .ok (.iconst 0, 1) := by decide +kernel
theorem dX10_age_12 : decode cX10_age 12 = .ok (.ldc_w 306, 3) := by decide +kernel
theorem dX10_age_15 : decode cX10_age 15 = .ok (.invokestatic 99, 3) := by decide +kernel
theorem dX10_age_18 : decode cX10_age 18 = .ok (.ifCond .eq 26, 3) := by decide +kernel
theorem dX10_age_21 : decode cX10_age 21 = .ok (.iload_n 3, 1) := by decide +kernel
theorem dX10_age_22 : decode cX10_age 22 = .ok (.iconst 0, 1) := by decide +kernel
theorem dX10_age_23 : decode cX10_age 23 = .ok (.sipush 199, 3) := by decide +kernel
theorem dX10_age_26 : decode cX10_age 26 = .ok (.invokestatic 99, 3) := by decide +kernel
theorem dX10_age_29 : decode cX10_age 29 = .ok (.ifCond .eq 15, 3) := by decide +kernel
theorem dX10_age_32 : decode cX10_age 32 = .ok (.iload 4, 2) := by decide +kernel
theorem dX10_age_34 : decode cX10_age 34 = .ok (.iconst 0, 1) := by decide +kernel
theorem dX10_age_35 : decode cX10_age 35 = .ok (.sipush 999, 3) := by decide +kernel
theorem dX10_age_38 : decode cX10_age 38 = .ok (.invokestatic 99, 3) := by decide +kernel
theorem dX10_age_41 : decode cX10_age 41 = .ok (.ifCond .ne 5, 3) := by decide +kernel
theorem dX10_age_44 : decode cX10_age 44 = .ok (.iconst 0, 1) := by decide +kernel
theorem dX10_age_45 : decode cX10_age 45 = .ok (.ireturn, 1) := by decide +kernel
theorem dX10_age_46 : decode cX10_age 46 = .ok (.aload_n 0, 1) := by decide +kernel
theorem dX10_age_47 : decode cX10_age 47 = .ok (.getfield 74, 3) := by decide +kernel
theorem dX10_age_50 : decode cX10_age 50 = .ok (.getfield 307, 3) := by decide +kernel
theorem dX10_age_53 : decode cX10_age 53 = .ok (.iload_n 1, 1) := by decide +kernel
theorem dX10_age_54 : decode cX10_age 54 = .ok (.iload_n 2, 1) := by decide +kernel
theorem dX10_age_55 : decode cX10_age 55 = .ok (.iastore, 1) := by decide +kernel
theorem dX10_age_56 : decode cX10_age 56 = .ok (.aload_n 0, 1) := by decide +kernel
theorem dX10_age_57 : decode cX10_age 57 = .ok (.getfield 74, 3) := by decide +kernel
theorem dX10_age_60 : decode cX10_age 60 = .ok (.getfield 310, 3) := by decide +kernel
theorem dX10_age_63 : decode cX10_age 63 = .ok (.iload_n 1, 1) := by decide +kernel
theorem dX10_age_64 : decode cX10_age 64 = .ok (.iload_n 3, 1) := by decide +kernel
theorem dX10_age_65 : decode cX10_age 65 = .ok (.iastore, 1) := by decide +kernel
theorem dX10_age_66 : decode cX10_age 66 = .ok (.aload_n 0, 1) := by decide +kernel
theorem dX10_age_67 : decode cX10_age 67 = .ok (.getfield 74, 3) := by decide +kernel
theorem dX10_age_70 : decode cX10_age 70 = .ok (.getfield 313, 3) := by decide +kernel
theorem dX10_age_73 : decode cX10_age 73 = .ok (.iload_n 1, 1) := by decide +kernel
theorem dX10_age_74 : decode cX10_age 74 = .ok (.iload 4, 2) := by decide +kernel
theorem dX10_age_76 : decode cX10_age 76 = .ok (.iastore, 1) := by decide +kernel
theorem dX10_age_77 : decode cX10_age 77 = .ok (.iconst 1, 1) := by decide +kernel
theorem dX10_age_78 : decode cX10_age 78 = .ok (.ireturn, 1) := by decide +kernel
theorem dX10_canFish_0 : decode cX10_canFish 0 = .ok (.iload_n 0, 1) := by decide +kernel
theorem dX10_canFish_1 : decode cX10_canFish 1 = .ok (.iconst 0, 1) := by decide +kernel
theorem dX10_canFish_2 : decode cX10_canFish 2 = .ok (.sipush 199, 3) := by decide +kernel
theorem dX10_canFish_5 : decode cX10_canFish 5 = .ok (.invokestatic 99, 3) := by decide +kernel
theorem dX10_canFish_8 : decode cX10_canFish 8 = .ok (.ifCond .eq 40, 3) := by decide +kernel
theorem dX10_canFish_11 : decode cX10_canFish 11 = .ok (.iload_n 1, 1) := by decide +kernel
theorem dX10_canFish_12 : decode cX10_canFish 12 = .ok (.iconst 0, 1) := by decide +kernel
theorem dX10_canFish_13 : decode cX10_canFish 13 = .ok (.sipush 1000, 3) := by decide +kernel
theorem dX10_canFish_16 : decode cX10_canFish 16 = .ok (.invokestatic 99, 3) := by decide +kernel
theorem dX10_canFish_19 : decode cX10_canFish 19 = .ok (.ifCond .eq 29, 3) := by decide +kernel
theorem dX10_canFish_22 : decode cX10_canFish 22 = .ok (.iload_n 2, 1) := by decide +kernel
theorem dX10_canFish_23 : decode cX10_canFish 23 = .ok (.iconst 0, 1) := by decide +kernel
theorem dX10_canFish_24 : decode cX10_canFish 24 = .ok (.sipush 1000, 3) := by decide +kernel
theorem dX10_canFish_27 : decode cX10_canFish 27 = .ok (.invokestatic 99, 3) := by decide +kernel
theorem dX10_canFish_30 : decode cX10_canFish 30 = .ok (.ifCond .eq 18, 3) := by decide +kernel
theorem dX10_canFish_33 : decode cX10_canFish 33 = .ok (.iload_n 3, 1) := by decide +kernel
theorem dX10_canFish_34 : decode cX10_canFish 34 = .ok (.iconst 0, 1) := by decide +kernel
theorem dX10_canFish_35 : decode cX10_canFish 35 = .ok (.ldc_w 306, 3) := by decide +kernel
theorem dX10_canFish_38 : decode cX10_canFish 38 = .ok (.invokestatic 99, 3) := by decide +kernel
theorem dX10_canFish_41 : decode cX10_canFish 41 = .ok (.ifCond .eq 7, 3) := by decide +kernel
theorem dX10_canFish_44 : decode cX10_canFish 44 = .ok (.iconst 1, 1) := by decide +kernel
theorem dX10_canFish_45 : decode cX10_canFish 45 = .ok (.goto 4, 3) := by decide +kernel
theorem dX10_canFish_48 : decode cX10_canFish 48 = .ok (.iconst 0, 1) := by decide +kernel
theorem dX10_canFish_49 : decode cX10_canFish 49 = .ok (.ireturn, 1) := by decide +kernel
theorem dX10_landed_0 : decode cX10_landed 0 = .ok (.iload_n 1, 1) := by decide +kernel
theorem dX10_landed_1 : decode cX10_landed 1 = .ok (.iconst 1, 1) := by decide +kernel
theorem dX10_landed_2 : decode cX10_landed 2 = .ok (.bipush 30, 2) := by decide +kernel
theorem dX10_landed_4 : decode cX10_landed 4 = .ok (.invokestatic 99, 3) := by decide +kernel
theorem dX10_landed_7 : decode cX10_landed 7 = .ok (.ifCond .eq 15, 3) := by decide +kernel
theorem dX10_landed_10 : decode cX10_landed 10 = .ok (.iload_n 2, 1) := by decide +kernel
theorem dX10_landed_11 : decode cX10_landed 11 = .ok (.iload_n 3, 1) := by decide +kernel
theorem dX10_landed_12 : decode cX10_landed 12 = .ok (.iload 4, 2) := by decide +kernel
theorem dX10_landed_14 : decode cX10_landed 14 = .ok (.iload 5, 2) := by decide +kernel
theorem dX10_landed_16 : decode cX10_landed 16 = .ok (.invokestatic 316, 3) := by decide +kernel
theorem dX10_landed_19 : decode cX10_landed 19 = .ok (.ifCond .ne 7, 3) := by decide +kernel
theorem dX10_landed_22 : decode cX10_landed 22 = .ok (.ldc2_w 183, 3) := by decide +kernel
theorem dX10_landed_25 : decode cX10_landed 25 = .ok (.lreturn, 1) := by decide +kernel
theorem dX10_landed_26 : decode cX10_landed 26 = .ok (.aload_n 0, 1) := by decide +kernel
theorem dX10_landed_27 : decode cX10_landed 27 = .ok (.getfield 74, 3) := by decide +kernel
theorem dX10_landed_30 : decode cX10_landed 30 = .ok (.iload_n 1, 1) := by decide +kernel
theorem dX10_landed_31 : decode cX10_landed 31 = .ok (.iload_n 2, 1) := by decide +kernel
theorem dX10_landed_32 : decode cX10_landed 32 = .ok (.iload_n 3, 1) := by decide +kernel
theorem dX10_landed_33 : decode cX10_landed 33 = .ok (.iload 4, 2) := by decide +kernel
theorem dX10_landed_35 : decode cX10_landed 35 = .ok (.iload 5, 2) := by decide +kernel
theorem dX10_landed_37 : decode cX10_landed 37 = .ok (.invokevirtual 319, 3) := by decide +kernel
theorem dX10_landed_40 : decode cX10_landed 40 = .ok (.lreturn, 1) := by decide +kernel
theorem dX10_pays_0 : decode cX10_pays 0 = .ok (.iload_n 1, 1) := by decide +kernel
theorem dX10_pays_1 : decode cX10_pays 1 = .ok (.iload_n 3, 1) := by decide +kernel
theorem dX10_pays_2 : decode cX10_pays 2 = .ok (.iload 4, 2) := by decide +kernel
theorem dX10_pays_4 : decode cX10_pays 4 = .ok (.iload 5, 2) := by decide +kernel
theorem dX10_pays_6 : decode cX10_pays 6 = .ok (.invokestatic 316, 3) := by decide +kernel
theorem dX10_pays_9 : decode cX10_pays 9 = .ok (.ifCond .eq 15, 3) := by decide +kernel
theorem dX10_pays_12 : decode cX10_pays 12 = .ok (.iload_n 2, 1) := by decide +kernel
theorem dX10_pays_13 : decode cX10_pays 13 = .ok (.iload_n 3, 1) := by decide +kernel
theorem dX10_pays_14 : decode cX10_pays 14 = .ok (.iload 4, 2) := by decide +kernel
theorem dX10_pays_16 : decode cX10_pays 16 = .ok (.iload 5, 2) := by decide +kernel
theorem dX10_pays_18 : decode cX10_pays 18 = .ok (.invokestatic 316, 3) := by decide +kernel
theorem dX10_pays_21 : decode cX10_pays 21 = .ok (.ifCond .ne 5, 3) := by decide +kernel
theorem dX10_pays_24 : decode cX10_pays 24 = .ok (.iconst (-1), 1) := by decide +kernel
theorem dX10_pays_25 : decode cX10_pays 25 = .ok (.ireturn, 1) := by decide +kernel
theorem dX10_pays_26 : decode cX10_pays 26 = .ok (.aload_n 0, 1) := by decide +kernel
theorem dX10_pays_27 : decode cX10_pays 27 = .ok (.getfield 74, 3) := by decide +kernel
theorem dX10_pays_30 : decode cX10_pays 30 = .ok (.iload_n 1, 1) := by decide +kernel
theorem dX10_pays_31 : decode cX10_pays 31 = .ok (.iload_n 2, 1) := by decide +kernel
theorem dX10_pays_32 : decode cX10_pays 32 = .ok (.iload_n 3, 1) := by decide +kernel
theorem dX10_pays_33 : decode cX10_pays 33 = .ok (.iload 4, 2) := by decide +kernel
theorem dX10_pays_35 : decode cX10_pays 35 = .ok (.iload 5, 2) := by decide +kernel
theorem dX10_pays_37 : decode cX10_pays 37 = .ok (.invokevirtual 322, 3) := by decide +kernel
theorem dX10_pays_40 : decode cX10_pays 40 = .ok (.ireturn, 1) := by decide +kernel
theorem dX10_town_0 : decode cX10_town 0 = .ok (.iload_n 1, 1) := by decide +kernel
theorem dX10_town_1 : decode cX10_town 1 = .ok (.invokestatic 111, 3) := by decide +kernel
theorem dX10_town_4 : decode cX10_town 4 = .ok (.ifCond .eq 37, 3) := by decide +kernel
theorem dX10_town_7 : decode cX10_town 7 = .ok (.iload_n 2, 1) := by decide +kernel
theorem dX10_town_8 : decode cX10_town 8 = .ok (.iconst 0, 1) := by decide +kernel
theorem dX10_town_9 : decode cX10_town 9 = .ok (.sipush 9999, 3) := by decide +kernel
theorem dX10_town_12 : decode cX10_town 12 = .ok (.invokestatic 99, 3) := by decide +kernel
theorem dX10_town_15 : decode cX10_town 15 = .ok (.ifCond .eq 26, 3) := by decide +kernel
theorem dX10_town_18 : decode cX10_town 18 = .ok (.iload_n 3, 1) := by decide +kernel
theorem dX10_town_19 : decode cX10_town 19 = .ok (.iconst 0, 1) := by decide +kernel
theorem dX10_town_20 : decode cX10_town 20 = .ok (.ldc_w 291, 3) := by decide +kernel
theorem dX10_town_23 : decode cX10_town 23 = .ok (.invokestatic 99, 3) := by decide +kernel
theorem dX10_town_26 : decode cX10_town 26 = .ok (.ifCond .eq 15, 3) := by decide +kernel
theorem dX10_town_29 : decode cX10_town 29 = .ok (.iload 4, 2) := by decide +kernel
theorem dX10_town_31 : decode cX10_town 31 = .ok (.iconst 0, 1) := by decide +kernel
theorem dX10_town_32 : decode cX10_town 32 = .ok (.ldc_w 326, 3) := by decide +kernel
theorem dX10_town_35 : decode cX10_town 35 = .ok (.invokestatic 99, 3) := by decide +kernel
theorem dX10_town_38 : decode cX10_town 38 = .ok (.ifCond .ne 5, 3) := by decide +kernel
theorem dX10_town_41 : decode cX10_town 41 = .ok (.iconst (-1), 1) := by decide +kernel
theorem dX10_town_42 : decode cX10_town 42 = .ok (.ireturn, 1) := by decide +kernel
theorem dX10_town_43 : decode cX10_town 43 = .ok (.aload_n 0, 1) := by decide +kernel
theorem dX10_town_44 : decode cX10_town 44 = .ok (.getfield 81, 3) := by decide +kernel
theorem dX10_town_47 : decode cX10_town 47 = .ok (.iload_n 1, 1) := by decide +kernel
theorem dX10_town_48 : decode cX10_town 48 = .ok (.iload_n 2, 1) := by decide +kernel
theorem dX10_town_49 : decode cX10_town 49 = .ok (.iload_n 3, 1) := by decide +kernel
theorem dX10_town_50 : decode cX10_town 50 = .ok (.iload 4, 2) := by decide +kernel
theorem dX10_town_52 : decode cX10_town 52 = .ok (.invokevirtual 327, 3) := by decide +kernel
theorem dX10_town_55 : decode cX10_town 55 = .ok (.ireturn, 1) := by decide +kernel
theorem dX10_bar_0 : decode cX10_bar 0 = .ok (.aload_n 0, 1) := by decide +kernel
theorem dX10_bar_1 : decode cX10_bar 1 = .ok (.getfield 81, 3) := by decide +kernel
theorem dX10_bar_4 : decode cX10_bar 4 = .ok (.iload_n 1, 1) := by decide +kernel
theorem dX10_bar_5 : decode cX10_bar 5 = .ok (.invokevirtual 328, 3) := by decide +kernel
theorem dX10_bar_8 : decode cX10_bar 8 = .ok (.ifCond .eq 22, 3) := by decide +kernel
theorem dX10_bar_11 : decode cX10_bar 11 = .ok (.iload_n 2, 1) := by decide +kernel
theorem dX10_bar_12 : decode cX10_bar 12 = .ok (.invokestatic 329, 3) := by decide +kernel
theorem dX10_bar_15 : decode cX10_bar 15 = .ok (.ifCond .eq 15, 3) := by decide +kernel
theorem dX10_bar_18 : decode cX10_bar 18 = .ok (.iload_n 3, 1) := by decide +kernel
theorem dX10_bar_19 : decode cX10_bar 19 = .ok (.invokestatic 329, 3) := by decide +kernel
theorem dX10_bar_22 : decode cX10_bar 22 = .ok (.ifCond .eq 8, 3) := by decide +kernel
theorem dX10_bar_25 : decode cX10_bar 25 = .ok (.iload_n 2, 1) := by decide +kernel
theorem dX10_bar_26 : decode cX10_bar 26 = .ok (.iload_n 3, 1) := by decide +kernel
theorem dX10_bar_27 : decode cX10_bar 27 = .ok (.if_icmp .le 5, 3) := by decide +kernel
theorem dX10_bar_30 : decode cX10_bar 30 = .ok (.iconst (-1), 1) := by decide +kernel
theorem dX10_bar_31 : decode cX10_bar 31 = .ok (.ireturn, 1) := by decide +kernel
theorem dX10_bar_32 : decode cX10_bar 32 = .ok (.aload_n 0, 1) := by decide +kernel
theorem dX10_bar_33 : decode cX10_bar 33 = .ok (.getfield 81, 3) := by decide +kernel
theorem dX10_bar_36 : decode cX10_bar 36 = .ok (.iload_n 1, 1) := by decide +kernel
theorem dX10_bar_37 : decode cX10_bar 37 = .ok (.iload_n 2, 1) := by decide +kernel
theorem dX10_bar_38 : decode cX10_bar 38 = .ok (.iload_n 3, 1) := by decide +kernel
theorem dX10_bar_39 : decode cX10_bar 39 = .ok (.invokevirtual 332, 3) := by decide +kernel
theorem dX10_bar_42 : decode cX10_bar 42 = .ok (.ireturn, 1) := by decide +kernel
theorem dX10_lost_0 : decode cX10_lost 0 = .ok (.aload_n 0, 1) := by decide +kernel
theorem dX10_lost_1 : decode cX10_lost 1 = .ok (.getfield 81, 3) := by decide +kernel
theorem dX10_lost_4 : decode cX10_lost 4 = .ok (.iload_n 1, 1) := by decide +kernel
theorem dX10_lost_5 : decode cX10_lost 5 = .ok (.invokevirtual 328, 3) := by decide +kernel
theorem dX10_lost_8 : decode cX10_lost 8 = .ok (.ifCond .eq 10, 3) := by decide +kernel
theorem dX10_lost_11 : decode cX10_lost 11 = .ok (.iload_n 2, 1) := by decide +kernel
theorem dX10_lost_12 : decode cX10_lost 12 = .ok (.invokestatic 329, 3) := by decide +kernel
theorem dX10_lost_15 : decode cX10_lost 15 = .ok (.ifCond .ne 5, 3) := by decide +kernel
theorem dX10_lost_18 : decode cX10_lost 18 = .ok (.iconst (-1), 1) := by decide +kernel
theorem dX10_lost_19 : decode cX10_lost 19 = .ok (.ireturn, 1) := by decide +kernel
theorem dX10_lost_20 : decode cX10_lost 20 = .ok (.aload_n 0, 1) := by decide +kernel
theorem dX10_lost_21 : decode cX10_lost 21 = .ok (.getfield 81, 3) := by decide +kernel
theorem dX10_lost_24 : decode cX10_lost 24 = .ok (.iload_n 1, 1) := by decide +kernel
theorem dX10_lost_25 : decode cX10_lost 25 = .ok (.iload_n 2, 1) := by decide +kernel
theorem dX10_lost_26 : decode cX10_lost 26 = .ok (.invokevirtual 335, 3) := by decide +kernel
theorem dX10_lost_29 : decode cX10_lost 29 = .ok (.ireturn, 1) := by decide +kernel
theorem dX10_yields_0 : decode cX10_yields 0 = .ok (.aload_n 0, 1) := by decide +kernel
theorem dX10_yields_1 : decode cX10_yields 1 = .ok (.getfield 81, 3) := by decide +kernel
theorem dX10_yields_4 : decode cX10_yields 4 = .ok (.iload_n 1, 1) := by decide +kernel
theorem dX10_yields_5 : decode cX10_yields 5 = .ok (.invokevirtual 328, 3) := by decide +kernel
theorem dX10_yields_8 : decode cX10_yields 8 = .ok (.ifCond .eq 14, 3) := by decide +kernel
theorem dX10_yields_11 : decode cX10_yields 11 = .ok (.aload_n 0, 1) := by decide +kernel
theorem dX10_yields_12 : decode cX10_yields 12 = .ok (.getfield 81, 3) := by decide +kernel
theorem dX10_yields_15 : decode cX10_yields 15 = .ok (.iload_n 1, 1) := by decide +kernel
theorem dX10_yields_16 : decode cX10_yields 16 = .ok (.invokevirtual 338, 3) := by decide +kernel
theorem dX10_yields_19 : decode cX10_yields 19 = .ok (.goto 4, 3) := by decide +kernel
theorem dX10_yields_22 : decode cX10_yields 22 = .ok (.iconst (-1), 1) := by decide +kernel
theorem dX10_yields_23 : decode cX10_yields 23 = .ok (.ireturn, 1) := by decide +kernel
theorem dX10_sideYields_0 : decode cX10_sideYields 0 = .ok (.iload_n 1, 1) := by decide +kernel
theorem dX10_sideYields_1 : decode cX10_sideYields 1 = .ok (.invokestatic 111, 3) := by decide +kernel
theorem dX10_sideYields_4 : decode cX10_sideYields 4 = .ok (.ifCond .eq 14, 3) := by decide +kernel
theorem dX10_sideYields_7 : decode cX10_sideYields 7 = .ok (.aload_n 0, 1) := by decide +kernel
theorem dX10_sideYields_8 : decode cX10_sideYields 8 = .ok (.getfield 81, 3) := by decide +kernel
theorem dX10_sideYields_11 : decode cX10_sideYields 11 = .ok (.iload_n 1, 1) := by decide +kernel
theorem dX10_sideYields_12 : decode cX10_sideYields 12 = .ok (.invokevirtual 341, 3) := by decide +kernel
theorem dX10_sideYields_15 : decode cX10_sideYields 15 = .ok (.goto 4, 3) := by decide +kernel
theorem dX10_sideYields_18 : decode cX10_sideYields 18 = .ok (.iconst (-1), 1) := by decide +kernel
theorem dX10_sideYields_19 : decode cX10_sideYields 19 = .ok (.ireturn, 1) := by decide +kernel
theorem dX10_term_0 : decode cX10_term 0 = .ok (.iload_n 1, 1) := by decide +kernel
theorem dX10_term_1 : decode cX10_term 1 = .ok (.sipush (-9999), 3) := by decide +kernel
theorem dX10_term_4 : decode cX10_term 4 = .ok (.sipush 9999, 3) := by decide +kernel
theorem dX10_term_7 : decode cX10_term 7 = .ok (.invokestatic 99, 3) := by decide +kernel
theorem dX10_term_10 : decode cX10_term 10 = .ok (.ifCond .eq 16, 3) := by decide +kernel
theorem dX10_term_13 : decode cX10_term 13 = .ok (.iload_n 2, 1) := by decide +kernel
theorem dX10_term_14 : decode cX10_term 14 = .ok (.sipush (-9999), 3) := by decide +kernel
theorem dX10_term_17 : decode cX10_term 17 = .ok (.sipush 9999, 3) := by decide +kernel
theorem dX10_term_20 : decode cX10_term 20 = .ok (.invokestatic 99, 3) := by decide +kernel
theorem dX10_term_23 : decode cX10_term 23 = .ok (.ifCond .ne 5, 3) := by decide +kernel
theorem dX10_term_26 : decode cX10_term 26 = .ok (.iconst (-1), 1) := by decide +kernel
theorem dX10_term_27 : decode cX10_term 27 = .ok (.ireturn, 1) := by decide +kernel
theorem dX10_term_28 : decode cX10_term 28 = .ok (.aload_n 0, 1) := by decide +kernel
theorem dX10_term_29 : decode cX10_term 29 = .ok (.getfield 88, 3) := by decide +kernel
theorem dX10_term_32 : decode cX10_term 32 = .ok (.iload_n 1, 1) := by decide +kernel
theorem dX10_term_33 : decode cX10_term 33 = .ok (.iload_n 2, 1) := by decide +kernel
theorem dX10_term_34 : decode cX10_term 34 = .ok (.invokevirtual 344, 3) := by decide +kernel
theorem dX10_term_37 : decode cX10_term 37 = .ok (.ireturn, 1) := by decide +kernel
theorem dX10_sign_0 : decode cX10_sign 0 = .ok (.iload_n 1, 1) := by decide +kernel
theorem dX10_sign_1 : decode cX10_sign 1 = .ok (.ldc_w 346, 3) := by decide +kernel
theorem dX10_sign_4 : decode cX10_sign 4 = .ok (.ldc_w 326, 3) := by decide +kernel
theorem dX10_sign_7 : decode cX10_sign 7 = .ok (.invokestatic 99, 3) := by decide +kernel
theorem dX10_sign_10 : decode cX10_sign 10 = .ok (.ifCond .eq 16, 3) := by decide +kernel
theorem dX10_sign_13 : decode cX10_sign 13 = .ok (.iload_n 2, 1) := by decide +kernel
theorem dX10_sign_14 : decode cX10_sign 14 = .ok (.ldc_w 346, 3) := by decide +kernel
theorem dX10_sign_17 : decode cX10_sign 17 = .ok (.ldc_w 326, 3) := by decide +kernel
theorem dX10_sign_20 : decode cX10_sign 20 = .ok (.invokestatic 99, 3) := by decide +kernel
theorem dX10_sign_23 : decode cX10_sign 23 = .ok (.ifCond .ne 5, 3) := by decide +kernel
theorem dX10_sign_26 : decode cX10_sign 26 = .ok (.iconst (-1), 1) := by decide +kernel
theorem dX10_sign_27 : decode cX10_sign 27 = .ok (.ireturn, 1) := by decide +kernel
theorem dX10_sign_28 : decode cX10_sign 28 = .ok (.aload_n 0, 1) := by decide +kernel
theorem dX10_sign_29 : decode cX10_sign 29 = .ok (.getfield 88, 3) := by decide +kernel
theorem dX10_sign_32 : decode cX10_sign 32 = .ok (.iload_n 1, 1) := by decide +kernel
theorem dX10_sign_33 : decode cX10_sign 33 = .ok (.iload_n 2, 1) := by decide +kernel
theorem dX10_sign_34 : decode cX10_sign 34 = .ok (.invokevirtual 347, 3) := by decide +kernel
theorem dX10_sign_37 : decode cX10_sign 37 = .ok (.ireturn, 1) := by decide +kernel
theorem dX10_box_0 : decode cX10_box 0 = .ok (.iload_n 1, 1) := by decide +kernel
theorem dX10_box_1 : decode cX10_box 1 = .ok (.iconst 0, 1) := by decide +kernel
theorem dX10_box_2 : decode cX10_box 2 = .ok (.sipush 9999, 3) := by decide +kernel
theorem dX10_box_5 : decode cX10_box 5 = .ok (.invokestatic 99, 3) := by decide +kernel
theorem dX10_box_8 : decode cX10_box 8 = .ok (.ifCond .eq 24, 3) := by decide +kernel
theorem dX10_box_11 : decode cX10_box 11 = .ok (.iload_n 2, 1) := by decide +kernel
theorem dX10_box_12 : decode cX10_box 12 = .ok (.iconst 0, 1) := by decide +kernel
theorem dX10_box_13 : decode cX10_box 13 = .ok (.sipush 999, 3) := by decide +kernel
theorem dX10_box_16 : decode cX10_box 16 = .ok (.invokestatic 99, 3) := by decide +kernel
theorem dX10_box_19 : decode cX10_box 19 = .ok (.ifCond .eq 13, 3) := by decide +kernel
theorem dX10_box_22 : decode cX10_box 22 = .ok (.iload_n 3, 1) := by decide +kernel
theorem dX10_box_23 : decode cX10_box 23 = .ok (.iconst 0, 1) := by decide +kernel
theorem dX10_box_24 : decode cX10_box 24 = .ok (.bipush 99, 2) := by decide +kernel
theorem dX10_box_26 : decode cX10_box 26 = .ok (.invokestatic 99, 3) := by decide +kernel
theorem dX10_box_29 : decode cX10_box 29 = .ok (.ifCond .ne 5, 3) := by decide +kernel
theorem dX10_box_32 : decode cX10_box 32 = .ok (.iconst (-1), 1) := by decide +kernel
theorem dX10_box_33 : decode cX10_box 33 = .ok (.ireturn, 1) := by decide +kernel
theorem dX10_box_34 : decode cX10_box 34 = .ok (.aload_n 0, 1) := by decide +kernel
theorem dX10_box_35 : decode cX10_box 35 = .ok (.getfield 95, 3) := by decide +kernel
theorem dX10_box_38 : decode cX10_box 38 = .ok (.iload_n 1, 1) := by decide +kernel
theorem dX10_box_39 : decode cX10_box 39 = .ok (.iload_n 2, 1) := by decide +kernel
theorem dX10_box_40 : decode cX10_box 40 = .ok (.iload_n 3, 1) := by decide +kernel
theorem dX10_box_41 : decode cX10_box 41 = .ok (.invokevirtual 350, 3) := by decide +kernel
theorem dX10_box_44 : decode cX10_box 44 = .ok (.ireturn, 1) := by decide +kernel
theorem dX10_escort_0 : decode cX10_escort 0 = .ok (.iload_n 1, 1) := by decide +kernel
theorem dX10_escort_1 : decode cX10_escort 1 = .ok (.iconst 0, 1) := by decide +kernel
theorem dX10_escort_2 : decode cX10_escort 2 = .ok (.bipush 12, 2) := by decide +kernel
theorem dX10_escort_4 : decode cX10_escort 4 = .ok (.invokestatic 99, 3) := by decide +kernel
theorem dX10_escort_7 : decode cX10_escort 7 = .ok (.ifCond .eq 13, 3) := by decide +kernel
theorem dX10_escort_10 : decode cX10_escort 10 = .ok (.iload_n 2, 1) := by decide +kernel
theorem dX10_escort_11 : decode cX10_escort 11 = .ok (.iconst 0, 1) := by decide +kernel
theorem dX10_escort_12 : decode cX10_escort 12 = .ok (.bipush 6, 2) := by decide +kernel
theorem dX10_escort_14 : decode cX10_escort 14 = .ok (.invokestatic 99, 3) := by decide +kernel
theorem dX10_escort_17 : decode cX10_escort 17 = .ok (.ifCond .ne 5, 3) := by decide +kernel
theorem dX10_escort_20 : decode cX10_escort 20 = .ok (.iconst (-1), 1) := by decide +kernel
theorem dX10_escort_21 : decode cX10_escort 21 = .ok (.ireturn, 1) := by decide +kernel
theorem dX10_escort_22 : decode cX10_escort 22 = .ok (.aload_n 0, 1) := by decide +kernel
theorem dX10_escort_23 : decode cX10_escort 23 = .ok (.getfield 95, 3) := by decide +kernel
theorem dX10_escort_26 : decode cX10_escort 26 = .ok (.getfield 352, 3) := by decide +kernel
theorem dX10_escort_29 : decode cX10_escort 29 = .ok (.ifCond .ne 14, 3) := by decide +kernel
theorem dX10_escort_32 : decode cX10_escort 32 = .ok (.iload_n 1, 1) := by decide +kernel
theorem dX10_escort_33 : decode cX10_escort 33 = .ok (.ifCond .gt 7, 3) := by decide +kernel
theorem dX10_escort_36 : decode cX10_escort 36 = .ok (.iload_n 2, 1) := by decide +kernel
theorem dX10_escort_37 : decode cX10_escort 37 = .ok (.ifCond .le 6, 3) := by decide +kernel
theorem dX10_escort_40 : decode cX10_escort 40 = .ok (.bipush (-2), 2) := by decide +kernel
theorem dX10_escort_42 : decode cX10_escort 42 = .ok (.ireturn, 1) := by decide +kernel
theorem dX10_escort_43 : decode cX10_escort 43 = .ok (.aload_n 0, 1) := by decide +kernel
theorem dX10_escort_44 : decode cX10_escort 44 = .ok (.getfield 95, 3) := by decide +kernel
theorem dX10_escort_47 : decode cX10_escort 47 = .ok (.iload_n 1, 1) := by decide +kernel
theorem dX10_escort_48 : decode cX10_escort 48 = .ok (.iload_n 2, 1) := by decide +kernel
theorem dX10_escort_49 : decode cX10_escort 49 = .ok (.invokevirtual 353, 3) := by decide +kernel
theorem dX10_escort_52 : decode cX10_escort 52 = .ok (.ireturn, 1) := by decide +kernel
theorem dX10_escorts_0 : decode cX10_escorts 0 = .ok (.aload_n 0, 1) := by decide +kernel
theorem dX10_escorts_1 : decode cX10_escorts 1 = .ok (.getfield 95, 3) := by decide +kernel
theorem dX10_escorts_4 : decode cX10_escorts 4 = .ok (.iload_n 1, 1) := by decide +kernel
theorem dX10_escorts_5 : decode cX10_escorts 5 = .ok (.invokevirtual 356, 3) := by decide +kernel
theorem dX10_escorts_8 : decode cX10_escorts 8 = .ok (.ireturn, 1) := by decide +kernel
theorem dX10_count_0 : decode cX10_count 0 = .ok (.iload_n 1, 1) := by decide +kernel
theorem dX10_count_1 : decode cX10_count 1 = .ok (.tableswitch 157 0 11 #[63, 68, 76, 84, 94, 104, 112, 117, 125, 133, 141, 149], 63) := by decide +kernel
theorem dX10_count_64 : decode cX10_count 64 = .ok (.aload_n 0, 1) := by decide +kernel
theorem dX10_count_65 : decode cX10_count 65 = .ok (.getfield 7, 3) := by decide +kernel
theorem dX10_count_68 : decode cX10_count 68 = .ok (.ireturn, 1) := by decide +kernel
theorem dX10_count_69 : decode cX10_count 69 = .ok (.aload_n 0, 1) := by decide +kernel
theorem dX10_count_70 : decode cX10_count 70 = .ok (.getfield 23, 3) := by decide +kernel
theorem dX10_count_73 : decode cX10_count 73 = .ok (.getfield 185, 3) := by decide +kernel
theorem dX10_count_76 : decode cX10_count 76 = .ok (.ireturn, 1) := by decide +kernel
theorem dX10_count_77 : decode cX10_count 77 = .ok (.aload_n 0, 1) := by decide +kernel
theorem dX10_count_78 : decode cX10_count 78 = .ok (.getfield 30, 3) := by decide +kernel
theorem dX10_count_81 : decode cX10_count 81 = .ok (.getfield 197, 3) := by decide +kernel
theorem dX10_count_84 : decode cX10_count 84 = .ok (.ireturn, 1) := by decide +kernel
theorem dX10_count_85 : decode cX10_count 85 = .ok (.aload_n 0, 1) := by decide +kernel
theorem dX10_count_86 : decode cX10_count 86 = .ok (.getfield 16, 3) := by decide +kernel
theorem dX10_count_89 : decode cX10_count 89 = .ok (.getfield 359, 3) := by decide +kernel
theorem dX10_count_92 : decode cX10_count 92 = .ok (.iconst 0, 1) := by decide +kernel
theorem dX10_count_93 : decode cX10_count 93 = .ok (.iaload, 1) := by decide +kernel
theorem dX10_count_94 : decode cX10_count 94 = .ok (.ireturn, 1) := by decide +kernel
theorem dX10_count_95 : decode cX10_count 95 = .ok (.aload_n 0, 1) := by decide +kernel
theorem dX10_count_96 : decode cX10_count 96 = .ok (.getfield 16, 3) := by decide +kernel
theorem dX10_count_99 : decode cX10_count 99 = .ok (.getfield 359, 3) := by decide +kernel
theorem dX10_count_102 : decode cX10_count 102 = .ok (.iconst 1, 1) := by decide +kernel
theorem dX10_count_103 : decode cX10_count 103 = .ok (.iaload, 1) := by decide +kernel
theorem dX10_count_104 : decode cX10_count 104 = .ok (.ireturn, 1) := by decide +kernel
theorem dX10_count_105 : decode cX10_count 105 = .ok (.aload_n 0, 1) := by decide +kernel
theorem dX10_count_106 : decode cX10_count 106 = .ok (.getfield 37, 3) := by decide +kernel
theorem dX10_count_109 : decode cX10_count 109 = .ok (.getfield 362, 3) := by decide +kernel
theorem dX10_count_112 : decode cX10_count 112 = .ok (.ireturn, 1) := by decide +kernel
theorem dX10_count_113 : decode cX10_count 113 = .ok (.aload_n 0, 1) := by decide +kernel
theorem dX10_count_114 : decode cX10_count 114 = .ok (.getfield 61, 3) := by decide +kernel
theorem dX10_count_117 : decode cX10_count 117 = .ok (.ireturn, 1) := by decide +kernel
theorem dX10_count_118 : decode cX10_count 118 = .ok (.aload_n 0, 1) := by decide +kernel
theorem dX10_count_119 : decode cX10_count 119 = .ok (.getfield 81, 3) := by decide +kernel
theorem dX10_count_122 : decode cX10_count 122 = .ok (.getfield 363, 3) := by decide +kernel
theorem dX10_count_125 : decode cX10_count 125 = .ok (.ireturn, 1) := by decide +kernel
theorem dX10_count_126 : decode cX10_count 126 = .ok (.aload_n 0, 1) := by decide +kernel
theorem dX10_count_127 : decode cX10_count 127 = .ok (.getfield 81, 3) := by decide +kernel
theorem dX10_count_130 : decode cX10_count 130 = .ok (.getfield 364, 3) := by decide +kernel
theorem dX10_count_133 : decode cX10_count 133 = .ok (.ireturn, 1) := by decide +kernel
theorem dX10_count_134 : decode cX10_count 134 = .ok (.aload_n 0, 1) := by decide +kernel
theorem dX10_count_135 : decode cX10_count 135 = .ok (.getfield 88, 3) := by decide +kernel
theorem dX10_count_138 : decode cX10_count 138 = .ok (.getfield 367, 3) := by decide +kernel
theorem dX10_count_141 : decode cX10_count 141 = .ok (.ireturn, 1) := by decide +kernel
theorem dX10_count_142 : decode cX10_count 142 = .ok (.aload_n 0, 1) := by decide +kernel
theorem dX10_count_143 : decode cX10_count 143 = .ok (.getfield 95, 3) := by decide +kernel
theorem dX10_count_146 : decode cX10_count 146 = .ok (.getfield 352, 3) := by decide +kernel
theorem dX10_count_149 : decode cX10_count 149 = .ok (.ireturn, 1) := by decide +kernel
theorem dX10_count_150 : decode cX10_count 150 = .ok (.aload_n 0, 1) := by decide +kernel
theorem dX10_count_151 : decode cX10_count 151 = .ok (.getfield 46, 3) := by decide +kernel
theorem dX10_count_154 : decode cX10_count 154 = .ok (.getfield 215, 3) := by decide +kernel
theorem dX10_count_157 : decode cX10_count 157 = .ok (.ireturn, 1) := by decide +kernel
theorem dX10_count_158 : decode cX10_count 158 = .ok (.iconst (-1), 1) := by decide +kernel
theorem dX10_count_159 : decode cX10_count 159 = .ok (.ireturn, 1) := by decide +kernel
theorem dX11_init_0 : decode cX11_init 0 = .ok (.aload_n 0, 1) := by decide +kernel
theorem dX11_init_1 : decode cX11_init 1 = .ok (.invokespecial 1, 3) := by decide +kernel
theorem dX11_init_4 : decode cX11_init 4 = .ok (.aload_n 0, 1) := by decide +kernel
theorem dX11_init_5 : decode cX11_init 5 = .ok (.sipush 576, 3) := by decide +kernel
theorem dX11_init_8 : decode cX11_init 8 = .ok (.newarray .int, 2) := by decide +kernel
theorem dX11_init_10 : decode cX11_init 10 = .ok (.putfield 7, 3) := by decide +kernel
theorem dX11_init_13 : decode cX11_init 13 = .ok (.aload_n 0, 1) := by decide +kernel
theorem dX11_init_14 : decode cX11_init 14 = .ok (.bipush 40, 2) := by decide +kernel
theorem dX11_init_16 : decode cX11_init 16 = .ok (.newarray .int, 2) := by decide +kernel
theorem dX11_init_18 : decode cX11_init 18 = .ok (.putfield 13, 3) := by decide +kernel
theorem dX11_init_21 : decode cX11_init 21 = .ok (.aload_n 0, 1) := by decide +kernel
theorem dX11_init_22 : decode cX11_init 22 = .ok (.bipush 40, 2) := by decide +kernel
theorem dX11_init_24 : decode cX11_init 24 = .ok (.newarray .int, 2) := by decide +kernel
theorem dX11_init_26 : decode cX11_init 26 = .ok (.putfield 16, 3) := by decide +kernel
theorem dX11_init_29 : decode cX11_init 29 = .ok (.aload_n 0, 1) := by decide +kernel
theorem dX11_init_30 : decode cX11_init 30 = .ok (.bipush 40, 2) := by decide +kernel
theorem dX11_init_32 : decode cX11_init 32 = .ok (.newarray .int, 2) := by decide +kernel
theorem dX11_init_34 : decode cX11_init 34 = .ok (.putfield 19, 3) := by decide +kernel
theorem dX11_init_37 : decode cX11_init 37 = .ok (.aload_n 0, 1) := by decide +kernel
theorem dX11_init_38 : decode cX11_init 38 = .ok (.bipush 40, 2) := by decide +kernel
theorem dX11_init_40 : decode cX11_init 40 = .ok (.newarray .int, 2) := by decide +kernel
theorem dX11_init_42 : decode cX11_init 42 = .ok (.putfield 22, 3) := by decide +kernel
theorem dX11_init_45 : decode cX11_init 45 = .ok (.aload_n 0, 1) := by decide +kernel
theorem dX11_init_46 : decode cX11_init 46 = .ok (.sipush 300, 3) := by decide +kernel
theorem dX11_init_49 : decode cX11_init 49 = .ok (.newarray .int, 2) := by decide +kernel
theorem dX11_init_51 : decode cX11_init 51 = .ok (.putfield 25, 3) := by decide +kernel
theorem dX11_init_54 : decode cX11_init 54 = .ok (.aload_n 0, 1) := by decide +kernel
theorem dX11_init_55 : decode cX11_init 55 = .ok (.sipush 300, 3) := by decide +kernel
theorem dX11_init_58 : decode cX11_init 58 = .ok (.newarray .int, 2) := by decide +kernel
theorem dX11_init_60 : decode cX11_init 60 = .ok (.putfield 28, 3) := by decide +kernel
theorem dX11_init_63 : decode cX11_init 63 = .ok (.aload_n 0, 1) := by decide +kernel
theorem dX11_init_64 : decode cX11_init 64 = .ok (.sipush 300, 3) := by decide +kernel
theorem dX11_init_67 : decode cX11_init 67 = .ok (.newarray .int, 2) := by decide +kernel
theorem dX11_init_69 : decode cX11_init 69 = .ok (.putfield 31, 3) := by decide +kernel
theorem dX11_init_72 : decode cX11_init 72 = .ok (.aload_n 0, 1) := by decide +kernel
theorem dX11_init_73 : decode cX11_init 73 = .ok (.sipush 300, 3) := by decide +kernel
theorem dX11_init_76 : decode cX11_init 76 = .ok (.newarray .int, 2) := by decide +kernel
theorem dX11_init_78 : decode cX11_init 78 = .ok (.putfield 34, 3) := by decide +kernel
theorem dX11_init_81 : decode cX11_init 81 = .ok (.aload_n 0, 1) := by decide +kernel
theorem dX11_init_82 : decode cX11_init 82 = .ok (.sipush 300, 3) := by decide +kernel
theorem dX11_init_85 : decode cX11_init 85 = .ok (.newarray .int, 2) := by decide +kernel
theorem dX11_init_87 : decode cX11_init 87 = .ok (.putfield 37, 3) := by decide +kernel
theorem dX11_init_90 : decode cX11_init 90 = .ok (.aload_n 0, 1) := by decide +kernel
theorem dX11_init_91 : decode cX11_init 91 = .ok (.sipush 300, 3) := by decide +kernel
theorem dX11_init_94 : decode cX11_init 94 = .ok (.newarray .int, 2) := by decide +kernel
theorem dX11_init_96 : decode cX11_init 96 = .ok (.putfield 40, 3) := by decide +kernel
theorem dX11_init_99 : decode cX11_init 99 = .ok (.aload_n 0, 1) := by decide +kernel
theorem dX11_init_100 : decode cX11_init 100 = .ok (.sipush 300, 3) := by decide +kernel
theorem dX11_init_103 : decode cX11_init 103 = .ok (.newarray .int, 2) := by decide +kernel
theorem dX11_init_105 : decode cX11_init 105 = .ok (.putfield 43, 3) := by decide +kernel
theorem dX11_init_108 : decode cX11_init 108 = .ok (.aload_n 0, 1) := by decide +kernel
theorem dX11_init_109 : decode cX11_init 109 = .ok (.sipush 300, 3) := by decide +kernel
theorem dX11_init_112 : decode cX11_init 112 = .ok (.newarray .int, 2) := by decide +kernel
theorem dX11_init_114 : decode cX11_init 114 = .ok (.putfield 46, 3) := by decide +kernel
theorem dX11_init_117 : decode cX11_init 117 = .ok (.aload_n 0, 1) := by decide +kernel
theorem dX11_init_118 : decode cX11_init 118 = .ok (.sipush 300, 3) := by decide +kernel
theorem dX11_init_121 : decode cX11_init 121 = .ok (.newarray .int, 2) := by decide +kernel
theorem dX11_init_123 : decode cX11_init 123 = .ok (.putfield 49, 3) := by decide +kernel
theorem dX11_init_126 : decode cX11_init 126 = .ok (.aload_n 0, 1) := by decide +kernel
theorem dX11_init_127 : decode cX11_init 127 = .ok (.iconst 2, 1) := by decide +kernel
theorem dX11_init_128 : decode cX11_init 128 = .ok (.newarray .int, 2) := by decide +kernel
theorem dX11_init_130 : decode cX11_init 130 = .ok (.putfield 52, 3) := by decide +kernel
theorem dX11_init_133 : decode cX11_init 133 = .ok (.aload_n 0, 1) := by decide +kernel
theorem dX11_init_134 : decode cX11_init 134 = .ok (.bipush 32, 2) := by decide +kernel
theorem dX11_init_136 : decode cX11_init 136 = .ok (.newarray .int, 2) := by decide +kernel
theorem dX11_init_138 : decode cX11_init 138 = .ok (.putfield 55, 3) := by decide +kernel
theorem dX11_init_141 : decode cX11_init 141 = .ok (.aload_n 0, 1) := by decide +kernel
theorem dX11_init_142 : decode cX11_init 142 = .ok (.bipush 32, 2) := by decide +kernel
theorem dX11_init_144 : decode cX11_init 144 = .ok (.newarray .int, 2) := by decide +kernel
theorem dX11_init_146 : decode cX11_init 146 = .ok (.putfield 58, 3) := by decide +kernel
theorem dX11_init_149 : decode cX11_init 149 = .ok (.aload_n 0, 1) := by decide +kernel
theorem dX11_init_150 : decode cX11_init 150 = .ok (.sipush 400, 3) := by decide +kernel
theorem dX11_init_153 : decode cX11_init 153 = .ok (.newarray .byte, 2) := by decide +kernel
theorem dX11_init_155 : decode cX11_init 155 = .ok (.putfield 61, 3) := by decide +kernel
theorem dX11_init_158 : decode cX11_init 158 = .ok (.aload_n 0, 1) := by decide +kernel
theorem dX11_init_159 : decode cX11_init 159 = .ok (.bipush 12, 2) := by decide +kernel
theorem dX11_init_161 : decode cX11_init 161 = .ok (.newarray .int, 2) := by decide +kernel
theorem dX11_init_163 : decode cX11_init 163 = .ok (.putfield 65, 3) := by decide +kernel
theorem dX11_init_166 : decode cX11_init 166 = .ok (.aload_n 0, 1) := by decide +kernel
theorem dX11_init_167 : decode cX11_init 167 = .ok (.bipush 12, 2) := by decide +kernel
theorem dX11_init_169 : decode cX11_init 169 = .ok (.newarray .int, 2) := by decide +kernel
theorem dX11_init_171 : decode cX11_init 171 = .ok (.putfield 68, 3) := by decide +kernel
theorem dX11_init_174 : decode cX11_init 174 = .ok (.aload_n 0, 1) := by decide +kernel
theorem dX11_init_175 : decode cX11_init 175 = .ok (.bipush 12, 2) := by decide +kernel
theorem dX11_init_177 : decode cX11_init 177 = .ok (.newarray .int, 2) := by decide +kernel
theorem dX11_init_179 : decode cX11_init 179 = .ok (.putfield 71, 3) := by decide +kernel
theorem dX11_init_182 : decode cX11_init 182 = .ok (.aload_n 0, 1) := by decide +kernel
theorem dX11_init_183 : decode cX11_init 183 = .ok (.sipush 144, 3) := by decide +kernel
theorem dX11_init_186 : decode cX11_init 186 = .ok (.newarray .int, 2) := by decide +kernel
theorem dX11_init_188 : decode cX11_init 188 = .ok (.putfield 74, 3) := by decide +kernel
theorem dX11_init_191 : decode cX11_init 191 = .ok (.aload_n 0, 1) := by decide +kernel
theorem dX11_init_192 : decode cX11_init 192 = .ok (.sipush 144, 3) := by decide +kernel
theorem dX11_init_195 : decode cX11_init 195 = .ok (.newarray .int, 2) := by decide +kernel
theorem dX11_init_197 : decode cX11_init 197 = .ok (.putfield 77, 3) := by decide +kernel
theorem dX11_init_200 : decode cX11_init 200 = .ok (.aload_n 0, 1) := by decide +kernel
theorem dX11_init_201 : decode cX11_init 201 = .ok (.sipush 144, 3) := by decide +kernel
theorem dX11_init_204 : decode cX11_init 204 = .ok (.newarray .int, 2) := by decide +kernel
theorem dX11_init_206 : decode cX11_init 206 = .ok (.putfield 80, 3) := by decide +kernel
theorem dX11_init_209 : decode cX11_init 209 = .ok (.aload_n 0, 1) := by decide +kernel
theorem dX11_init_210 : decode cX11_init 210 = .ok (.sipush 144, 3) := by decide +kernel
theorem dX11_init_213 : decode cX11_init 213 = .ok (.newarray .int, 2) := by decide +kernel
theorem dX11_init_215 : decode cX11_init 215 = .ok (.putfield 83, 3) := by decide +kernel
theorem dX11_init_218 : decode cX11_init 218 = .ok (.aload_n 0, 1) := by decide +kernel
theorem dX11_init_219 : decode cX11_init 219 = .ok (.sipush 144, 3) := by decide +kernel
theorem dX11_init_222 : decode cX11_init 222 = .ok (.newarray .int, 2) := by decide +kernel
theorem dX11_init_224 : decode cX11_init 224 = .ok (.putfield 86, 3) := by decide +kernel
theorem dX11_init_227 : decode cX11_init 227 = .ok (.aload_n 0, 1) := by decide +kernel
theorem dX11_init_228 : decode cX11_init 228 = .ok (.sipush 144, 3) := by decide +kernel
theorem dX11_init_231 : decode cX11_init 231 = .ok (.newarray .int, 2) := by decide +kernel
theorem dX11_init_233 : decode cX11_init 233 = .ok (.putfield 89, 3) := by decide +kernel
theorem dX11_init_236 : decode cX11_init 236 = .ok (.aload_n 0, 1) := by decide +kernel
theorem dX11_init_237 : decode cX11_init 237 = .ok (.sipush 5040, 3) := by decide +kernel
theorem dX11_init_240 : decode cX11_init 240 = .ok (.newarray .int, 2) := by decide +kernel
theorem dX11_init_242 : decode cX11_init 242 = .ok (.putfield 92, 3) := by decide +kernel
theorem dX11_init_245 : decode cX11_init 245 = .ok (.aload_n 0, 1) := by decide +kernel
theorem dX11_init_246 : decode cX11_init 246 = .ok (.sipush 5040, 3) := by decide +kernel
theorem dX11_init_249 : decode cX11_init 249 = .ok (.newarray .int, 2) := by decide +kernel
theorem dX11_init_251 : decode cX11_init 251 = .ok (.putfield 95, 3) := by decide +kernel
theorem dX11_init_254 : decode cX11_init 254 = .ok (.aload_n 0, 1) := by decide +kernel
theorem dX11_init_255 : decode cX11_init 255 = .ok (.sipush 420, 3) := by decide +kernel
theorem dX11_init_258 : decode cX11_init 258 = .ok (.newarray .int, 2) := by decide +kernel
theorem dX11_init_260 : decode cX11_init 260 = .ok (.putfield 98, 3) := by decide +kernel
theorem dX11_init_263 : decode cX11_init 263 = .ok (.aload_n 0, 1) := by decide +kernel
theorem dX11_init_264 : decode cX11_init 264 = .ok (.bipush 9, 2) := by decide +kernel
theorem dX11_init_266 : decode cX11_init 266 = .ok (.newarray .long, 2) := by decide +kernel
theorem dX11_init_268 : decode cX11_init 268 = .ok (.dup, 1) := by decide +kernel
theorem dX11_init_269 : decode cX11_init 269 = .ok (.iconst 0, 1) := by decide +kernel
theorem dX11_init_270 : decode cX11_init 270 = .ok (.ldc2_w 101, 3) := by decide +kernel
theorem dX11_init_273 : decode cX11_init 273 = .ok (.lastore, 1) := by decide +kernel
theorem dX11_init_274 : decode cX11_init 274 = .ok (.dup, 1) := by decide +kernel
theorem dX11_init_275 : decode cX11_init 275 = .ok (.iconst 1, 1) := by decide +kernel
theorem dX11_init_276 : decode cX11_init 276 = .ok (.ldc2_w 103, 3) := by decide +kernel
theorem dX11_init_279 : decode cX11_init 279 = .ok (.lastore, 1) := by decide +kernel
theorem dX11_init_280 : decode cX11_init 280 = .ok (.dup, 1) := by decide +kernel
theorem dX11_init_281 : decode cX11_init 281 = .ok (.iconst 2, 1) := by decide +kernel
theorem dX11_init_282 : decode cX11_init 282 = .ok (.ldc2_w 105, 3) := by decide +kernel
theorem dX11_init_285 : decode cX11_init 285 = .ok (.lastore, 1) := by decide +kernel
theorem dX11_init_286 : decode cX11_init 286 = .ok (.dup, 1) := by decide +kernel
theorem dX11_init_287 : decode cX11_init 287 = .ok (.iconst 3, 1) := by decide +kernel
theorem dX11_init_288 : decode cX11_init 288 = .ok (.ldc2_w 107, 3) := by decide +kernel
theorem dX11_init_291 : decode cX11_init 291 = .ok (.lastore, 1) := by decide +kernel
theorem dX11_init_292 : decode cX11_init 292 = .ok (.dup, 1) := by decide +kernel
theorem dX11_init_293 : decode cX11_init 293 = .ok (.iconst 4, 1) := by decide +kernel
theorem dX11_init_294 : decode cX11_init 294 = .ok (.ldc2_w 109, 3) := by decide +kernel
theorem dX11_init_297 : decode cX11_init 297 = .ok (.lastore, 1) := by decide +kernel
theorem dX11_init_298 : decode cX11_init 298 = .ok (.dup, 1) := by decide +kernel
theorem dX11_init_299 : decode cX11_init 299 = .ok (.iconst 5, 1) := by decide +kernel
theorem dX11_init_300 : decode cX11_init 300 = .ok (.ldc2_w 111, 3) := by decide +kernel
theorem dX11_init_303 : decode cX11_init 303 = .ok (.lastore, 1) := by decide +kernel
theorem dX11_init_304 : decode cX11_init 304 = .ok (.dup, 1) := by decide +kernel
theorem dX11_init_305 : decode cX11_init 305 = .ok (.bipush 6, 2) := by decide +kernel
theorem dX11_init_307 : decode cX11_init 307 = .ok (.ldc2_w 113, 3) := by decide +kernel
theorem dX11_init_310 : decode cX11_init 310 = .ok (.lastore, 1) := by decide +kernel
theorem dX11_init_311 : decode cX11_init 311 = .ok (.dup, 1) := by decide +kernel
theorem dX11_init_312 : decode cX11_init 312 = .ok (.bipush 7, 2) := by decide +kernel
theorem dX11_init_314 : decode cX11_init 314 = .ok (.ldc2_w 115, 3) := by decide +kernel
theorem dX11_init_317 : decode cX11_init 317 = .ok (.lastore, 1) := by decide +kernel
theorem dX11_init_318 : decode cX11_init 318 = .ok (.dup, 1) := by decide +kernel
theorem dX11_init_319 : decode cX11_init 319 = .ok (.bipush 8, 2) := by decide +kernel
theorem dX11_init_321 : decode cX11_init 321 = .ok (.ldc2_w 117, 3) := by decide +kernel
theorem dX11_init_324 : decode cX11_init 324 = .ok (.lastore, 1) := by decide +kernel
theorem dX11_init_325 : decode cX11_init 325 = .ok (.putfield 119, 3) := by decide +kernel
theorem dX11_init_328 : decode cX11_init 328 = .ok (.aload_n 0, 1) := by decide +kernel
theorem dX11_init_329 : decode cX11_init 329 = .ok (.iconst 5, 1) := by decide +kernel
theorem dX11_init_330 : decode cX11_init 330 = .ok (.newarray .long, 2) := by decide +kernel
theorem dX11_init_332 : decode cX11_init 332 = .ok (.dup, 1) := by decide +kernel
theorem dX11_init_333 : decode cX11_init 333 = .ok (.iconst 0, 1) := by decide +kernel
theorem dX11_init_334 : decode cX11_init 334 = .ok (.ldc2_w 123, 3) := by decide +kernel
theorem dX11_init_337 : decode cX11_init 337 = .ok (.lastore, 1) := by decide +kernel
theorem dX11_init_338 : decode cX11_init 338 = .ok (.dup, 1) := by decide +kernel
theorem dX11_init_339 : decode cX11_init 339 = .ok (.iconst 1, 1) := by decide +kernel
theorem dX11_init_340 : decode cX11_init 340 = .ok (.ldc2_w 125, 3) := by decide +kernel
theorem dX11_init_343 : decode cX11_init 343 = .ok (.lastore, 1) := by decide +kernel
theorem dX11_init_344 : decode cX11_init 344 = .ok (.dup, 1) := by decide +kernel
theorem dX11_init_345 : decode cX11_init 345 = .ok (.iconst 2, 1) := by decide +kernel
theorem dX11_init_346 : decode cX11_init 346 = .ok (.ldc2_w 127, 3) := by decide +kernel
theorem dX11_init_349 : decode cX11_init 349 = .ok (.lastore, 1) := by decide +kernel
theorem dX11_init_350 : decode cX11_init 350 = .ok (.dup, 1) := by decide +kernel
theorem dX11_init_351 : decode cX11_init 351 = .ok (.iconst 3, 1) := by decide +kernel
theorem dX11_init_352 : decode cX11_init 352 = .ok (.ldc2_w 129, 3) := by decide +kernel
theorem dX11_init_355 : decode cX11_init 355 = .ok (.lastore, 1) := by decide +kernel
theorem dX11_init_356 : decode cX11_init 356 = .ok (.dup, 1) := by decide +kernel
theorem dX11_init_357 : decode cX11_init 357 = .ok (.iconst 4, 1) := by decide +kernel
theorem dX11_init_358 : decode cX11_init 358 = .ok (.ldc2_w 131, 3) := by decide +kernel
theorem dX11_init_361 : decode cX11_init 361 = .ok (.lastore, 1) := by decide +kernel
theorem dX11_init_362 : decode cX11_init 362 = .ok (.putfield 133, 3) := by decide +kernel
theorem dX11_init_365 : decode cX11_init 365 = .ok (.aload_n 0, 1) := by decide +kernel
theorem dX11_init_366 : decode cX11_init 366 = .ok (.bipush 100, 2) := by decide +kernel
theorem dX11_init_368 : decode cX11_init 368 = .ok (.newarray .long, 2) := by decide +kernel
theorem dX11_init_370 : decode cX11_init 370 = .ok (.putfield 136, 3) := by decide +kernel
theorem dX11_init_373 : decode cX11_init 373 = .ok (.aload_n 0, 1) := by decide +kernel
theorem dX11_init_374 : decode cX11_init 374 = .ok (.sipush 150, 3) := by decide +kernel
theorem dX11_init_377 : decode cX11_init 377 = .ok (.newarray .int, 2) := by decide +kernel
theorem dX11_init_379 : decode cX11_init 379 = .ok (.putfield 139, 3) := by decide +kernel
theorem dX11_init_382 : decode cX11_init 382 = .ok (.aload_n 0, 1) := by decide +kernel
theorem dX11_init_383 : decode cX11_init 383 = .ok (.sipush 150, 3) := by decide +kernel
theorem dX11_init_386 : decode cX11_init 386 = .ok (.newarray .int, 2) := by decide +kernel
theorem dX11_init_388 : decode cX11_init 388 = .ok (.putfield 142, 3) := by decide +kernel
theorem dX11_init_391 : decode cX11_init 391 = .ok (.aload_n 0, 1) := by decide +kernel
theorem dX11_init_392 : decode cX11_init 392 = .ok (.sipush 150, 3) := by decide +kernel
theorem dX11_init_395 : decode cX11_init 395 = .ok (.newarray .int, 2) := by decide +kernel
theorem dX11_init_397 : decode cX11_init 397 = .ok (.putfield 145, 3) := by decide +kernel
theorem dX11_init_400 : decode cX11_init 400 = .ok (.aload_n 0, 1) := by decide +kernel
theorem dX11_init_401 : decode cX11_init 401 = .ok (.sipush 150, 3) := by decide +kernel
theorem dX11_init_404 : decode cX11_init 404 = .ok (.newarray .int, 2) := by decide +kernel
theorem dX11_init_406 : decode cX11_init 406 = .ok (.putfield 148, 3) := by decide +kernel
theorem dX11_init_409 : decode cX11_init 409 = .ok (.aload_n 0, 1) := by decide +kernel
theorem dX11_init_410 : decode cX11_init 410 = .ok (.sipush 150, 3) := by decide +kernel
theorem dX11_init_413 : decode cX11_init 413 = .ok (.newarray .int, 2) := by decide +kernel
theorem dX11_init_415 : decode cX11_init 415 = .ok (.putfield 151, 3) := by decide +kernel
theorem dX11_init_418 : decode cX11_init 418 = .ok (.aload_n 0, 1) := by decide +kernel
theorem dX11_init_419 : decode cX11_init 419 = .ok (.sipush 16250, 3) := by decide +kernel
theorem dX11_init_422 : decode cX11_init 422 = .ok (.newarray .boolean, 2) := by decide +kernel
theorem dX11_init_424 : decode cX11_init 424 = .ok (.putfield 154, 3) := by decide +kernel
theorem dX11_init_427 : decode cX11_init 427 = .ok (.aload_n 0, 1) := by decide +kernel
theorem dX11_init_428 : decode cX11_init 428 = .ok (.sipush 16250, 3) := by decide +kernel
theorem dX11_init_431 : decode cX11_init 431 = .ok (.newarray .boolean, 2) := by decide +kernel
theorem dX11_init_433 : decode cX11_init 433 = .ok (.putfield 158, 3) := by decide +kernel
theorem dX11_init_436 : decode cX11_init 436 = .ok (.aload_n 0, 1) := by decide +kernel
theorem dX11_init_437 : decode cX11_init 437 = .ok (.iconst (-1), 1) := by decide +kernel
theorem dX11_init_438 : decode cX11_init 438 = .ok (.putfield 161, 3) := by decide +kernel
theorem dX11_init_441 : decode cX11_init 441 = .ok (.aload_n 0, 1) := by decide +kernel
theorem dX11_init_442 : decode cX11_init 442 = .ok (.iconst 2, 1) := by decide +kernel
theorem dX11_init_443 : decode cX11_init 443 = .ok (.newarray .int, 2) := by decide +kernel
theorem dX11_init_445 : decode cX11_init 445 = .ok (.putfield 165, 3) := by decide +kernel
theorem dX11_init_448 : decode cX11_init 448 = .ok (.aload_n 0, 1) := by decide +kernel
theorem dX11_init_449 : decode cX11_init 449 = .ok (.iconst 2, 1) := by decide +kernel
theorem dX11_init_450 : decode cX11_init 450 = .ok (.newarray .int, 2) := by decide +kernel
theorem dX11_init_452 : decode cX11_init 452 = .ok (.putfield 168, 3) := by decide +kernel
theorem dX11_init_455 : decode cX11_init 455 = .ok (.aload_n 0, 1) := by decide +kernel
theorem dX11_init_456 : decode cX11_init 456 = .ok (.bipush 120, 2) := by decide +kernel
theorem dX11_init_458 : decode cX11_init 458 = .ok (.newarray .int, 2) := by decide +kernel
theorem dX11_init_460 : decode cX11_init 460 = .ok (.putfield 171, 3) := by decide +kernel
theorem dX11_init_463 : decode cX11_init 463 = .ok (.aload_n 0, 1) := by decide +kernel
theorem dX11_init_464 : decode cX11_init 464 = .ok (.bipush 8, 2) := by decide +kernel
theorem dX11_init_466 : decode cX11_init 466 = .ok (.newarray .int, 2) := by decide +kernel
theorem dX11_init_468 : decode cX11_init 468 = .ok (.putfield 174, 3) := by decide +kernel
theorem dX11_init_471 : decode cX11_init 471 = .ok (.aload_n 0, 1) := by decide +kernel
theorem dX11_init_472 : decode cX11_init 472 = .ok (.bipush 8, 2) := by decide +kernel
theorem dX11_init_474 : decode cX11_init 474 = .ok (.newarray .int, 2) := by decide +kernel
theorem dX11_init_476 : decode cX11_init 476 = .ok (.putfield 177, 3) := by decide +kernel
theorem dX11_init_479 : decode cX11_init 479 = .ok (.aload_n 0, 1) := by decide +kernel
theorem dX11_init_480 : decode cX11_init 480 = .ok (.bipush 8, 2) := by decide +kernel
theorem dX11_init_482 : decode cX11_init 482 = .ok (.newarray .int, 2) := by decide +kernel
theorem dX11_init_484 : decode cX11_init 484 = .ok (.putfield 180, 3) := by decide +kernel
theorem dX11_init_487 : decode cX11_init 487 = .ok (.aload_n 0, 1) := by decide +kernel
theorem dX11_init_488 : decode cX11_init 488 = .ok (.bipush 16, 2) := by decide +kernel
theorem dX11_init_490 : decode cX11_init 490 = .ok (.newarray .long, 2) := by decide +kernel
theorem dX11_init_492 : decode cX11_init 492 = .ok (.putfield 183, 3) := by decide +kernel
theorem dX11_init_495 : decode cX11_init 495 = .ok (.aload_n 0, 1) := by decide +kernel
theorem dX11_init_496 : decode cX11_init 496 = .ok (.bipush 8, 2) := by decide +kernel
theorem dX11_init_498 : decode cX11_init 498 = .ok (.newarray .int, 2) := by decide +kernel
theorem dX11_init_500 : decode cX11_init 500 = .ok (.putfield 186, 3) := by decide +kernel
theorem dX11_init_503 : decode cX11_init 503 = .ok (.aload_n 0, 1) := by decide +kernel
theorem dX11_init_504 : decode cX11_init 504 = .ok (.bipush 8, 2) := by decide +kernel
theorem dX11_init_506 : decode cX11_init 506 = .ok (.newarray .int, 2) := by decide +kernel
theorem dX11_init_508 : decode cX11_init 508 = .ok (.putfield 189, 3) := by decide +kernel
theorem dX11_init_511 : decode cX11_init 511 = .ok (.aload_n 0, 1) := by decide +kernel
theorem dX11_init_512 : decode cX11_init 512 = .ok (.bipush 8, 2) := by decide +kernel
theorem dX11_init_514 : decode cX11_init 514 = .ok (.newarray .int, 2) := by decide +kernel
theorem dX11_init_516 : decode cX11_init 516 = .ok (.putfield 192, 3) := by decide +kernel
theorem dX11_init_519 : decode cX11_init 519 = .ok (.aload_n 0, 1) := by decide +kernel
theorem dX11_init_520 : decode cX11_init 520 = .ok (.bipush 8, 2) := by decide +kernel
theorem dX11_init_522 : decode cX11_init 522 = .ok (.newarray .int, 2) := by decide +kernel
theorem dX11_init_524 : decode cX11_init 524 = .ok (.putfield 195, 3) := by decide +kernel
theorem dX11_init_527 : decode cX11_init 527 = .ok (.aload_n 0, 1) := by decide +kernel
theorem dX11_init_528 : decode cX11_init 528 = .ok (.bipush 20, 2) := by decide +kernel
theorem dX11_init_530 : decode cX11_init 530 = .ok (.newarray .int, 2) := by decide +kernel
theorem dX11_init_532 : decode cX11_init 532 = .ok (.putfield 198, 3) := by decide +kernel
theorem dX11_init_535 : decode cX11_init 535 = .ok (.aload_n 0, 1) := by decide +kernel
theorem dX11_init_536 : decode cX11_init 536 = .ok (.bipush 20, 2) := by decide +kernel
theorem dX11_init_538 : decode cX11_init 538 = .ok (.newarray .int, 2) := by decide +kernel
theorem dX11_init_540 : decode cX11_init 540 = .ok (.putfield 201, 3) := by decide +kernel
theorem dX11_init_543 : decode cX11_init 543 = .ok (.aload_n 0, 1) := by decide +kernel
theorem dX11_init_544 : decode cX11_init 544 = .ok (.bipush 20, 2) := by decide +kernel
theorem dX11_init_546 : decode cX11_init 546 = .ok (.newarray .int, 2) := by decide +kernel
theorem dX11_init_548 : decode cX11_init 548 = .ok (.putfield 204, 3) := by decide +kernel
theorem dX11_init_551 : decode cX11_init 551 = .ok (.aload_n 0, 1) := by decide +kernel
theorem dX11_init_552 : decode cX11_init 552 = .ok (.bipush 9, 2) := by decide +kernel
theorem dX11_init_554 : decode cX11_init 554 = .ok (.newarray .int, 2) := by decide +kernel
theorem dX11_init_556 : decode cX11_init 556 = .ok (.putfield 207, 3) := by decide +kernel
theorem dX11_init_559 : decode cX11_init 559 = .ok (.aload_n 0, 1) := by decide +kernel
theorem dX11_init_560 : decode cX11_init 560 = .ok (.bipush 9, 2) := by decide +kernel
theorem dX11_init_562 : decode cX11_init 562 = .ok (.newarray .int, 2) := by decide +kernel
theorem dX11_init_564 : decode cX11_init 564 = .ok (.putfield 210, 3) := by decide +kernel
theorem dX11_init_567 : decode cX11_init 567 = .ok (.aload_n 0, 1) := by decide +kernel
theorem dX11_init_568 : decode cX11_init 568 = .ok (.bipush 6, 2) := by decide +kernel
theorem dX11_init_570 : decode cX11_init 570 = .ok (.newarray .int, 2) := by decide +kernel
theorem dX11_init_572 : decode cX11_init 572 = .ok (.putfield 213, 3) := by decide +kernel
theorem dX11_init_575 : decode cX11_init 575 = .ok (.aload_n 0, 1) := by decide +kernel
theorem dX11_init_576 : decode cX11_init 576 = .ok (.bipush 6, 2) := by decide +kernel
theorem dX11_init_578 : decode cX11_init 578 = .ok (.newarray .int, 2) := by decide +kernel
theorem dX11_init_580 : decode cX11_init 580 = .ok (.putfield 216, 3) := by decide +kernel
theorem dX11_init_583 : decode cX11_init 583 = .ok (.aload_n 0, 1) := by decide +kernel
theorem dX11_init_584 : decode cX11_init 584 = .ok (.bipush 6, 2) := by decide +kernel
theorem dX11_init_586 : decode cX11_init 586 = .ok (.newarray .int, 2) := by decide +kernel
theorem dX11_init_588 : decode cX11_init 588 = .ok (.putfield 219, 3) := by decide +kernel
theorem dX11_init_591 : decode cX11_init 591 = .ok (.aload_n 0, 1) := by decide +kernel
theorem dX11_init_592 : decode cX11_init 592 = .ok (.sipush 637, 3) := by decide +kernel
theorem dX11_init_595 : decode cX11_init 595 = .ok (.newarray .long, 2) := by decide +kernel
theorem dX11_init_597 : decode cX11_init 597 = .ok (.putfield 222, 3) := by decide +kernel
theorem dX11_init_600 : decode cX11_init 600 = .ok (.aload_n 0, 1) := by decide +kernel
theorem dX11_init_601 : decode cX11_init 601 = .ok (.bipush 6, 2) := by decide +kernel
theorem dX11_init_603 : decode cX11_init 603 = .ok (.newarray .int, 2) := by decide +kernel
theorem dX11_init_605 : decode cX11_init 605 = .ok (.putfield 225, 3) := by decide +kernel
theorem dX11_init_608 : decode cX11_init 608 = .ok (.aload_n 0, 1) := by decide +kernel
theorem dX11_init_609 : decode cX11_init 609 = .ok (.bipush 6, 2) := by decide +kernel
theorem dX11_init_611 : decode cX11_init 611 = .ok (.newarray .int, 2) := by decide +kernel
theorem dX11_init_613 : decode cX11_init 613 = .ok (.putfield 228, 3) := by decide +kernel
theorem dX11_init_616 : decode cX11_init 616 = .ok (.return_, 1) := by decide +kernel
theorem dX11_in_0 : decode cX11_in 0 = .ok (.lload_n 0, 1) := by decide +kernel
theorem dX11_in_1 : decode cX11_in 1 = .ok (.lload_n 2, 1) := by decide +kernel
theorem dX11_in_2 : decode cX11_in 2 = .ok (.lcmp, 1) := by decide +kernel
theorem dX11_in_3 : decode cX11_in 3 = .ok (.ifCond .lt 14, 3) := by decide +kernel
theorem dX11_in_6 : decode cX11_in 6 = .ok (.lload_n 0, 1) := by decide +kernel
theorem dX11_in_7 : decode cX11_in 7 = .ok (.lload 4, 2) := by decide +kernel
theorem dX11_in_9 : decode cX11_in 9 = .ok (.lcmp, 1) := by decide +kernel
theorem dX11_in_10 : decode cX11_in 10 = .ok (.ifCond .gt 7, 3) := by decide +kernel
theorem dX11_in_13 : decode cX11_in 13 = .ok (.iconst 1, 1) := by decide +kernel
theorem dX11_in_14 : decode cX11_in 14 = .ok (.goto 4, 3) := by decide +kernel
theorem dX11_in_17 : decode cX11_in 17 = .ok (.iconst 0, 1) := by decide +kernel
theorem dX11_in_18 : decode cX11_in 18 = .ok (.ireturn, 1) := by decide +kernel
theorem dX11_isMinute_0 : decode cX11_isMinute 0 = .ok (.iload_n 0, 1) := by decide +kernel
theorem dX11_isMinute_1 : decode cX11_isMinute 1 = .ok (.ifCond .lt 14, 3) := by decide +kernel
theorem dX11_isMinute_4 : decode cX11_isMinute 4 = .ok (.iload_n 0, 1) := by decide +kernel
theorem dX11_isMinute_5 : decode cX11_isMinute 5 = .ok (.sipush 9000, 3) := by decide +kernel
theorem dX11_isMinute_8 : decode cX11_isMinute 8 = .ok (.if_icmp .ge 7, 3) := by decide +kernel
theorem dX11_isMinute_11 : decode cX11_isMinute 11 = .ok (.iconst 1, 1) := by decide +kernel
theorem dX11_isMinute_12 : decode cX11_isMinute 12 = .ok (.goto 4, 3) := by decide +kernel
theorem dX11_isMinute_15 : decode cX11_isMinute 15 = .ok (.iconst 0, 1) := by decide +kernel
theorem dX11_isMinute_16 : decode cX11_isMinute 16 = .ok (.ireturn, 1) := by decide +kernel
theorem dX11_isSide_0 : decode cX11_isSide 0 = .ok (.iload_n 0, 1) := by decide +kernel
theorem dX11_isSide_1 : decode cX11_isSide 1 = .ok (.ifCond .eq 8, 3) := by decide +kernel
theorem dX11_isSide_4 : decode cX11_isSide 4 = .ok (.iload_n 0, 1) := by decide +kernel
theorem dX11_isSide_5 : decode cX11_isSide 5 = .ok (.iconst 1, 1) := by decide +kernel
theorem dX11_isSide_6 : decode cX11_isSide 6 = .ok (.if_icmp .ne 7, 3) := by decide +kernel
theorem dX11_isSide_9 : decode cX11_isSide 9 = .ok (.iconst 1, 1) := by decide +kernel
theorem dX11_isSide_10 : decode cX11_isSide 10 = .ok (.goto 4, 3) := by decide +kernel
theorem dX11_isSide_13 : decode cX11_isSide 13 = .ok (.iconst 0, 1) := by decide +kernel
theorem dX11_isSide_14 : decode cX11_isSide 14 = .ok (.ireturn, 1) := by decide +kernel
theorem dX11_isCell_0 : decode cX11_isCell 0 = .ok (.iload_n 0, 1) := by decide +kernel
theorem dX11_isCell_1 : decode cX11_isCell 1 = .ok (.i2l, 1) := by decide +kernel
theorem dX11_isCell_2 : decode cX11_isCell 2 = .ok (.lconst 0, 1) := by decide +kernel
theorem dX11_isCell_3 : decode cX11_isCell 3 = .ok (.ldc2_w 231, 3) := by decide +kernel
theorem dX11_isCell_6 : decode cX11_isCell 6 = .ok (.invokestatic 233, 3) := by decide +kernel
theorem dX11_isCell_9 : decode cX11_isCell 9 = .ok (.ifCond .eq 19, 3) := by decide +kernel
theorem dX11_isCell_12 : decode cX11_isCell 12 = .ok (.iload_n 1, 1) := by decide +kernel
theorem dX11_isCell_13 : decode cX11_isCell 13 = .ok (.i2l, 1) := by decide +kernel
theorem dX11_isCell_14 : decode cX11_isCell 14 = .ok (.lconst 0, 1) := by decide +kernel
theorem dX11_isCell_15 : decode cX11_isCell 15 = .ok (.ldc2_w 231, 3) := by decide +kernel
theorem dX11_isCell_18 : decode cX11_isCell 18 = .ok (.invokestatic 233, 3) := by decide +kernel
theorem dX11_isCell_21 : decode cX11_isCell 21 = .ok (.ifCond .eq 7, 3) := by decide +kernel
theorem dX11_isCell_24 : decode cX11_isCell 24 = .ok (.iconst 1, 1) := by decide +kernel
theorem dX11_isCell_25 : decode cX11_isCell 25 = .ok (.goto 4, 3) := by decide +kernel
theorem dX11_isCell_28 : decode cX11_isCell 28 = .ok (.iconst 0, 1) := by decide +kernel
theorem dX11_isCell_29 : decode cX11_isCell 29 = .ok (.ireturn, 1) := by decide +kernel
theorem dX11_without_0 : decode cX11_without 0 = .ok (.iload_n 0, 1) := by decide +kernel
theorem dX11_without_1 : decode cX11_without 1 = .ok (.ifCond .ge 8, 3) := by decide +kernel
theorem dX11_without_4 : decode cX11_without 4 = .ok (.iload_n 0, 1) := by decide +kernel
theorem dX11_without_5 : decode cX11_without 5 = .ok (.ineg, 1) := by decide +kernel
theorem dX11_without_6 : decode cX11_without 6 = .ok (.goto 4, 3) := by decide +kernel
theorem dX11_without_9 : decode cX11_without 9 = .ok (.iload_n 0, 1) := by decide +kernel
theorem dX11_without_10 : decode cX11_without 10 = .ok (.ireturn, 1) := by decide +kernel
theorem dX11_clock_0 : decode cX11_clock 0 = .ok (.iload_n 1, 1) := by decide +kernel
theorem dX11_clock_1 : decode cX11_clock 1 = .ok (.i2l, 1) := by decide +kernel
theorem dX11_clock_2 : decode cX11_clock 2 = .ok (.aload_n 0, 1) := by decide +kernel
theorem dX11_clock_3 : decode cX11_clock 3 = .ok (.getfield 237, 3) := by decide +kernel
theorem dX11_clock_6 : decode cX11_clock 6 = .ok (.i2l, 1) := by decide +kernel
theorem dX11_clock_7 : decode cX11_clock 7 = .ok (.ldc2_w 240, 3) := by decide +kernel
theorem dX11_clock_10 : decode cX11_clock 10 = .ok (.invokestatic 233, 3) := by decide +kernel
theorem dX11_clock_13 : decode cX11_clock 13 = .ok (.ifCond .ne 5, 3) := by decide +kernel
theorem dX11_clock_16 : decode cX11_clock 16 = .ok (.iconst 0, 1) := by decide +kernel
theorem dX11_clock_17 : decode cX11_clock 17 = .ok (.ireturn, 1) := by decide +kernel
theorem dX11_clock_18 : decode cX11_clock 18 = .ok (.aload_n 0, 1) := by decide +kernel
theorem dX11_clock_19 : decode cX11_clock 19 = .ok (.iload_n 1, 1) := by decide +kernel
theorem dX11_clock_20 : decode cX11_clock 20 = .ok (.putfield 237, 3) := by decide +kernel
theorem dX11_clock_23 : decode cX11_clock 23 = .ok (.iconst 1, 1) := by decide +kernel
theorem dX11_clock_24 : decode cX11_clock 24 = .ok (.ireturn, 1) := by decide +kernel
theorem dX11_depth_0 : decode cX11_depth 0 = .ok (.iload_n 1, 1) := by decide +kernel
theorem dX11_depth_1 : decode cX11_depth 1 = .ok (.iload_n 2, 1) := by decide +kernel
theorem dX11_depth_2 : decode cX11_depth 2 = .ok (.invokestatic 242, 3) := by decide +kernel
theorem dX11_depth_5 : decode cX11_depth 5 = .ok (.ifCond .eq 15, 3) := by decide +kernel
theorem dX11_depth_8 : decode cX11_depth 8 = .ok (.iload_n 3, 1) := by decide +kernel
theorem dX11_depth_9 : decode cX11_depth 9 = .ok (.i2l, 1) := by decide +kernel
theorem dX11_depth_10 : decode cX11_depth 10 = .ok (.lconst 0, 1) := by decide +kernel
theorem dX11_depth_11 : decode cX11_depth 11 = .ok (.ldc2_w 246, 3) := by decide +kernel
theorem dX11_depth_14 : decode cX11_depth 14 = .ok (.invokestatic 233, 3) := by decide +kernel
theorem dX11_depth_17 : decode cX11_depth 17 = .ok (.ifCond .ne 5, 3) := by decide +kernel
theorem dX11_depth_20 : decode cX11_depth 20 = .ok (.iconst (-1), 1) := by decide +kernel
theorem dX11_depth_21 : decode cX11_depth 21 = .ok (.ireturn, 1) := by decide +kernel
theorem dX11_depth_22 : decode cX11_depth 22 = .ok (.aload_n 0, 1) := by decide +kernel
theorem dX11_depth_23 : decode cX11_depth 23 = .ok (.getfield 7, 3) := by decide +kernel
theorem dX11_depth_26 : decode cX11_depth 26 = .ok (.bipush 24, 2) := by decide +kernel
theorem dX11_depth_28 : decode cX11_depth 28 = .ok (.iload_n 2, 1) := by decide +kernel
theorem dX11_depth_29 : decode cX11_depth 29 = .ok (.imul, 1) := by decide +kernel
theorem dX11_depth_30 : decode cX11_depth 30 = .ok (.iload_n 1, 1) := by decide +kernel
theorem dX11_depth_31 : decode cX11_depth 31 = .ok (.iadd, 1) := by decide +kernel
theorem dX11_depth_32 : decode cX11_depth 32 = .ok (.iaload, 1) := by decide +kernel
theorem dX11_depth_33 : decode cX11_depth 33 = .ok (.istore 4, 2) := by decide +kernel
theorem dX11_depth_35 : decode cX11_depth 35 = .ok (.aload_n 0, 1) := by decide +kernel
theorem dX11_depth_36 : decode cX11_depth 36 = .ok (.getfield 7, 3) := by decide +kernel
theorem dX11_depth_39 : decode cX11_depth 39 = .ok (.bipush 24, 2) := by decide +kernel
theorem dX11_depth_41 : decode cX11_depth 41 = .ok (.iload_n 2, 1) := by decide +kernel
theorem dX11_depth_42 : decode cX11_depth 42 = .ok (.imul, 1) := by decide +kernel
theorem dX11_depth_43 : decode cX11_depth 43 = .ok (.iload_n 1, 1) := by decide +kernel
theorem dX11_depth_44 : decode cX11_depth 44 = .ok (.iadd, 1) := by decide +kernel
theorem dX11_depth_45 : decode cX11_depth 45 = .ok (.iload_n 3, 1) := by decide +kernel
theorem dX11_depth_46 : decode cX11_depth 46 = .ok (.iastore, 1) := by decide +kernel
theorem dX11_depth_47 : decode cX11_depth 47 = .ok (.iload 4, 2) := by decide +kernel
theorem dX11_depth_49 : decode cX11_depth 49 = .ok (.ireturn, 1) := by decide +kernel
theorem dX11_isShip_0 : decode cX11_isShip 0 = .ok (.iload_n 1, 1) := by decide +kernel
theorem dX11_isShip_1 : decode cX11_isShip 1 = .ok (.ifCond .lt 15, 3) := by decide +kernel
theorem dX11_isShip_4 : decode cX11_isShip 4 = .ok (.iload_n 1, 1) := by decide +kernel
theorem dX11_isShip_5 : decode cX11_isShip 5 = .ok (.aload_n 0, 1) := by decide +kernel
theorem dX11_isShip_6 : decode cX11_isShip 6 = .ok (.getfield 248, 3) := by decide +kernel
theorem dX11_isShip_9 : decode cX11_isShip 9 = .ok (.if_icmp .ge 7, 3) := by decide +kernel
theorem dX11_isShip_12 : decode cX11_isShip 12 = .ok (.iconst 1, 1) := by decide +kernel
theorem dX11_isShip_13 : decode cX11_isShip 13 = .ok (.goto 4, 3) := by decide +kernel
theorem dX11_isShip_16 : decode cX11_isShip 16 = .ok (.iconst 0, 1) := by decide +kernel
theorem dX11_isShip_17 : decode cX11_isShip 17 = .ok (.ireturn, 1) := by decide +kernel
theorem dX11_ship_0 : decode cX11_ship 0 = .ok (.aload_n 0, 1) := by decide +kernel
theorem dX11_ship_1 : decode cX11_ship 1 = .ok (.getfield 248, 3) := by decide +kernel
theorem dX11_ship_4 : decode cX11_ship 4 = .ok (.bipush 40, 2) := by decide +kernel
theorem dX11_ship_6 : decode cX11_ship 6 = .ok (.if_icmp .eq 47, 3) := by decide +kernel
theorem dX11_ship_9 : decode cX11_ship 9 = .ok (.iload_n 1, 1) := by decide +kernel
theorem dX11_ship_10 : decode cX11_ship 10 = .ok (.invokestatic 251, 3) := by decide +kernel
theorem dX11_ship_13 : decode cX11_ship 13 = .ok (.ifCond .eq 40, 3) := by decide +kernel
theorem dX11_ship_16 : decode cX11_ship 16 = .ok (.iload_n 2, 1) := by decide +kernel
theorem dX11_ship_17 : decode cX11_ship 17 = .ok (.i2l, 1) := by decide +kernel
theorem dX11_ship_18 : decode cX11_ship 18 = .ok (.lconst 0, 1) := by decide +kernel
theorem dX11_ship_19 : decode cX11_ship 19 = .ok (.ldc2_w 255, 3) := by decide +kernel
theorem dX11_ship_22 : decode cX11_ship 22 = .ok (.invokestatic 233, 3) := by decide +kernel
theorem dX11_ship_25 : decode cX11_ship 25 = .ok (.ifCond .eq 28, 3) := by decide +kernel
theorem dX11_ship_28 : decode cX11_ship 28 = .ok (.iload_n 3, 1) := by decide +kernel
theorem dX11_ship_29 : decode cX11_ship 29 = .ok (.i2l, 1) := by decide +kernel
theorem dX11_ship_30 : decode cX11_ship 30 = .ok (.lconst 1, 1) := by decide +kernel
theorem dX11_ship_31 : decode cX11_ship 31 = .ok (.ldc2_w 257, 3) := by decide +kernel
theorem dX11_ship_34 : decode cX11_ship 34 = .ok (.invokestatic 233, 3) := by decide +kernel
theorem dX11_ship_37 : decode cX11_ship 37 = .ok (.ifCond .eq 16, 3) := by decide +kernel
theorem dX11_ship_40 : decode cX11_ship 40 = .ok (.iload 4, 2) := by decide +kernel
theorem dX11_ship_42 : decode cX11_ship 42 = .ok (.i2l, 1) := by decide +kernel
theorem dX11_ship_43 : decode cX11_ship 43 = .ok (.lconst 0, 1) := by decide +kernel
theorem dX11_ship_44 : decode cX11_ship 44 = .ok (.ldc2_w 259, 3) := by decide +kernel
theorem dX11_ship_47 : decode cX11_ship 47 = .ok (.invokestatic 233, 3) := by decide +kernel
theorem dX11_ship_50 : decode cX11_ship 50 = .ok (.ifCond .ne 5, 3) := by decide +kernel
theorem dX11_ship_53 : decode cX11_ship 53 = .ok (.iconst (-1), 1) := by decide +kernel
theorem dX11_ship_54 : decode cX11_ship 54 = .ok (.ireturn, 1) := by decide +kernel
theorem dX11_ship_55 : decode cX11_ship 55 = .ok (.aload_n 0, 1) := by decide +kernel
theorem dX11_ship_56 : decode cX11_ship 56 = .ok (.getfield 13, 3) := by decide +kernel
theorem dX11_ship_59 : decode cX11_ship 59 = .ok (.aload_n 0, 1) := by decide +kernel
theorem dX11_ship_60 : decode cX11_ship 60 = .ok (.getfield 248, 3) := by decide +kernel
theorem dX11_ship_63 : decode cX11_ship 63 = .ok (.iload_n 1, 1) := by decide +kernel
theorem dX11_ship_64 : decode cX11_ship 64 = .ok (.iastore, 1) := by decide +kernel
theorem dX11_ship_65 : decode cX11_ship 65 = .ok (.aload_n 0, 1) := by decide +kernel
theorem dX11_ship_66 : decode cX11_ship 66 = .ok (.getfield 16, 3) := by decide +kernel
theorem dX11_ship_69 : decode cX11_ship 69 = .ok (.aload_n 0, 1) := by decide +kernel
theorem dX11_ship_70 : decode cX11_ship 70 = .ok (.getfield 248, 3) := by decide +kernel
theorem dX11_ship_73 : decode cX11_ship 73 = .ok (.iload_n 2, 1) := by decide +kernel
theorem dX11_ship_74 : decode cX11_ship 74 = .ok (.iastore, 1) := by decide +kernel
theorem dX11_ship_75 : decode cX11_ship 75 = .ok (.aload_n 0, 1) := by decide +kernel
theorem dX11_ship_76 : decode cX11_ship 76 = .ok (.getfield 19, 3) := by decide +kernel
theorem dX11_ship_79 : decode cX11_ship 79 = .ok (.aload_n 0, 1) := by decide +kernel
theorem dX11_ship_80 : decode cX11_ship 80 = .ok (.getfield 248, 3) := by decide +kernel
theorem dX11_ship_83 : decode cX11_ship 83 = .ok (.iload_n 3, 1) := by decide +kernel
theorem dX11_ship_84 : decode cX11_ship 84 = .ok (.iastore, 1) := by decide +kernel
theorem dX11_ship_85 : decode cX11_ship 85 = .ok (.aload_n 0, 1) := by decide +kernel
theorem dX11_ship_86 : decode cX11_ship 86 = .ok (.getfield 22, 3) := by decide +kernel
theorem dX11_ship_89 : decode cX11_ship 89 = .ok (.aload_n 0, 1) := by decide +kernel
theorem dX11_ship_90 : decode cX11_ship 90 = .ok (.getfield 248, 3) := by decide +kernel
theorem dX11_ship_93 : decode cX11_ship 93 = .ok (.iload 4, 2) := by decide +kernel
theorem dX11_ship_95 : decode cX11_ship 95 = .ok (.iastore, 1) := by decide +kernel
theorem dX11_ship_96 : decode cX11_ship 96 = .ok (.aload_n 0, 1) := by decide +kernel
theorem dX11_ship_97 : decode cX11_ship 97 = .ok (.dup, 1) := by decide +kernel
theorem dX11_ship_98 : decode cX11_ship 98 = .ok (.getfield 248, 3) := by decide +kernel
theorem dX11_ship_101 : decode cX11_ship 101 = .ok (.iconst 1, 1) := by decide +kernel
theorem dX11_ship_102 : decode cX11_ship 102 = .ok (.iadd, 1) := by decide +kernel
theorem dX11_ship_103 : decode cX11_ship 103 = .ok (.putfield 248, 3) := by decide +kernel
theorem dX11_ship_106 : decode cX11_ship 106 = .ok (.aload_n 0, 1) := by decide +kernel
theorem dX11_ship_107 : decode cX11_ship 107 = .ok (.getfield 248, 3) := by decide +kernel
theorem dX11_ship_110 : decode cX11_ship 110 = .ok (.iconst 1, 1) := by decide +kernel
theorem dX11_ship_111 : decode cX11_ship 111 = .ok (.isub, 1) := by decide +kernel
theorem dX11_ship_112 : decode cX11_ship 112 = .ok (.ireturn, 1) := by decide +kernel
theorem dX11_report_0 : decode cX11_report 0 = .ok (.aload_n 0, 1) := by decide +kernel
theorem dX11_report_1 : decode cX11_report 1 = .ok (.getfield 261, 3) := by decide +kernel
theorem dX11_report_4 : decode cX11_report 4 = .ok (.sipush 300, 3) := by decide +kernel
theorem dX11_report_7 : decode cX11_report 7 = .ok (.if_icmp .eq 43, 3) := by decide +kernel
theorem dX11_report_10 : decode cX11_report 10 = .ok (.aload_n 0, 1) := by decide +kernel
theorem dX11_report_11 : decode cX11_report 11 = .ok (.iload_n 1, 1) := by decide +kernel
theorem dX11_report_12 : decode cX11_report 12 = .ok (.invokevirtual 264, 3) := by decide +kernel
theorem dX11_report_15 : decode cX11_report 15 = .ok (.ifCond .eq 35, 3) := by decide +kernel
theorem dX11_report_18 : decode cX11_report 18 = .ok (.aload_n 0, 1) := by decide +kernel
theorem dX11_report_19 : decode cX11_report 19 = .ok (.iload_n 2, 1) := by decide +kernel
theorem dX11_report_20 : decode cX11_report 20 = .ok (.invokevirtual 264, 3) := by decide +kernel
theorem dX11_report_23 : decode cX11_report 23 = .ok (.ifCond .eq 27, 3) := by decide +kernel
theorem dX11_report_26 : decode cX11_report 26 = .ok (.iload_n 3, 1) := by decide +kernel
theorem dX11_report_27 : decode cX11_report 27 = .ok (.i2l, 1) := by decide +kernel
theorem dX11_report_28 : decode cX11_report 28 = .ok (.lconst 0, 1) := by decide +kernel
theorem dX11_report_29 : decode cX11_report 29 = .ok (.aload_n 0, 1) := by decide +kernel
theorem dX11_report_30 : decode cX11_report 30 = .ok (.getfield 237, 3) := by decide +kernel
theorem dX11_report_33 : decode cX11_report 33 = .ok (.i2l, 1) := by decide +kernel
theorem dX11_report_34 : decode cX11_report 34 = .ok (.invokestatic 233, 3) := by decide +kernel
theorem dX11_report_37 : decode cX11_report 37 = .ok (.ifCond .eq 13, 3) := by decide +kernel
theorem dX11_report_40 : decode cX11_report 40 = .ok (.iload 4, 2) := by decide +kernel
theorem dX11_report_42 : decode cX11_report 42 = .ok (.iload 5, 2) := by decide +kernel
theorem dX11_report_44 : decode cX11_report 44 = .ok (.invokestatic 242, 3) := by decide +kernel
theorem dX11_report_47 : decode cX11_report 47 = .ok (.ifCond .ne 5, 3) := by decide +kernel
theorem dX11_report_50 : decode cX11_report 50 = .ok (.iconst (-1), 1) := by decide +kernel
theorem dX11_report_51 : decode cX11_report 51 = .ok (.ireturn, 1) := by decide +kernel
theorem dX11_report_52 : decode cX11_report 52 = .ok (.aload_n 0, 1) := by decide +kernel
theorem dX11_report_53 : decode cX11_report 53 = .ok (.getfield 25, 3) := by decide +kernel
theorem dX11_report_56 : decode cX11_report 56 = .ok (.aload_n 0, 1) := by decide +kernel
theorem dX11_report_57 : decode cX11_report 57 = .ok (.getfield 261, 3) := by decide +kernel
theorem dX11_report_60 : decode cX11_report 60 = .ok (.iload_n 1, 1) := by decide +kernel
theorem dX11_report_61 : decode cX11_report 61 = .ok (.iastore, 1) := by decide +kernel
theorem dX11_report_62 : decode cX11_report 62 = .ok (.aload_n 0, 1) := by decide +kernel
theorem dX11_report_63 : decode cX11_report 63 = .ok (.getfield 28, 3) := by decide +kernel
theorem dX11_report_66 : decode cX11_report 66 = .ok (.aload_n 0, 1) := by decide +kernel
theorem dX11_report_67 : decode cX11_report 67 = .ok (.getfield 261, 3) := by decide +kernel
theorem dX11_report_70 : decode cX11_report 70 = .ok (.iload_n 2, 1) := by decide +kernel
theorem dX11_report_71 : decode cX11_report 71 = .ok (.iastore, 1) := by decide +kernel
theorem dX11_report_72 : decode cX11_report 72 = .ok (.aload_n 0, 1) := by decide +kernel
theorem dX11_report_73 : decode cX11_report 73 = .ok (.getfield 31, 3) := by decide +kernel
theorem dX11_report_76 : decode cX11_report 76 = .ok (.aload_n 0, 1) := by decide +kernel
theorem dX11_report_77 : decode cX11_report 77 = .ok (.getfield 261, 3) := by decide +kernel
theorem dX11_report_80 : decode cX11_report 80 = .ok (.iload_n 3, 1) := by decide +kernel
theorem dX11_report_81 : decode cX11_report 81 = .ok (.iastore, 1) := by decide +kernel
theorem dX11_report_82 : decode cX11_report 82 = .ok (.aload_n 0, 1) := by decide +kernel
theorem dX11_report_83 : decode cX11_report 83 = .ok (.getfield 34, 3) := by decide +kernel
theorem dX11_report_86 : decode cX11_report 86 = .ok (.aload_n 0, 1) := by decide +kernel
theorem dX11_report_87 : decode cX11_report 87 = .ok (.getfield 261, 3) := by decide +kernel
theorem dX11_report_90 : decode cX11_report 90 = .ok (.iload 4, 2) := by decide +kernel
theorem dX11_report_92 : decode cX11_report 92 = .ok (.iastore, 1) := by decide +kernel
theorem dX11_report_93 : decode cX11_report 93 = .ok (.aload_n 0, 1) := by decide +kernel
theorem dX11_report_94 : decode cX11_report 94 = .ok (.getfield 37, 3) := by decide +kernel
theorem dX11_report_97 : decode cX11_report 97 = .ok (.aload_n 0, 1) := by decide +kernel
theorem dX11_report_98 : decode cX11_report 98 = .ok (.getfield 261, 3) := by decide +kernel
theorem dX11_report_101 : decode cX11_report 101 = .ok (.iload 5, 2) := by decide +kernel
theorem dX11_report_103 : decode cX11_report 103 = .ok (.iastore, 1) := by decide +kernel
theorem dX11_report_104 : decode cX11_report 104 = .ok (.aload_n 0, 1) := by decide +kernel
theorem dX11_report_105 : decode cX11_report 105 = .ok (.getfield 40, 3) := by decide +kernel
theorem dX11_report_108 : decode cX11_report 108 = .ok (.aload_n 0, 1) := by decide +kernel
theorem dX11_report_109 : decode cX11_report 109 = .ok (.getfield 261, 3) := by decide +kernel
theorem dX11_report_112 : decode cX11_report 112 = .ok (.aload_n 0, 1) := by decide +kernel
theorem dX11_report_113 : decode cX11_report 113 = .ok (.getfield 237, 3) := by decide +kernel
theorem dX11_report_116 : decode cX11_report 116 = .ok (.iastore, 1) := by decide +kernel
theorem dX11_report_117 : decode cX11_report 117 = .ok (.aload_n 0, 1) := by decide +kernel
theorem dX11_report_118 : decode cX11_report 118 = .ok (.dup, 1) := by decide +kernel
theorem dX11_report_119 : decode cX11_report 119 = .ok (.getfield 261, 3) := by decide +kernel
theorem dX11_report_122 : decode cX11_report 122 = .ok (.iconst 1, 1) := by decide +kernel
theorem dX11_report_123 : decode cX11_report 123 = .ok (.iadd, 1) := by decide +kernel
theorem dX11_report_124 : decode cX11_report 124 = .ok (.putfield 261, 3) := by decide +kernel
theorem dX11_report_127 : decode cX11_report 127 = .ok (.aload_n 0, 1) := by decide +kernel
theorem dX11_report_128 : decode cX11_report 128 = .ok (.getfield 261, 3) := by decide +kernel
theorem dX11_report_131 : decode cX11_report 131 = .ok (.iconst 1, 1) := by decide +kernel
theorem dX11_report_132 : decode cX11_report 132 = .ok (.isub, 1) := by decide +kernel
theorem dX11_report_133 : decode cX11_report 133 = .ok (.ireturn, 1) := by decide +kernel
theorem dX11_whereIs_0 : decode cX11_whereIs 0 = .ok (.iconst (-1), 1) := by decide +kernel
theorem dX11_whereIs_1 : decode cX11_whereIs 1 = .ok (.istore 4, 2) := by decide +kernel
theorem dX11_whereIs_3 : decode cX11_whereIs 3 = .ok (.iconst 0, 1) := by decide +kernel
theorem dX11_whereIs_4 : decode cX11_whereIs 4 = .ok (.istore 5, 2) := by decide +kernel
theorem dX11_whereIs_6 : decode cX11_whereIs 6 = .ok (.iload 5, 2) := by decide +kernel
theorem dX11_whereIs_8 : decode cX11_whereIs 8 = .ok (.aload_n 0, 1) := by decide +kernel
theorem dX11_whereIs_9 : decode cX11_whereIs 9 = .ok (.getfield 261, 3) := by decide +kernel
theorem dX11_whereIs_12 : decode cX11_whereIs 12 = .ok (.if_icmp .ge 82, 3) := by decide +kernel
theorem dX11_whereIs_15 : decode cX11_whereIs 15 = .ok (.aload_n 0, 1) := by decide +kernel
theorem dX11_whereIs_16 : decode cX11_whereIs 16 = .ok (.getfield 28, 3) := by decide +kernel
theorem dX11_whereIs_19 : decode cX11_whereIs 19 = .ok (.iload 5, 2) := by decide +kernel
theorem dX11_whereIs_21 : decode cX11_whereIs 21 = .ok (.iaload, 1) := by decide +kernel
theorem dX11_whereIs_22 : decode cX11_whereIs 22 = .ok (.iload_n 1, 1) := by decide +kernel
theorem dX11_whereIs_23 : decode cX11_whereIs 23 = .ok (.if_icmp .ne 65, 3) := by decide +kernel
theorem dX11_whereIs_26 : decode cX11_whereIs 26 = .ok (.aload_n 0, 1) := by decide +kernel
theorem dX11_whereIs_27 : decode cX11_whereIs 27 = .ok (.getfield 25, 3) := by decide +kernel
theorem dX11_whereIs_30 : decode cX11_whereIs 30 = .ok (.iload 5, 2) := by decide +kernel
theorem dX11_whereIs_32 : decode cX11_whereIs 32 = .ok (.iaload, 1) := by decide +kernel
theorem dX11_whereIs_33 : decode cX11_whereIs 33 = .ok (.iload_n 1, 1) := by decide +kernel
theorem dX11_whereIs_34 : decode cX11_whereIs 34 = .ok (.if_icmp .ne 54, 3) := by decide +kernel
theorem dX11_whereIs_37 : decode cX11_whereIs 37 = .ok (.aload_n 0, 1) := by decide +kernel
theorem dX11_whereIs_38 : decode cX11_whereIs 38 = .ok (.getfield 40, 3) := by decide +kernel
theorem dX11_whereIs_41 : decode cX11_whereIs 41 = .ok (.iload 5, 2) := by decide +kernel
theorem dX11_whereIs_43 : decode cX11_whereIs 43 = .ok (.iaload, 1) := by decide +kernel
theorem dX11_whereIs_44 : decode cX11_whereIs 44 = .ok (.iload_n 3, 1) := by decide +kernel
theorem dX11_whereIs_45 : decode cX11_whereIs 45 = .ok (.if_icmp .gt 43, 3) := by decide +kernel
theorem dX11_whereIs_48 : decode cX11_whereIs 48 = .ok (.aload_n 0, 1) := by decide +kernel
theorem dX11_whereIs_49 : decode cX11_whereIs 49 = .ok (.getfield 31, 3) := by decide +kernel
theorem dX11_whereIs_52 : decode cX11_whereIs 52 = .ok (.iload 5, 2) := by decide +kernel
theorem dX11_whereIs_54 : decode cX11_whereIs 54 = .ok (.iaload, 1) := by decide +kernel
theorem dX11_whereIs_55 : decode cX11_whereIs 55 = .ok (.iload_n 2, 1) := by decide +kernel
theorem dX11_whereIs_56 : decode cX11_whereIs 56 = .ok (.if_icmp .le 6, 3) := by decide +kernel
theorem dX11_whereIs_59 : decode cX11_whereIs 59 = .ok (.goto 29, 3) := by decide +kernel
theorem dX11_whereIs_62 : decode cX11_whereIs 62 = .ok (.iload 4, 2) := by decide +kernel
theorem dX11_whereIs_64 : decode cX11_whereIs 64 = .ok (.ifCond .lt 20, 3) := by decide +kernel
theorem dX11_whereIs_67 : decode cX11_whereIs 67 = .ok (.aload_n 0, 1) := by decide +kernel
theorem dX11_whereIs_68 : decode cX11_whereIs 68 = .ok (.getfield 31, 3) := by decide +kernel
theorem dX11_whereIs_71 : decode cX11_whereIs 71 = .ok (.iload 5, 2) := by decide +kernel
theorem dX11_whereIs_73 : decode cX11_whereIs 73 = .ok (.iaload, 1) := by decide +kernel
theorem dX11_whereIs_74 : decode cX11_whereIs 74 = .ok (.aload_n 0, 1) := by decide +kernel
theorem dX11_whereIs_75 : decode cX11_whereIs 75 = .ok (.getfield 31, 3) := by decide +kernel
theorem dX11_whereIs_78 : decode cX11_whereIs 78 = .ok (.iload 4, 2) := by decide +kernel
theorem dX11_whereIs_80 : decode cX11_whereIs 80 = .ok (.iaload, 1) := by decide +kernel
theorem dX11_whereIs_81 : decode cX11_whereIs 81 = .ok (.if_icmp .lt 7, 3) := by decide +kernel
theorem dX11_whereIs_84 : decode cX11_whereIs 84 = .ok (.iload 5, 2) := by decide +kernel
theorem dX11_whereIs_86 : decode cX11_whereIs 86 = .ok (.istore 4, 2) := by decide +kernel
theorem dX11_whereIs_88 : decode cX11_whereIs 88 = .ok (.iinc 5 1, 3) := by decide +kernel
theorem dX11_whereIs_91 : decode cX11_whereIs 91 = .ok (.goto (-85), 3) := by decide +kernel
theorem dX11_whereIs_94 : decode cX11_whereIs 94 = .ok (.iload 4, 2) := by decide +kernel
theorem dX11_whereIs_96 : decode cX11_whereIs 96 = .ok (.ifCond .ge 7, 3) := by decide +kernel
theorem dX11_whereIs_99 : decode cX11_whereIs 99 = .ok (.iconst (-1), 1) := by decide +kernel
theorem dX11_whereIs_100 : decode cX11_whereIs 100 = .ok (.goto 21, 3) := by decide +kernel
theorem dX11_whereIs_103 : decode cX11_whereIs 103 = .ok (.bipush 24, 2) := by decide +kernel
theorem dX11_whereIs_105 : decode cX11_whereIs 105 = .ok (.aload_n 0, 1) := by decide +kernel
theorem dX11_whereIs_106 : decode cX11_whereIs 106 = .ok (.getfield 37, 3) := by decide +kernel
theorem dX11_whereIs_109 : decode cX11_whereIs 109 = .ok (.iload 4, 2) := by decide +kernel
theorem dX11_whereIs_111 : decode cX11_whereIs 111 = .ok (.iaload, 1) := by decide +kernel
theorem dX11_whereIs_112 : decode cX11_whereIs 112 = .ok (.imul, 1) := by decide +kernel
theorem dX11_whereIs_113 : decode cX11_whereIs 113 = .ok (.aload_n 0, 1) := by decide +kernel
theorem dX11_whereIs_114 : decode cX11_whereIs 114 = .ok (.getfield 34, 3) := by decide +kernel
theorem dX11_whereIs_117 : decode cX11_whereIs 117 = .ok (.iload 4, 2) := by decide +kernel
theorem dX11_whereIs_119 : decode cX11_whereIs 119 = .ok (.iaload, 1) := by decide +kernel
theorem dX11_whereIs_120 : decode cX11_whereIs 120 = .ok (.iadd, 1) := by decide +kernel
theorem dX11_whereIs_121 : decode cX11_whereIs 121 = .ok (.ireturn, 1) := by decide +kernel
theorem dX11_where_0 : decode cX11_where 0 = .ok (.aload_n 0, 1) := by decide +kernel
theorem dX11_where_1 : decode cX11_where 1 = .ok (.iload_n 1, 1) := by decide +kernel
theorem dX11_where_2 : decode cX11_where 2 = .ok (.invokevirtual 264, 3) := by decide +kernel
theorem dX11_where_5 : decode cX11_where 5 = .ok (.ifCond .eq 27, 3) := by decide +kernel
theorem dX11_where_8 : decode cX11_where 8 = .ok (.iload_n 2, 1) := by decide +kernel
theorem dX11_where_9 : decode cX11_where 9 = .ok (.invokestatic 267, 3) := by decide +kernel
theorem dX11_where_12 : decode cX11_where 12 = .ok (.ifCond .eq 20, 3) := by decide +kernel
theorem dX11_where_15 : decode cX11_where 15 = .ok (.iload_n 3, 1) := by decide +kernel
theorem dX11_where_16 : decode cX11_where 16 = .ok (.invokestatic 267, 3) := by decide +kernel
theorem dX11_where_19 : decode cX11_where 19 = .ok (.ifCond .eq 13, 3) := by decide +kernel
theorem dX11_where_22 : decode cX11_where 22 = .ok (.aload_n 0, 1) := by decide +kernel
theorem dX11_where_23 : decode cX11_where 23 = .ok (.iload_n 1, 1) := by decide +kernel
theorem dX11_where_24 : decode cX11_where 24 = .ok (.iload_n 2, 1) := by decide +kernel
theorem dX11_where_25 : decode cX11_where 25 = .ok (.iload_n 3, 1) := by decide +kernel
theorem dX11_where_26 : decode cX11_where 26 = .ok (.invokevirtual 270, 3) := by decide +kernel
theorem dX11_where_29 : decode cX11_where 29 = .ok (.goto 4, 3) := by decide +kernel
theorem dX11_where_32 : decode cX11_where 32 = .ok (.iconst (-1), 1) := by decide +kernel
theorem dX11_where_33 : decode cX11_where 33 = .ok (.ireturn, 1) := by decide +kernel
theorem dX11_canBoth_0 : decode cX11_canBoth 0 = .ok (.aload_n 0, 1) := by decide +kernel
theorem dX11_canBoth_1 : decode cX11_canBoth 1 = .ok (.getfield 34, 3) := by decide +kernel
theorem dX11_canBoth_4 : decode cX11_canBoth 4 = .ok (.iload_n 1, 1) := by decide +kernel
theorem dX11_canBoth_5 : decode cX11_canBoth 5 = .ok (.iaload, 1) := by decide +kernel
theorem dX11_canBoth_6 : decode cX11_canBoth 6 = .ok (.aload_n 0, 1) := by decide +kernel
theorem dX11_canBoth_7 : decode cX11_canBoth 7 = .ok (.getfield 34, 3) := by decide +kernel
theorem dX11_canBoth_10 : decode cX11_canBoth 10 = .ok (.iload_n 2, 1) := by decide +kernel
theorem dX11_canBoth_11 : decode cX11_canBoth 11 = .ok (.iaload, 1) := by decide +kernel
theorem dX11_canBoth_12 : decode cX11_canBoth 12 = .ok (.isub, 1) := by decide +kernel
theorem dX11_canBoth_13 : decode cX11_canBoth 13 = .ok (.invokestatic 274, 3) := by decide +kernel
theorem dX11_canBoth_16 : decode cX11_canBoth 16 = .ok (.istore 4, 2) := by decide +kernel
theorem dX11_canBoth_18 : decode cX11_canBoth 18 = .ok (.aload_n 0, 1) := by decide +kernel
theorem dX11_canBoth_19 : decode cX11_canBoth 19 = .ok (.getfield 37, 3) := by decide +kernel
theorem dX11_canBoth_22 : decode cX11_canBoth 22 = .ok (.iload_n 1, 1) := by decide +kernel
theorem dX11_canBoth_23 : decode cX11_canBoth 23 = .ok (.iaload, 1) := by decide +kernel
theorem dX11_canBoth_24 : decode cX11_canBoth 24 = .ok (.aload_n 0, 1) := by decide +kernel
theorem dX11_canBoth_25 : decode cX11_canBoth 25 = .ok (.getfield 37, 3) := by decide +kernel
theorem dX11_canBoth_28 : decode cX11_canBoth 28 = .ok (.iload_n 2, 1) := by decide +kernel
theorem dX11_canBoth_29 : decode cX11_canBoth 29 = .ok (.iaload, 1) := by decide +kernel
theorem dX11_canBoth_30 : decode cX11_canBoth 30 = .ok (.isub, 1) := by decide +kernel
theorem dX11_canBoth_31 : decode cX11_canBoth 31 = .ok (.invokestatic 274, 3) := by decide +kernel
theorem dX11_canBoth_34 : decode cX11_canBoth 34 = .ok (.istore 5, 2) := by decide +kernel
theorem dX11_canBoth_36 : decode cX11_canBoth 36 = .ok (.iload 4, 2) := by decide +kernel
theorem dX11_canBoth_38 : decode cX11_canBoth 38 = .ok (.iload 5, 2) := by decide +kernel
theorem dX11_canBoth_40 : decode cX11_canBoth 40 = .ok (.if_icmp .le 8, 3) := by decide +kernel
theorem dX11_canBoth_43 : decode cX11_canBoth 43 = .ok (.iload 4, 2) := by decide +kernel
theorem dX11_canBoth_45 : decode cX11_canBoth 45 = .ok (.goto 5, 3) := by decide +kernel
theorem dX11_canBoth_48 : decode cX11_canBoth 48 = .ok (.iload 5, 2) := by decide +kernel
theorem dX11_canBoth_50 : decode cX11_canBoth 50 = .ok (.iload_n 3, 1) := by decide +kernel
theorem dX11_canBoth_51 : decode cX11_canBoth 51 = .ok (.aload_n 0, 1) := by decide +kernel
theorem dX11_canBoth_52 : decode cX11_canBoth 52 = .ok (.getfield 31, 3) := by decide +kernel
theorem dX11_canBoth_55 : decode cX11_canBoth 55 = .ok (.iload_n 1, 1) := by decide +kernel
theorem dX11_canBoth_56 : decode cX11_canBoth 56 = .ok (.iaload, 1) := by decide +kernel
theorem dX11_canBoth_57 : decode cX11_canBoth 57 = .ok (.aload_n 0, 1) := by decide +kernel
theorem dX11_canBoth_58 : decode cX11_canBoth 58 = .ok (.getfield 31, 3) := by decide +kernel
theorem dX11_canBoth_61 : decode cX11_canBoth 61 = .ok (.iload_n 2, 1) := by decide +kernel
theorem dX11_canBoth_62 : decode cX11_canBoth 62 = .ok (.iaload, 1) := by decide +kernel
theorem dX11_canBoth_63 : decode cX11_canBoth 63 = .ok (.isub, 1) := by decide +kernel
theorem dX11_canBoth_64 : decode cX11_canBoth 64 = .ok (.invokestatic 274, 3) := by decide +kernel
theorem dX11_canBoth_67 : decode cX11_canBoth 67 = .ok (.imul, 1) := by decide +kernel
theorem dX11_canBoth_68 : decode cX11_canBoth 68 = .ok (.if_icmp .gt 7, 3) := by decide +kernel
theorem dX11_canBoth_71 : decode cX11_canBoth 71 = .ok (.iconst 1, 1) := by decide +kernel
theorem dX11_canBoth_72 : decode cX11_canBoth 72 = .ok (.goto 4, 3) := by decide +kernel
theorem dX11_canBoth_75 : decode cX11_canBoth 75 = .ok (.iconst 0, 1) := by decide +kernel
theorem dX11_canBoth_76 : decode cX11_canBoth 76 = .ok (.ireturn, 1) := by decide +kernel
theorem dX11_chain_0 : decode cX11_chain 0 = .ok (.aload_n 0, 1) := by decide +kernel
theorem dX11_chain_1 : decode cX11_chain 1 = .ok (.iload_n 1, 1) := by decide +kernel
theorem dX11_chain_2 : decode cX11_chain 2 = .ok (.invokevirtual 264, 3) := by decide +kernel
theorem dX11_chain_5 : decode cX11_chain 5 = .ok (.ifCond .eq 10, 3) := by decide +kernel
theorem dX11_chain_8 : decode cX11_chain 8 = .ok (.iload_n 2, 1) := by decide +kernel
theorem dX11_chain_9 : decode cX11_chain 9 = .ok (.invokestatic 267, 3) := by decide +kernel
theorem dX11_chain_12 : decode cX11_chain 12 = .ok (.ifCond .ne 5, 3) := by decide +kernel
theorem dX11_chain_15 : decode cX11_chain 15 = .ok (.iconst (-1), 1) := by decide +kernel
theorem dX11_chain_16 : decode cX11_chain 16 = .ok (.ireturn, 1) := by decide +kernel
theorem dX11_chain_17 : decode cX11_chain 17 = .ok (.iconst 0, 1) := by decide +kernel
theorem dX11_chain_18 : decode cX11_chain 18 = .ok (.istore_n 3, 1) := by decide +kernel
theorem dX11_chain_19 : decode cX11_chain 19 = .ok (.iconst 0, 1) := by decide +kernel
theorem dX11_chain_20 : decode cX11_chain 20 = .ok (.istore 4, 2) := by decide +kernel
theorem dX11_chain_22 : decode cX11_chain 22 = .ok (.iload 4, 2) := by decide +kernel
theorem dX11_chain_24 : decode cX11_chain 24 = .ok (.aload_n 0, 1) := by decide +kernel
theorem dX11_chain_25 : decode cX11_chain 25 = .ok (.getfield 261, 3) := by decide +kernel
theorem dX11_chain_28 : decode cX11_chain 28 = .ok (.if_icmp .ge 100, 3) := by decide +kernel
theorem dX11_chain_31 : decode cX11_chain 31 = .ok (.aload_n 0, 1) := by decide +kernel
theorem dX11_chain_32 : decode cX11_chain 32 = .ok (.getfield 28, 3) := by decide +kernel
theorem dX11_chain_35 : decode cX11_chain 35 = .ok (.iload 4, 2) := by decide +kernel
theorem dX11_chain_37 : decode cX11_chain 37 = .ok (.iaload, 1) := by decide +kernel
theorem dX11_chain_38 : decode cX11_chain 38 = .ok (.iload_n 1, 1) := by decide +kernel
theorem dX11_chain_39 : decode cX11_chain 39 = .ok (.if_icmp .ne 83, 3) := by decide +kernel
theorem dX11_chain_42 : decode cX11_chain 42 = .ok (.aload_n 0, 1) := by decide +kernel
theorem dX11_chain_43 : decode cX11_chain 43 = .ok (.getfield 40, 3) := by decide +kernel
theorem dX11_chain_46 : decode cX11_chain 46 = .ok (.iload 4, 2) := by decide +kernel
theorem dX11_chain_48 : decode cX11_chain 48 = .ok (.iaload, 1) := by decide +kernel
theorem dX11_chain_49 : decode cX11_chain 49 = .ok (.iload_n 2, 1) := by decide +kernel
theorem dX11_chain_50 : decode cX11_chain 50 = .ok (.if_icmp .le 6, 3) := by decide +kernel
theorem dX11_chain_53 : decode cX11_chain 53 = .ok (.goto 69, 3) := by decide +kernel
theorem dX11_chain_56 : decode cX11_chain 56 = .ok (.iload_n 3, 1) := by decide +kernel
theorem dX11_chain_57 : decode cX11_chain 57 = .ok (.istore 5, 2) := by decide +kernel
theorem dX11_chain_59 : decode cX11_chain 59 = .ok (.iload 5, 2) := by decide +kernel
theorem dX11_chain_61 : decode cX11_chain 61 = .ok (.ifCond .le 49, 3) := by decide +kernel
theorem dX11_chain_64 : decode cX11_chain 64 = .ok (.aload_n 0, 1) := by decide +kernel
theorem dX11_chain_65 : decode cX11_chain 65 = .ok (.getfield 31, 3) := by decide +kernel
theorem dX11_chain_68 : decode cX11_chain 68 = .ok (.aload_n 0, 1) := by decide +kernel
theorem dX11_chain_69 : decode cX11_chain 69 = .ok (.getfield 46, 3) := by decide +kernel
theorem dX11_chain_72 : decode cX11_chain 72 = .ok (.iload 5, 2) := by decide +kernel
theorem dX11_chain_74 : decode cX11_chain 74 = .ok (.iconst 1, 1) := by decide +kernel
theorem dX11_chain_75 : decode cX11_chain 75 = .ok (.isub, 1) := by decide +kernel
theorem dX11_chain_76 : decode cX11_chain 76 = .ok (.iaload, 1) := by decide +kernel
theorem dX11_chain_77 : decode cX11_chain 77 = .ok (.iaload, 1) := by decide +kernel
theorem dX11_chain_78 : decode cX11_chain 78 = .ok (.aload_n 0, 1) := by decide +kernel
theorem dX11_chain_79 : decode cX11_chain 79 = .ok (.getfield 31, 3) := by decide +kernel
theorem dX11_chain_82 : decode cX11_chain 82 = .ok (.iload 4, 2) := by decide +kernel
theorem dX11_chain_84 : decode cX11_chain 84 = .ok (.iaload, 1) := by decide +kernel
theorem dX11_chain_85 : decode cX11_chain 85 = .ok (.if_icmp .le 25, 3) := by decide +kernel
theorem dX11_chain_88 : decode cX11_chain 88 = .ok (.aload_n 0, 1) := by decide +kernel
theorem dX11_chain_89 : decode cX11_chain 89 = .ok (.getfield 46, 3) := by decide +kernel
theorem dX11_chain_92 : decode cX11_chain 92 = .ok (.iload 5, 2) := by decide +kernel
theorem dX11_chain_94 : decode cX11_chain 94 = .ok (.aload_n 0, 1) := by decide +kernel
theorem dX11_chain_95 : decode cX11_chain 95 = .ok (.getfield 46, 3) := by decide +kernel
theorem dX11_chain_98 : decode cX11_chain 98 = .ok (.iload 5, 2) := by decide +kernel
theorem dX11_chain_100 : decode cX11_chain 100 = .ok (.iconst 1, 1) := by decide +kernel
theorem dX11_chain_101 : decode cX11_chain 101 = .ok (.isub, 1) := by decide +kernel
theorem dX11_chain_102 : decode cX11_chain 102 = .ok (.iaload, 1) := by decide +kernel
theorem dX11_chain_103 : decode cX11_chain 103 = .ok (.iastore, 1) := by decide +kernel
theorem dX11_chain_104 : decode cX11_chain 104 = .ok (.iinc 5 (-1), 3) := by decide +kernel
theorem dX11_chain_107 : decode cX11_chain 107 = .ok (.goto (-48), 3) := by decide +kernel
theorem dX11_chain_110 : decode cX11_chain 110 = .ok (.aload_n 0, 1) := by decide +kernel
theorem dX11_chain_111 : decode cX11_chain 111 = .ok (.getfield 46, 3) := by decide +kernel
theorem dX11_chain_114 : decode cX11_chain 114 = .ok (.iload 5, 2) := by decide +kernel
theorem dX11_chain_116 : decode cX11_chain 116 = .ok (.iload 4, 2) := by decide +kernel
theorem dX11_chain_118 : decode cX11_chain 118 = .ok (.iastore, 1) := by decide +kernel
theorem dX11_chain_119 : decode cX11_chain 119 = .ok (.iinc 3 1, 3) := by decide +kernel
theorem dX11_chain_122 : decode cX11_chain 122 = .ok (.iinc 4 1, 3) := by decide +kernel
theorem dX11_chain_125 : decode cX11_chain 125 = .ok (.goto (-103), 3) := by decide +kernel
theorem dX11_chain_128 : decode cX11_chain 128 = .ok (.iconst 0, 1) := by decide +kernel
theorem dX11_chain_129 : decode cX11_chain 129 = .ok (.istore 4, 2) := by decide +kernel
theorem dX11_chain_131 : decode cX11_chain 131 = .ok (.iload_n 3, 1) := by decide +kernel
theorem dX11_chain_132 : decode cX11_chain 132 = .ok (.iconst 1, 1) := by decide +kernel
theorem dX11_chain_133 : decode cX11_chain 133 = .ok (.isub, 1) := by decide +kernel
theorem dX11_chain_134 : decode cX11_chain 134 = .ok (.istore 5, 2) := by decide +kernel
theorem dX11_chain_136 : decode cX11_chain 136 = .ok (.iload 5, 2) := by decide +kernel
theorem dX11_chain_138 : decode cX11_chain 138 = .ok (.ifCond .lt 123, 3) := by decide +kernel
theorem dX11_chain_141 : decode cX11_chain 141 = .ok (.aload_n 0, 1) := by decide +kernel
theorem dX11_chain_142 : decode cX11_chain 142 = .ok (.getfield 49, 3) := by decide +kernel
theorem dX11_chain_145 : decode cX11_chain 145 = .ok (.iload 5, 2) := by decide +kernel
theorem dX11_chain_147 : decode cX11_chain 147 = .ok (.iconst 1, 1) := by decide +kernel
theorem dX11_chain_148 : decode cX11_chain 148 = .ok (.iastore, 1) := by decide +kernel
theorem dX11_chain_149 : decode cX11_chain 149 = .ok (.iload 5, 2) := by decide +kernel
theorem dX11_chain_151 : decode cX11_chain 151 = .ok (.iconst 1, 1) := by decide +kernel
theorem dX11_chain_152 : decode cX11_chain 152 = .ok (.iadd, 1) := by decide +kernel
theorem dX11_chain_153 : decode cX11_chain 153 = .ok (.istore 6, 2) := by decide +kernel
theorem dX11_chain_155 : decode cX11_chain 155 = .ok (.iload 6, 2) := by decide +kernel
theorem dX11_chain_157 : decode cX11_chain 157 = .ok (.iload_n 3, 1) := by decide +kernel
theorem dX11_chain_158 : decode cX11_chain 158 = .ok (.if_icmp .ge 71, 3) := by decide +kernel
theorem dX11_chain_161 : decode cX11_chain 161 = .ok (.aload_n 0, 1) := by decide +kernel
theorem dX11_chain_162 : decode cX11_chain 162 = .ok (.getfield 49, 3) := by decide +kernel
theorem dX11_chain_165 : decode cX11_chain 165 = .ok (.iload 6, 2) := by decide +kernel
theorem dX11_chain_167 : decode cX11_chain 167 = .ok (.iaload, 1) := by decide +kernel
theorem dX11_chain_168 : decode cX11_chain 168 = .ok (.iconst 1, 1) := by decide +kernel
theorem dX11_chain_169 : decode cX11_chain 169 = .ok (.iadd, 1) := by decide +kernel
theorem dX11_chain_170 : decode cX11_chain 170 = .ok (.aload_n 0, 1) := by decide +kernel
theorem dX11_chain_171 : decode cX11_chain 171 = .ok (.getfield 49, 3) := by decide +kernel
theorem dX11_chain_174 : decode cX11_chain 174 = .ok (.iload 5, 2) := by decide +kernel
theorem dX11_chain_176 : decode cX11_chain 176 = .ok (.iaload, 1) := by decide +kernel
theorem dX11_chain_177 : decode cX11_chain 177 = .ok (.if_icmp .le 46, 3) := by decide +kernel
theorem dX11_chain_180 : decode cX11_chain 180 = .ok (.aload_n 0, 1) := by decide +kernel
theorem dX11_chain_181 : decode cX11_chain 181 = .ok (.aload_n 0, 1) := by decide +kernel
theorem dX11_chain_182 : decode cX11_chain 182 = .ok (.getfield 46, 3) := by decide +kernel
theorem dX11_chain_185 : decode cX11_chain 185 = .ok (.iload 5, 2) := by decide +kernel
theorem dX11_chain_187 : decode cX11_chain 187 = .ok (.iaload, 1) := by decide +kernel
theorem dX11_chain_188 : decode cX11_chain 188 = .ok (.aload_n 0, 1) := by decide +kernel
theorem dX11_chain_189 : decode cX11_chain 189 = .ok (.getfield 46, 3) := by decide +kernel
theorem dX11_chain_192 : decode cX11_chain 192 = .ok (.iload 6, 2) := by decide +kernel
theorem dX11_chain_194 : decode cX11_chain 194 = .ok (.iaload, 1) := by decide +kernel
theorem dX11_chain_195 : decode cX11_chain 195 = .ok (.aload_n 0, 1) := by decide +kernel
theorem dX11_chain_196 : decode cX11_chain 196 = .ok (.getfield 19, 3) := by decide +kernel
theorem dX11_chain_199 : decode cX11_chain 199 = .ok (.iload_n 1, 1) := by decide +kernel
theorem dX11_chain_200 : decode cX11_chain 200 = .ok (.iaload, 1) := by decide +kernel
theorem dX11_chain_201 : decode cX11_chain 201 = .ok (.invokevirtual 278, 3) := by decide +kernel
theorem dX11_chain_204 : decode cX11_chain 204 = .ok (.ifCond .eq 19, 3) := by decide +kernel
theorem dX11_chain_207 : decode cX11_chain 207 = .ok (.aload_n 0, 1) := by decide +kernel
theorem dX11_chain_208 : decode cX11_chain 208 = .ok (.getfield 49, 3) := by decide +kernel
theorem dX11_chain_211 : decode cX11_chain 211 = .ok (.iload 5, 2) := by decide +kernel
theorem dX11_chain_213 : decode cX11_chain 213 = .ok (.aload_n 0, 1) := by decide +kernel
theorem dX11_chain_214 : decode cX11_chain 214 = .ok (.getfield 49, 3) := by decide +kernel
theorem dX11_chain_217 : decode cX11_chain 217 = .ok (.iload 6, 2) := by decide +kernel
theorem dX11_chain_219 : decode cX11_chain 219 = .ok (.iaload, 1) := by decide +kernel
theorem dX11_chain_220 : decode cX11_chain 220 = .ok (.iconst 1, 1) := by decide +kernel
theorem dX11_chain_221 : decode cX11_chain 221 = .ok (.iadd, 1) := by decide +kernel
theorem dX11_chain_222 : decode cX11_chain 222 = .ok (.iastore, 1) := by decide +kernel
theorem dX11_chain_223 : decode cX11_chain 223 = .ok (.iinc 6 1, 3) := by decide +kernel
theorem dX11_chain_226 : decode cX11_chain 226 = .ok (.goto (-71), 3) := by decide +kernel
theorem dX11_chain_229 : decode cX11_chain 229 = .ok (.aload_n 0, 1) := by decide +kernel
theorem dX11_chain_230 : decode cX11_chain 230 = .ok (.getfield 49, 3) := by decide +kernel
theorem dX11_chain_233 : decode cX11_chain 233 = .ok (.iload 5, 2) := by decide +kernel
theorem dX11_chain_235 : decode cX11_chain 235 = .ok (.iaload, 1) := by decide +kernel
theorem dX11_chain_236 : decode cX11_chain 236 = .ok (.iload 4, 2) := by decide +kernel
theorem dX11_chain_238 : decode cX11_chain 238 = .ok (.if_icmp .le 13, 3) := by decide +kernel
theorem dX11_chain_241 : decode cX11_chain 241 = .ok (.aload_n 0, 1) := by decide +kernel
theorem dX11_chain_242 : decode cX11_chain 242 = .ok (.getfield 49, 3) := by decide +kernel
theorem dX11_chain_245 : decode cX11_chain 245 = .ok (.iload 5, 2) := by decide +kernel
theorem dX11_chain_247 : decode cX11_chain 247 = .ok (.iaload, 1) := by decide +kernel
theorem dX11_chain_248 : decode cX11_chain 248 = .ok (.goto 5, 3) := by decide +kernel
theorem dX11_chain_251 : decode cX11_chain 251 = .ok (.iload 4, 2) := by decide +kernel
theorem dX11_chain_253 : decode cX11_chain 253 = .ok (.istore 4, 2) := by decide +kernel
theorem dX11_chain_255 : decode cX11_chain 255 = .ok (.iinc 5 (-1), 3) := by decide +kernel
theorem dX11_chain_258 : decode cX11_chain 258 = .ok (.goto (-122), 3) := by decide +kernel
theorem dX11_chain_261 : decode cX11_chain 261 = .ok (.aload_n 0, 1) := by decide +kernel
theorem dX11_chain_262 : decode cX11_chain 262 = .ok (.iload 4, 2) := by decide +kernel
theorem dX11_chain_264 : decode cX11_chain 264 = .ok (.putfield 282, 3) := by decide +kernel
theorem dX11_chain_267 : decode cX11_chain 267 = .ok (.iconst (-1), 1) := by decide +kernel
theorem dX11_chain_268 : decode cX11_chain 268 = .ok (.istore 5, 2) := by decide +kernel
theorem dX11_chain_270 : decode cX11_chain 270 = .ok (.iload 4, 2) := by decide +kernel
theorem dX11_chain_272 : decode cX11_chain 272 = .ok (.istore 6, 2) := by decide +kernel
theorem dX11_chain_274 : decode cX11_chain 274 = .ok (.iconst 0, 1) := by decide +kernel
theorem dX11_chain_275 : decode cX11_chain 275 = .ok (.istore 7, 2) := by decide +kernel
theorem dX11_chain_277 : decode cX11_chain 277 = .ok (.iload 7, 2) := by decide +kernel
theorem dX11_chain_279 : decode cX11_chain 279 = .ok (.iload_n 3, 1) := by decide +kernel
theorem dX11_chain_280 : decode cX11_chain 280 = .ok (.if_icmp .ge 85, 3) := by decide +kernel
theorem dX11_chain_283 : decode cX11_chain 283 = .ok (.iload 6, 2) := by decide +kernel
theorem dX11_chain_285 : decode cX11_chain 285 = .ok (.ifCond .le 80, 3) := by decide +kernel
theorem dX11_chain_288 : decode cX11_chain 288 = .ok (.aload_n 0, 1) := by decide +kernel
theorem dX11_chain_289 : decode cX11_chain 289 = .ok (.getfield 49, 3) := by decide +kernel
theorem dX11_chain_292 : decode cX11_chain 292 = .ok (.iload 7, 2) := by decide +kernel
theorem dX11_chain_294 : decode cX11_chain 294 = .ok (.iaload, 1) := by decide +kernel
theorem dX11_chain_295 : decode cX11_chain 295 = .ok (.iload 6, 2) := by decide +kernel
theorem dX11_chain_297 : decode cX11_chain 297 = .ok (.if_icmp .ne 62, 3) := by decide +kernel
theorem dX11_chain_300 : decode cX11_chain 300 = .ok (.iload 5, 2) := by decide +kernel
theorem dX11_chain_302 : decode cX11_chain 302 = .ok (.ifCond .lt 33, 3) := by decide +kernel
theorem dX11_chain_305 : decode cX11_chain 305 = .ok (.aload_n 0, 1) := by decide +kernel
theorem dX11_chain_306 : decode cX11_chain 306 = .ok (.aload_n 0, 1) := by decide +kernel
theorem dX11_chain_307 : decode cX11_chain 307 = .ok (.getfield 46, 3) := by decide +kernel
theorem dX11_chain_310 : decode cX11_chain 310 = .ok (.iload 5, 2) := by decide +kernel
theorem dX11_chain_312 : decode cX11_chain 312 = .ok (.iaload, 1) := by decide +kernel
theorem dX11_chain_313 : decode cX11_chain 313 = .ok (.aload_n 0, 1) := by decide +kernel
theorem dX11_chain_314 : decode cX11_chain 314 = .ok (.getfield 46, 3) := by decide +kernel
theorem dX11_chain_317 : decode cX11_chain 317 = .ok (.iload 7, 2) := by decide +kernel
theorem dX11_chain_319 : decode cX11_chain 319 = .ok (.iaload, 1) := by decide +kernel
theorem dX11_chain_320 : decode cX11_chain 320 = .ok (.aload_n 0, 1) := by decide +kernel
theorem dX11_chain_321 : decode cX11_chain 321 = .ok (.getfield 19, 3) := by decide +kernel
theorem dX11_chain_324 : decode cX11_chain 324 = .ok (.iload_n 1, 1) := by decide +kernel
theorem dX11_chain_325 : decode cX11_chain 325 = .ok (.iaload, 1) := by decide +kernel
theorem dX11_chain_326 : decode cX11_chain 326 = .ok (.invokevirtual 278, 3) := by decide +kernel
theorem dX11_chain_329 : decode cX11_chain 329 = .ok (.ifCond .ne 6, 3) := by decide +kernel
theorem dX11_chain_332 : decode cX11_chain 332 = .ok (.goto 27, 3) := by decide +kernel
theorem dX11_chain_335 : decode cX11_chain 335 = .ok (.aload_n 0, 1) := by decide +kernel
theorem dX11_chain_336 : decode cX11_chain 336 = .ok (.getfield 43, 3) := by decide +kernel
theorem dX11_chain_339 : decode cX11_chain 339 = .ok (.iload 4, 2) := by decide +kernel
theorem dX11_chain_341 : decode cX11_chain 341 = .ok (.iload 6, 2) := by decide +kernel
theorem dX11_chain_343 : decode cX11_chain 343 = .ok (.isub, 1) := by decide +kernel
theorem dX11_chain_344 : decode cX11_chain 344 = .ok (.aload_n 0, 1) := by decide +kernel
theorem dX11_chain_345 : decode cX11_chain 345 = .ok (.getfield 46, 3) := by decide +kernel
theorem dX11_chain_348 : decode cX11_chain 348 = .ok (.iload 7, 2) := by decide +kernel
theorem dX11_chain_350 : decode cX11_chain 350 = .ok (.iaload, 1) := by decide +kernel
theorem dX11_chain_351 : decode cX11_chain 351 = .ok (.iastore, 1) := by decide +kernel
theorem dX11_chain_352 : decode cX11_chain 352 = .ok (.iload 7, 2) := by decide +kernel
theorem dX11_chain_354 : decode cX11_chain 354 = .ok (.istore 5, 2) := by decide +kernel
theorem dX11_chain_356 : decode cX11_chain 356 = .ok (.iinc 6 (-1), 3) := by decide +kernel
theorem dX11_chain_359 : decode cX11_chain 359 = .ok (.iinc 7 1, 3) := by decide +kernel
theorem dX11_chain_362 : decode cX11_chain 362 = .ok (.goto (-85), 3) := by decide +kernel
theorem dX11_chain_365 : decode cX11_chain 365 = .ok (.iload 4, 2) := by decide +kernel
theorem dX11_chain_367 : decode cX11_chain 367 = .ok (.ireturn, 1) := by decide +kernel
theorem dX11_chained_0 : decode cX11_chained 0 = .ok (.iload_n 1, 1) := by decide +kernel
theorem dX11_chained_1 : decode cX11_chained 1 = .ok (.i2l, 1) := by decide +kernel
theorem dX11_chained_2 : decode cX11_chained 2 = .ok (.lconst 0, 1) := by decide +kernel
theorem dX11_chained_3 : decode cX11_chained 3 = .ok (.aload_n 0, 1) := by decide +kernel
theorem dX11_chained_4 : decode cX11_chained 4 = .ok (.getfield 282, 3) := by decide +kernel
theorem dX11_chained_7 : decode cX11_chained 7 = .ok (.iconst 1, 1) := by decide +kernel
theorem dX11_chained_8 : decode cX11_chained 8 = .ok (.isub, 1) := by decide +kernel
theorem dX11_chained_9 : decode cX11_chained 9 = .ok (.i2l, 1) := by decide +kernel
theorem dX11_chained_10 : decode cX11_chained 10 = .ok (.invokestatic 233, 3) := by decide +kernel
theorem dX11_chained_13 : decode cX11_chained 13 = .ok (.ifCond .eq 12, 3) := by decide +kernel
theorem dX11_chained_16 : decode cX11_chained 16 = .ok (.aload_n 0, 1) := by decide +kernel
theorem dX11_chained_17 : decode cX11_chained 17 = .ok (.getfield 43, 3) := by decide +kernel
theorem dX11_chained_20 : decode cX11_chained 20 = .ok (.iload_n 1, 1) := by decide +kernel
theorem dX11_chained_21 : decode cX11_chained 21 = .ok (.iaload, 1) := by decide +kernel
theorem dX11_chained_22 : decode cX11_chained 22 = .ok (.goto 4, 3) := by decide +kernel
theorem dX11_chained_25 : decode cX11_chained 25 = .ok (.iconst (-1), 1) := by decide +kernel
theorem dX11_chained_26 : decode cX11_chained 26 = .ok (.ireturn, 1) := by decide +kernel
theorem dX11_point_0 : decode cX11_point 0 = .ok (.iload_n 1, 1) := by decide +kernel
theorem dX11_point_1 : decode cX11_point 1 = .ok (.invokestatic 251, 3) := by decide +kernel
theorem dX11_point_4 : decode cX11_point 4 = .ok (.ifCond .eq 22, 3) := by decide +kernel
theorem dX11_point_7 : decode cX11_point 7 = .ok (.aload_n 0, 1) := by decide +kernel
theorem dX11_point_8 : decode cX11_point 8 = .ok (.getfield 52, 3) := by decide +kernel
theorem dX11_point_11 : decode cX11_point 11 = .ok (.iload_n 1, 1) := by decide +kernel
theorem dX11_point_12 : decode cX11_point 12 = .ok (.iaload, 1) := by decide +kernel
theorem dX11_point_13 : decode cX11_point 13 = .ok (.bipush 16, 2) := by decide +kernel
theorem dX11_point_15 : decode cX11_point 15 = .ok (.if_icmp .eq 11, 3) := by decide +kernel
theorem dX11_point_18 : decode cX11_point 18 = .ok (.iload_n 2, 1) := by decide +kernel
theorem dX11_point_19 : decode cX11_point 19 = .ok (.iload_n 3, 1) := by decide +kernel
theorem dX11_point_20 : decode cX11_point 20 = .ok (.invokestatic 242, 3) := by decide +kernel
theorem dX11_point_23 : decode cX11_point 23 = .ok (.ifCond .ne 5, 3) := by decide +kernel
theorem dX11_point_26 : decode cX11_point 26 = .ok (.iconst (-1), 1) := by decide +kernel
theorem dX11_point_27 : decode cX11_point 27 = .ok (.ireturn, 1) := by decide +kernel
theorem dX11_point_28 : decode cX11_point 28 = .ok (.aload_n 0, 1) := by decide +kernel
theorem dX11_point_29 : decode cX11_point 29 = .ok (.getfield 55, 3) := by decide +kernel
theorem dX11_point_32 : decode cX11_point 32 = .ok (.bipush 16, 2) := by decide +kernel
theorem dX11_point_34 : decode cX11_point 34 = .ok (.iload_n 1, 1) := by decide +kernel
theorem dX11_point_35 : decode cX11_point 35 = .ok (.imul, 1) := by decide +kernel
theorem dX11_point_36 : decode cX11_point 36 = .ok (.aload_n 0, 1) := by decide +kernel
theorem dX11_point_37 : decode cX11_point 37 = .ok (.getfield 52, 3) := by decide +kernel
theorem dX11_point_40 : decode cX11_point 40 = .ok (.iload_n 1, 1) := by decide +kernel
theorem dX11_point_41 : decode cX11_point 41 = .ok (.iaload, 1) := by decide +kernel
theorem dX11_point_42 : decode cX11_point 42 = .ok (.iadd, 1) := by decide +kernel
theorem dX11_point_43 : decode cX11_point 43 = .ok (.iload_n 2, 1) := by decide +kernel
theorem dX11_point_44 : decode cX11_point 44 = .ok (.iastore, 1) := by decide +kernel
theorem dX11_point_45 : decode cX11_point 45 = .ok (.aload_n 0, 1) := by decide +kernel
theorem dX11_point_46 : decode cX11_point 46 = .ok (.getfield 58, 3) := by decide +kernel
theorem dX11_point_49 : decode cX11_point 49 = .ok (.bipush 16, 2) := by decide +kernel
theorem dX11_point_51 : decode cX11_point 51 = .ok (.iload_n 1, 1) := by decide +kernel
theorem dX11_point_52 : decode cX11_point 52 = .ok (.imul, 1) := by decide +kernel
theorem dX11_point_53 : decode cX11_point 53 = .ok (.aload_n 0, 1) := by decide +kernel
theorem dX11_point_54 : decode cX11_point 54 = .ok (.getfield 52, 3) := by decide +kernel
theorem dX11_point_57 : decode cX11_point 57 = .ok (.iload_n 1, 1) := by decide +kernel
theorem dX11_point_58 : decode cX11_point 58 = .ok (.iaload, 1) := by decide +kernel
theorem dX11_point_59 : decode cX11_point 59 = .ok (.iadd, 1) := by decide +kernel
theorem dX11_point_60 : decode cX11_point 60 = .ok (.iload_n 3, 1) := by decide +kernel
theorem dX11_point_61 : decode cX11_point 61 = .ok (.iastore, 1) := by decide +kernel
theorem dX11_point_62 : decode cX11_point 62 = .ok (.aload_n 0, 1) := by decide +kernel
theorem dX11_point_63 : decode cX11_point 63 = .ok (.getfield 52, 3) := by decide +kernel
theorem dX11_point_66 : decode cX11_point 66 = .ok (.iload_n 1, 1) := by decide +kernel
theorem dX11_point_67 : decode cX11_point 67 = .ok (.dup2, 1) := by decide +kernel
theorem dX11_point_68 : decode cX11_point 68 = .ok (.iaload, 1) := by decide +kernel
theorem dX11_point_69 : decode cX11_point 69 = .ok (.iconst 1, 1) := by decide +kernel
theorem dX11_point_70 : decode cX11_point 70 = .ok (.iadd, 1) := by decide +kernel
theorem dX11_point_71 : decode cX11_point 71 = .ok (.iastore, 1) := by decide +kernel
theorem dX11_point_72 : decode cX11_point 72 = .ok (.aload_n 0, 1) := by decide +kernel
theorem dX11_point_73 : decode cX11_point 73 = .ok (.getfield 52, 3) := by decide +kernel
theorem dX11_point_76 : decode cX11_point 76 = .ok (.iload_n 1, 1) := by decide +kernel
theorem dX11_point_77 : decode cX11_point 77 = .ok (.iaload, 1) := by decide +kernel
theorem dX11_point_78 : decode cX11_point 78 = .ok (.iconst 1, 1) := by decide +kernel
theorem dX11_point_79 : decode cX11_point 79 = .ok (.isub, 1) := by decide +kernel
theorem dX11_point_80 : decode cX11_point 80 = .ok (.ireturn, 1) := by decide +kernel
theorem dX11_chart_0 : decode cX11_chart 0 = .ok (.iload_n 1, 1) := by decide +kernel
theorem dX11_chart_1 : decode cX11_chart 1 = .ok (.i2l, 1) := by decide +kernel
theorem dX11_chart_2 : decode cX11_chart 2 = .ok (.ldc2_w 285, 3) := by decide +kernel
theorem dX11_chart_5 : decode cX11_chart 5 = .ok (.ldc2_w 257, 3) := by decide +kernel
theorem dX11_chart_8 : decode cX11_chart 8 = .ok (.invokestatic 233, 3) := by decide +kernel
theorem dX11_chart_11 : decode cX11_chart 11 = .ok (.ifCond .eq 17, 3) := by decide +kernel
theorem dX11_chart_14 : decode cX11_chart 14 = .ok (.iload_n 2, 1) := by decide +kernel
theorem dX11_chart_15 : decode cX11_chart 15 = .ok (.i2l, 1) := by decide +kernel
theorem dX11_chart_16 : decode cX11_chart 16 = .ok (.ldc2_w 285, 3) := by decide +kernel
theorem dX11_chart_19 : decode cX11_chart 19 = .ok (.ldc2_w 257, 3) := by decide +kernel
theorem dX11_chart_22 : decode cX11_chart 22 = .ok (.invokestatic 233, 3) := by decide +kernel
theorem dX11_chart_25 : decode cX11_chart 25 = .ok (.ifCond .ne 5, 3) := by decide +kernel
theorem dX11_chart_28 : decode cX11_chart 28 = .ok (.iconst 0, 1) := by decide +kernel
theorem dX11_chart_29 : decode cX11_chart 29 = .ok (.ireturn, 1) := by decide +kernel
theorem dX11_chart_30 : decode cX11_chart 30 = .ok (.aload_n 0, 1) := by decide +kernel
theorem dX11_chart_31 : decode cX11_chart 31 = .ok (.iload_n 1, 1) := by decide +kernel
theorem dX11_chart_32 : decode cX11_chart 32 = .ok (.putfield 287, 3) := by decide +kernel
theorem dX11_chart_35 : decode cX11_chart 35 = .ok (.aload_n 0, 1) := by decide +kernel
theorem dX11_chart_36 : decode cX11_chart 36 = .ok (.iload_n 2, 1) := by decide +kernel
theorem dX11_chart_37 : decode cX11_chart 37 = .ok (.putfield 290, 3) := by decide +kernel
theorem dX11_chart_40 : decode cX11_chart 40 = .ok (.iconst 1, 1) := by decide +kernel
theorem dX11_chart_41 : decode cX11_chart 41 = .ok (.ireturn, 1) := by decide +kernel
theorem dX11_isNear_0 : decode cX11_isNear 0 = .ok (.bipush 16, 2) := by decide +kernel
theorem dX11_isNear_2 : decode cX11_isNear 2 = .ok (.iload_n 1, 1) := by decide +kernel
theorem dX11_isNear_3 : decode cX11_isNear 3 = .ok (.imul, 1) := by decide +kernel
theorem dX11_isNear_4 : decode cX11_isNear 4 = .ok (.istore 6, 2) := by decide +kernel
theorem dX11_isNear_6 : decode cX11_isNear 6 = .ok (.iload 6, 2) := by decide +kernel
theorem dX11_isNear_8 : decode cX11_isNear 8 = .ok (.bipush 16, 2) := by decide +kernel
theorem dX11_isNear_10 : decode cX11_isNear 10 = .ok (.iload_n 1, 1) := by decide +kernel
theorem dX11_isNear_11 : decode cX11_isNear 11 = .ok (.imul, 1) := by decide +kernel
theorem dX11_isNear_12 : decode cX11_isNear 12 = .ok (.aload_n 0, 1) := by decide +kernel
theorem dX11_isNear_13 : decode cX11_isNear 13 = .ok (.getfield 52, 3) := by decide +kernel
theorem dX11_isNear_16 : decode cX11_isNear 16 = .ok (.iload_n 1, 1) := by decide +kernel
theorem dX11_isNear_17 : decode cX11_isNear 17 = .ok (.iaload, 1) := by decide +kernel
theorem dX11_isNear_18 : decode cX11_isNear 18 = .ok (.iadd, 1) := by decide +kernel
theorem dX11_isNear_19 : decode cX11_isNear 19 = .ok (.if_icmp .ge 81, 3) := by decide +kernel
theorem dX11_isNear_22 : decode cX11_isNear 22 = .ok (.iload_n 3, 1) := by decide +kernel
theorem dX11_isNear_23 : decode cX11_isNear 23 = .ok (.aload_n 0, 1) := by decide +kernel
theorem dX11_isNear_24 : decode cX11_isNear 24 = .ok (.getfield 55, 3) := by decide +kernel
theorem dX11_isNear_27 : decode cX11_isNear 27 = .ok (.iload 6, 2) := by decide +kernel
theorem dX11_isNear_29 : decode cX11_isNear 29 = .ok (.iaload, 1) := by decide +kernel
theorem dX11_isNear_30 : decode cX11_isNear 30 = .ok (.isub, 1) := by decide +kernel
theorem dX11_isNear_31 : decode cX11_isNear 31 = .ok (.iload_n 2, 1) := by decide +kernel
theorem dX11_isNear_32 : decode cX11_isNear 32 = .ok (.iconst 1, 1) := by decide +kernel
theorem dX11_isNear_33 : decode cX11_isNear 33 = .ok (.if_icmp .ne 10, 3) := by decide +kernel
theorem dX11_isNear_36 : decode cX11_isNear 36 = .ok (.aload_n 0, 1) := by decide +kernel
theorem dX11_isNear_37 : decode cX11_isNear 37 = .ok (.getfield 287, 3) := by decide +kernel
theorem dX11_isNear_40 : decode cX11_isNear 40 = .ok (.goto 4, 3) := by decide +kernel
theorem dX11_isNear_43 : decode cX11_isNear 43 = .ok (.iconst 0, 1) := by decide +kernel
theorem dX11_isNear_44 : decode cX11_isNear 44 = .ok (.isub, 1) := by decide +kernel
theorem dX11_isNear_45 : decode cX11_isNear 45 = .ok (.istore 7, 2) := by decide +kernel
theorem dX11_isNear_47 : decode cX11_isNear 47 = .ok (.iload 4, 2) := by decide +kernel
theorem dX11_isNear_49 : decode cX11_isNear 49 = .ok (.aload_n 0, 1) := by decide +kernel
theorem dX11_isNear_50 : decode cX11_isNear 50 = .ok (.getfield 58, 3) := by decide +kernel
theorem dX11_isNear_53 : decode cX11_isNear 53 = .ok (.iload 6, 2) := by decide +kernel
theorem dX11_isNear_55 : decode cX11_isNear 55 = .ok (.iaload, 1) := by decide +kernel
theorem dX11_isNear_56 : decode cX11_isNear 56 = .ok (.isub, 1) := by decide +kernel
theorem dX11_isNear_57 : decode cX11_isNear 57 = .ok (.iload_n 2, 1) := by decide +kernel
theorem dX11_isNear_58 : decode cX11_isNear 58 = .ok (.iconst 1, 1) := by decide +kernel
theorem dX11_isNear_59 : decode cX11_isNear 59 = .ok (.if_icmp .ne 10, 3) := by decide +kernel
theorem dX11_isNear_62 : decode cX11_isNear 62 = .ok (.aload_n 0, 1) := by decide +kernel
theorem dX11_isNear_63 : decode cX11_isNear 63 = .ok (.getfield 290, 3) := by decide +kernel
theorem dX11_isNear_66 : decode cX11_isNear 66 = .ok (.goto 4, 3) := by decide +kernel
theorem dX11_isNear_69 : decode cX11_isNear 69 = .ok (.iconst 0, 1) := by decide +kernel
theorem dX11_isNear_70 : decode cX11_isNear 70 = .ok (.isub, 1) := by decide +kernel
theorem dX11_isNear_71 : decode cX11_isNear 71 = .ok (.istore 8, 2) := by decide +kernel
theorem dX11_isNear_73 : decode cX11_isNear 73 = .ok (.iload 7, 2) := by decide +kernel
theorem dX11_isNear_75 : decode cX11_isNear 75 = .ok (.iload 7, 2) := by decide +kernel
theorem dX11_isNear_77 : decode cX11_isNear 77 = .ok (.imul, 1) := by decide +kernel
theorem dX11_isNear_78 : decode cX11_isNear 78 = .ok (.iload 8, 2) := by decide +kernel
theorem dX11_isNear_80 : decode cX11_isNear 80 = .ok (.iload 8, 2) := by decide +kernel
theorem dX11_isNear_82 : decode cX11_isNear 82 = .ok (.imul, 1) := by decide +kernel
theorem dX11_isNear_83 : decode cX11_isNear 83 = .ok (.iadd, 1) := by decide +kernel
theorem dX11_isNear_84 : decode cX11_isNear 84 = .ok (.iload 5, 2) := by decide +kernel
theorem dX11_isNear_86 : decode cX11_isNear 86 = .ok (.iload 5, 2) := by decide +kernel
theorem dX11_isNear_88 : decode cX11_isNear 88 = .ok (.imul, 1) := by decide +kernel
theorem dX11_isNear_89 : decode cX11_isNear 89 = .ok (.if_icmp .gt 5, 3) := by decide +kernel
theorem dX11_isNear_92 : decode cX11_isNear 92 = .ok (.iconst 1, 1) := by decide +kernel
theorem dX11_isNear_93 : decode cX11_isNear 93 = .ok (.ireturn, 1) := by decide +kernel
theorem dX11_isNear_94 : decode cX11_isNear 94 = .ok (.iinc 6 1, 3) := by decide +kernel
theorem dX11_isNear_97 : decode cX11_isNear 97 = .ok (.goto (-91), 3) := by decide +kernel
theorem dX11_isNear_100 : decode cX11_isNear 100 = .ok (.iconst 0, 1) := by decide +kernel
theorem dX11_isNear_101 : decode cX11_isNear 101 = .ok (.ireturn, 1) := by decide +kernel
theorem dX11_reachOf_0 : decode cX11_reachOf 0 = .ok (.aload_n 0, 1) := by decide +kernel
theorem dX11_reachOf_1 : decode cX11_reachOf 1 = .ok (.iload_n 2, 1) := by decide +kernel
theorem dX11_reachOf_2 : decode cX11_reachOf 2 = .ok (.iconst (-1), 1) := by decide +kernel
theorem dX11_reachOf_3 : decode cX11_reachOf 3 = .ok (.iconst (-1), 1) := by decide +kernel
theorem dX11_reachOf_4 : decode cX11_reachOf 4 = .ok (.iconst (-1), 1) := by decide +kernel
theorem dX11_reachOf_5 : decode cX11_reachOf 5 = .ok (.iconst 0, 1) := by decide +kernel
theorem dX11_reachOf_6 : decode cX11_reachOf 6 = .ok (.invokevirtual 293, 3) := by decide +kernel
theorem dX11_reachOf_9 : decode cX11_reachOf 9 = .ok (.aload_n 0, 1) := by decide +kernel
theorem dX11_reachOf_10 : decode cX11_reachOf 10 = .ok (.iload_n 1, 1) := by decide +kernel
theorem dX11_reachOf_11 : decode cX11_reachOf 11 = .ok (.iconst 0, 1) := by decide +kernel
theorem dX11_reachOf_12 : decode cX11_reachOf 12 = .ok (.iload_n 2, 1) := by decide +kernel
theorem dX11_reachOf_13 : decode cX11_reachOf 13 = .ok (.invokevirtual 297, 3) := by decide +kernel
theorem dX11_reachOf_16 : decode cX11_reachOf 16 = .ok (.istore_n 3, 1) := by decide +kernel
theorem dX11_reachOf_17 : decode cX11_reachOf 17 = .ok (.iload_n 3, 1) := by decide +kernel
theorem dX11_reachOf_18 : decode cX11_reachOf 18 = .ok (.ifCond .ge 5, 3) := by decide +kernel
theorem dX11_reachOf_21 : decode cX11_reachOf 21 = .ok (.iconst 3, 1) := by decide +kernel
theorem dX11_reachOf_22 : decode cX11_reachOf 22 = .ok (.ireturn, 1) := by decide +kernel
theorem dX11_reachOf_23 : decode cX11_reachOf 23 = .ok (.aload_n 0, 1) := by decide +kernel
theorem dX11_reachOf_24 : decode cX11_reachOf 24 = .ok (.aload_n 0, 1) := by decide +kernel
theorem dX11_reachOf_25 : decode cX11_reachOf 25 = .ok (.getfield 80, 3) := by decide +kernel
theorem dX11_reachOf_28 : decode cX11_reachOf 28 = .ok (.iload_n 3, 1) := by decide +kernel
theorem dX11_reachOf_29 : decode cX11_reachOf 29 = .ok (.iaload, 1) := by decide +kernel
theorem dX11_reachOf_30 : decode cX11_reachOf 30 = .ok (.aload_n 0, 1) := by decide +kernel
theorem dX11_reachOf_31 : decode cX11_reachOf 31 = .ok (.getfield 83, 3) := by decide +kernel
theorem dX11_reachOf_34 : decode cX11_reachOf 34 = .ok (.iload_n 3, 1) := by decide +kernel
theorem dX11_reachOf_35 : decode cX11_reachOf 35 = .ok (.iaload, 1) := by decide +kernel
theorem dX11_reachOf_36 : decode cX11_reachOf 36 = .ok (.iload_n 3, 1) := by decide +kernel
theorem dX11_reachOf_37 : decode cX11_reachOf 37 = .ok (.bipush 12, 2) := by decide +kernel
theorem dX11_reachOf_39 : decode cX11_reachOf 39 = .ok (.idiv, 1) := by decide +kernel
theorem dX11_reachOf_40 : decode cX11_reachOf 40 = .ok (.invokevirtual 300, 3) := by decide +kernel
theorem dX11_reachOf_43 : decode cX11_reachOf 43 = .ok (.lstore 4, 2) := by decide +kernel
theorem dX11_reachOf_45 : decode cX11_reachOf 45 = .ok (.lload 4, 2) := by decide +kernel
theorem dX11_reachOf_47 : decode cX11_reachOf 47 = .ok (.lconst 0, 1) := by decide +kernel
theorem dX11_reachOf_48 : decode cX11_reachOf 48 = .ok (.lcmp, 1) := by decide +kernel
theorem dX11_reachOf_49 : decode cX11_reachOf 49 = .ok (.ifCond .ge 7, 3) := by decide +kernel
theorem dX11_reachOf_52 : decode cX11_reachOf 52 = .ok (.iconst 0, 1) := by decide +kernel
theorem dX11_reachOf_53 : decode cX11_reachOf 53 = .ok (.goto 20, 3) := by decide +kernel
theorem dX11_reachOf_56 : decode cX11_reachOf 56 = .ok (.lload 4, 2) := by decide +kernel
theorem dX11_reachOf_58 : decode cX11_reachOf 58 = .ok (.ldc2_w 304, 3) := by decide +kernel
theorem dX11_reachOf_61 : decode cX11_reachOf 61 = .ok (.lcmp, 1) := by decide +kernel
theorem dX11_reachOf_62 : decode cX11_reachOf 62 = .ok (.ifCond .le 8, 3) := by decide +kernel
theorem dX11_reachOf_65 : decode cX11_reachOf 65 = .ok (.bipush 40, 2) := by decide +kernel
theorem dX11_reachOf_67 : decode cX11_reachOf 67 = .ok (.goto 6, 3) := by decide +kernel
theorem dX11_reachOf_70 : decode cX11_reachOf 70 = .ok (.lload 4, 2) := by decide +kernel
theorem dX11_reachOf_72 : decode cX11_reachOf 72 = .ok (.l2i, 1) := by decide +kernel
theorem dX11_reachOf_73 : decode cX11_reachOf 73 = .ok (.ireturn, 1) := by decide +kernel
theorem dX11_reach_0 : decode cX11_reach 0 = .ok (.iload_n 1, 1) := by decide +kernel
theorem dX11_reach_1 : decode cX11_reach 1 = .ok (.invokestatic 251, 3) := by decide +kernel
theorem dX11_reach_4 : decode cX11_reach 4 = .ok (.ifCond .eq 19, 3) := by decide +kernel
theorem dX11_reach_7 : decode cX11_reach 7 = .ok (.iload_n 2, 1) := by decide +kernel
theorem dX11_reach_8 : decode cX11_reach 8 = .ok (.invokestatic 267, 3) := by decide +kernel
theorem dX11_reach_11 : decode cX11_reach 11 = .ok (.ifCond .eq 12, 3) := by decide +kernel
theorem dX11_reach_14 : decode cX11_reach 14 = .ok (.aload_n 0, 1) := by decide +kernel
theorem dX11_reach_15 : decode cX11_reach 15 = .ok (.iload_n 1, 1) := by decide +kernel
theorem dX11_reach_16 : decode cX11_reach 16 = .ok (.iload_n 2, 1) := by decide +kernel
theorem dX11_reach_17 : decode cX11_reach 17 = .ok (.invokevirtual 306, 3) := by decide +kernel
theorem dX11_reach_20 : decode cX11_reach 20 = .ok (.goto 4, 3) := by decide +kernel
theorem dX11_reach_23 : decode cX11_reach 23 = .ok (.iconst (-1), 1) := by decide +kernel
theorem dX11_reach_24 : decode cX11_reach 24 = .ok (.ireturn, 1) := by decide +kernel
theorem dX11_within_0 : decode cX11_within 0 = .ok (.iload_n 1, 1) := by decide +kernel
theorem dX11_within_1 : decode cX11_within 1 = .ok (.invokestatic 251, 3) := by decide +kernel
theorem dX11_within_4 : decode cX11_within 4 = .ok (.ifCond .eq 30, 3) := by decide +kernel
theorem dX11_within_7 : decode cX11_within 7 = .ok (.iload_n 2, 1) := by decide +kernel
theorem dX11_within_8 : decode cX11_within 8 = .ok (.i2l, 1) := by decide +kernel
theorem dX11_within_9 : decode cX11_within 9 = .ok (.lconst 0, 1) := by decide +kernel
theorem dX11_within_10 : decode cX11_within 10 = .ok (.lconst 1, 1) := by decide +kernel
theorem dX11_within_11 : decode cX11_within 11 = .ok (.invokestatic 233, 3) := by decide +kernel
theorem dX11_within_14 : decode cX11_within 14 = .ok (.ifCond .eq 20, 3) := by decide +kernel
theorem dX11_within_17 : decode cX11_within 17 = .ok (.iload_n 3, 1) := by decide +kernel
theorem dX11_within_18 : decode cX11_within 18 = .ok (.iload 4, 2) := by decide +kernel
theorem dX11_within_20 : decode cX11_within 20 = .ok (.invokestatic 242, 3) := by decide +kernel
theorem dX11_within_23 : decode cX11_within 23 = .ok (.ifCond .eq 11, 3) := by decide +kernel
theorem dX11_within_26 : decode cX11_within 26 = .ok (.iload 5, 2) := by decide +kernel
theorem dX11_within_28 : decode cX11_within 28 = .ok (.invokestatic 267, 3) := by decide +kernel
theorem dX11_within_31 : decode cX11_within 31 = .ok (.ifCond .ne 5, 3) := by decide +kernel
theorem dX11_within_34 : decode cX11_within 34 = .ok (.iconst (-1), 1) := by decide +kernel
theorem dX11_within_35 : decode cX11_within 35 = .ok (.ireturn, 1) := by decide +kernel
theorem dX11_within_36 : decode cX11_within 36 = .ok (.aload_n 0, 1) := by decide +kernel
theorem dX11_within_37 : decode cX11_within 37 = .ok (.iload_n 1, 1) := by decide +kernel
theorem dX11_within_38 : decode cX11_within 38 = .ok (.iload_n 2, 1) := by decide +kernel
theorem dX11_within_39 : decode cX11_within 39 = .ok (.iload_n 3, 1) := by decide +kernel
theorem dX11_within_40 : decode cX11_within 40 = .ok (.iload 4, 2) := by decide +kernel
theorem dX11_within_42 : decode cX11_within 42 = .ok (.aload_n 0, 1) := by decide +kernel
theorem dX11_within_43 : decode cX11_within 43 = .ok (.iload_n 1, 1) := by decide +kernel
theorem dX11_within_44 : decode cX11_within 44 = .ok (.iload 5, 2) := by decide +kernel
theorem dX11_within_46 : decode cX11_within 46 = .ok (.invokevirtual 306, 3) := by decide +kernel
theorem dX11_within_49 : decode cX11_within 49 = .ok (.invokevirtual 310, 3) := by decide +kernel
theorem dX11_within_52 : decode cX11_within 52 = .ok (.ifCond .eq 7, 3) := by decide +kernel
theorem dX11_within_55 : decode cX11_within 55 = .ok (.iconst 1, 1) := by decide +kernel
theorem dX11_within_56 : decode cX11_within 56 = .ok (.goto 4, 3) := by decide +kernel
theorem dX11_within_59 : decode cX11_within 59 = .ok (.iconst 0, 1) := by decide +kernel
theorem dX11_within_60 : decode cX11_within 60 = .ok (.ireturn, 1) := by decide +kernel
theorem dX11_inside_0 : decode cX11_inside 0 = .ok (.iload_n 1, 1) := by decide +kernel
theorem dX11_inside_1 : decode cX11_inside 1 = .ok (.invokestatic 251, 3) := by decide +kernel
theorem dX11_inside_4 : decode cX11_inside 4 = .ok (.ifCond .eq 28, 3) := by decide +kernel
theorem dX11_inside_7 : decode cX11_inside 7 = .ok (.iload_n 2, 1) := by decide +kernel
theorem dX11_inside_8 : decode cX11_inside 8 = .ok (.i2l, 1) := by decide +kernel
theorem dX11_inside_9 : decode cX11_inside 9 = .ok (.lconst 0, 1) := by decide +kernel
theorem dX11_inside_10 : decode cX11_inside 10 = .ok (.lconst 1, 1) := by decide +kernel
theorem dX11_inside_11 : decode cX11_inside 11 = .ok (.invokestatic 233, 3) := by decide +kernel
theorem dX11_inside_14 : decode cX11_inside 14 = .ok (.ifCond .eq 18, 3) := by decide +kernel
theorem dX11_inside_17 : decode cX11_inside 17 = .ok (.iload_n 3, 1) := by decide +kernel
theorem dX11_inside_18 : decode cX11_inside 18 = .ok (.invokestatic 267, 3) := by decide +kernel
theorem dX11_inside_21 : decode cX11_inside 21 = .ok (.ifCond .eq 11, 3) := by decide +kernel
theorem dX11_inside_24 : decode cX11_inside 24 = .ok (.iload 4, 2) := by decide +kernel
theorem dX11_inside_26 : decode cX11_inside 26 = .ok (.invokestatic 267, 3) := by decide +kernel
theorem dX11_inside_29 : decode cX11_inside 29 = .ok (.ifCond .ne 7, 3) := by decide +kernel
theorem dX11_inside_32 : decode cX11_inside 32 = .ok (.ldc2_w 314, 3) := by decide +kernel
theorem dX11_inside_35 : decode cX11_inside 35 = .ok (.lreturn, 1) := by decide +kernel
theorem dX11_inside_36 : decode cX11_inside 36 = .ok (.aload_n 0, 1) := by decide +kernel
theorem dX11_inside_37 : decode cX11_inside 37 = .ok (.iload_n 1, 1) := by decide +kernel
theorem dX11_inside_38 : decode cX11_inside 38 = .ok (.iload_n 3, 1) := by decide +kernel
theorem dX11_inside_39 : decode cX11_inside 39 = .ok (.invokevirtual 306, 3) := by decide +kernel
theorem dX11_inside_42 : decode cX11_inside 42 = .ok (.istore 5, 2) := by decide +kernel
theorem dX11_inside_44 : decode cX11_inside 44 = .ok (.lconst 0, 1) := by decide +kernel
theorem dX11_inside_45 : decode cX11_inside 45 = .ok (.lstore 6, 2) := by decide +kernel
theorem dX11_inside_47 : decode cX11_inside 47 = .ok (.iconst 0, 1) := by decide +kernel
theorem dX11_inside_48 : decode cX11_inside 48 = .ok (.istore 8, 2) := by decide +kernel
theorem dX11_inside_50 : decode cX11_inside 50 = .ok (.iload 8, 2) := by decide +kernel
theorem dX11_inside_52 : decode cX11_inside 52 = .ok (.aload_n 0, 1) := by decide +kernel
theorem dX11_inside_53 : decode cX11_inside 53 = .ok (.getfield 248, 3) := by decide +kernel
theorem dX11_inside_56 : decode cX11_inside 56 = .ok (.if_icmp .ge 70, 3) := by decide +kernel
theorem dX11_inside_59 : decode cX11_inside 59 = .ok (.aload_n 0, 1) := by decide +kernel
theorem dX11_inside_60 : decode cX11_inside 60 = .ok (.getfield 13, 3) := by decide +kernel
theorem dX11_inside_63 : decode cX11_inside 63 = .ok (.iload 8, 2) := by decide +kernel
theorem dX11_inside_65 : decode cX11_inside 65 = .ok (.iaload, 1) := by decide +kernel
theorem dX11_inside_66 : decode cX11_inside 66 = .ok (.iload_n 1, 1) := by decide +kernel
theorem dX11_inside_67 : decode cX11_inside 67 = .ok (.if_icmp .ne 7, 3) := by decide +kernel
theorem dX11_inside_70 : decode cX11_inside 70 = .ok (.iconst (-1), 1) := by decide +kernel
theorem dX11_inside_71 : decode cX11_inside 71 = .ok (.goto 12, 3) := by decide +kernel
theorem dX11_inside_74 : decode cX11_inside 74 = .ok (.aload_n 0, 1) := by decide +kernel
theorem dX11_inside_75 : decode cX11_inside 75 = .ok (.iload 8, 2) := by decide +kernel
theorem dX11_inside_77 : decode cX11_inside 77 = .ok (.iload_n 3, 1) := by decide +kernel
theorem dX11_inside_78 : decode cX11_inside 78 = .ok (.iload 4, 2) := by decide +kernel
theorem dX11_inside_80 : decode cX11_inside 80 = .ok (.invokevirtual 270, 3) := by decide +kernel
theorem dX11_inside_83 : decode cX11_inside 83 = .ok (.istore 9, 2) := by decide +kernel
theorem dX11_inside_85 : decode cX11_inside 85 = .ok (.iload 9, 2) := by decide +kernel
theorem dX11_inside_87 : decode cX11_inside 87 = .ok (.ifCond .lt 33, 3) := by decide +kernel
theorem dX11_inside_90 : decode cX11_inside 90 = .ok (.aload_n 0, 1) := by decide +kernel
theorem dX11_inside_91 : decode cX11_inside 91 = .ok (.iload_n 1, 1) := by decide +kernel
theorem dX11_inside_92 : decode cX11_inside 92 = .ok (.iload_n 2, 1) := by decide +kernel
theorem dX11_inside_93 : decode cX11_inside 93 = .ok (.iload 9, 2) := by decide +kernel
theorem dX11_inside_95 : decode cX11_inside 95 = .ok (.bipush 24, 2) := by decide +kernel
theorem dX11_inside_97 : decode cX11_inside 97 = .ok (.irem, 1) := by decide +kernel
theorem dX11_inside_98 : decode cX11_inside 98 = .ok (.iload 9, 2) := by decide +kernel
theorem dX11_inside_100 : decode cX11_inside 100 = .ok (.bipush 24, 2) := by decide +kernel
theorem dX11_inside_102 : decode cX11_inside 102 = .ok (.idiv, 1) := by decide +kernel
theorem dX11_inside_103 : decode cX11_inside 103 = .ok (.iload 5, 2) := by decide +kernel
theorem dX11_inside_105 : decode cX11_inside 105 = .ok (.invokevirtual 310, 3) := by decide +kernel
theorem dX11_inside_108 : decode cX11_inside 108 = .ok (.ifCond .eq 12, 3) := by decide +kernel
theorem dX11_inside_111 : decode cX11_inside 111 = .ok (.lload 6, 2) := by decide +kernel
theorem dX11_inside_113 : decode cX11_inside 113 = .ok (.lconst 1, 1) := by decide +kernel
theorem dX11_inside_114 : decode cX11_inside 114 = .ok (.iload 8, 2) := by decide +kernel
theorem dX11_inside_116 : decode cX11_inside 116 = .ok (.lshl, 1) := by decide +kernel
theorem dX11_inside_117 : decode cX11_inside 117 = .ok (.lor, 1) := by decide +kernel
theorem dX11_inside_118 : decode cX11_inside 118 = .ok (.lstore 6, 2) := by decide +kernel
theorem dX11_inside_120 : decode cX11_inside 120 = .ok (.iinc 8 1, 3) := by decide +kernel
theorem dX11_inside_123 : decode cX11_inside 123 = .ok (.goto (-73), 3) := by decide +kernel
theorem dX11_inside_126 : decode cX11_inside 126 = .ok (.lload 6, 2) := by decide +kernel
theorem dX11_inside_128 : decode cX11_inside 128 = .ok (.lreturn, 1) := by decide +kernel
theorem dX11_beside_0 : decode cX11_beside 0 = .ok (.iload_n 1, 1) := by decide +kernel
theorem dX11_beside_1 : decode cX11_beside 1 = .ok (.invokestatic 251, 3) := by decide +kernel
theorem dX11_beside_4 : decode cX11_beside 4 = .ok (.ifCond .eq 15, 3) := by decide +kernel
theorem dX11_beside_7 : decode cX11_beside 7 = .ok (.iload_n 2, 1) := by decide +kernel
theorem dX11_beside_8 : decode cX11_beside 8 = .ok (.i2l, 1) := by decide +kernel
theorem dX11_beside_9 : decode cX11_beside 9 = .ok (.lconst 0, 1) := by decide +kernel
theorem dX11_beside_10 : decode cX11_beside 10 = .ok (.ldc2_w 304, 3) := by decide +kernel
theorem dX11_beside_13 : decode cX11_beside 13 = .ok (.invokestatic 233, 3) := by decide +kernel
theorem dX11_beside_16 : decode cX11_beside 16 = .ok (.ifCond .ne 5, 3) := by decide +kernel
theorem dX11_beside_19 : decode cX11_beside 19 = .ok (.iconst (-1), 1) := by decide +kernel
theorem dX11_beside_20 : decode cX11_beside 20 = .ok (.ireturn, 1) := by decide +kernel
theorem dX11_beside_21 : decode cX11_beside 21 = .ok (.iconst 0, 1) := by decide +kernel
theorem dX11_beside_22 : decode cX11_beside 22 = .ok (.istore_n 3, 1) := by decide +kernel
theorem dX11_beside_23 : decode cX11_beside 23 = .ok (.iconst 0, 1) := by decide +kernel
theorem dX11_beside_24 : decode cX11_beside 24 = .ok (.istore 4, 2) := by decide +kernel
theorem dX11_beside_26 : decode cX11_beside 26 = .ok (.iload 4, 2) := by decide +kernel
theorem dX11_beside_28 : decode cX11_beside 28 = .ok (.aload_n 0, 1) := by decide +kernel
theorem dX11_beside_29 : decode cX11_beside 29 = .ok (.getfield 261, 3) := by decide +kernel
theorem dX11_beside_32 : decode cX11_beside 32 = .ok (.if_icmp .ge 69, 3) := by decide +kernel
theorem dX11_beside_35 : decode cX11_beside 35 = .ok (.aload_n 0, 1) := by decide +kernel
theorem dX11_beside_36 : decode cX11_beside 36 = .ok (.getfield 25, 3) := by decide +kernel
theorem dX11_beside_39 : decode cX11_beside 39 = .ok (.iload 4, 2) := by decide +kernel
theorem dX11_beside_41 : decode cX11_beside 41 = .ok (.iaload, 1) := by decide +kernel
theorem dX11_beside_42 : decode cX11_beside 42 = .ok (.aload_n 0, 1) := by decide +kernel
theorem dX11_beside_43 : decode cX11_beside 43 = .ok (.getfield 28, 3) := by decide +kernel
theorem dX11_beside_46 : decode cX11_beside 46 = .ok (.iload 4, 2) := by decide +kernel
theorem dX11_beside_48 : decode cX11_beside 48 = .ok (.iaload, 1) := by decide +kernel
theorem dX11_beside_49 : decode cX11_beside 49 = .ok (.if_icmp .ne 46, 3) := by decide +kernel
theorem dX11_beside_52 : decode cX11_beside 52 = .ok (.aload_n 0, 1) := by decide +kernel
theorem dX11_beside_53 : decode cX11_beside 53 = .ok (.getfield 13, 3) := by decide +kernel
theorem dX11_beside_56 : decode cX11_beside 56 = .ok (.aload_n 0, 1) := by decide +kernel
theorem dX11_beside_57 : decode cX11_beside 57 = .ok (.getfield 28, 3) := by decide +kernel
theorem dX11_beside_60 : decode cX11_beside 60 = .ok (.iload 4, 2) := by decide +kernel
theorem dX11_beside_62 : decode cX11_beside 62 = .ok (.iaload, 1) := by decide +kernel
theorem dX11_beside_63 : decode cX11_beside 63 = .ok (.iaload, 1) := by decide +kernel
theorem dX11_beside_64 : decode cX11_beside 64 = .ok (.iload_n 1, 1) := by decide +kernel
theorem dX11_beside_65 : decode cX11_beside 65 = .ok (.if_icmp .eq 30, 3) := by decide +kernel
theorem dX11_beside_68 : decode cX11_beside 68 = .ok (.aload_n 0, 1) := by decide +kernel
theorem dX11_beside_69 : decode cX11_beside 69 = .ok (.iload_n 1, 1) := by decide +kernel
theorem dX11_beside_70 : decode cX11_beside 70 = .ok (.iconst 0, 1) := by decide +kernel
theorem dX11_beside_71 : decode cX11_beside 71 = .ok (.aload_n 0, 1) := by decide +kernel
theorem dX11_beside_72 : decode cX11_beside 72 = .ok (.getfield 34, 3) := by decide +kernel
theorem dX11_beside_75 : decode cX11_beside 75 = .ok (.iload 4, 2) := by decide +kernel
theorem dX11_beside_77 : decode cX11_beside 77 = .ok (.iaload, 1) := by decide +kernel
theorem dX11_beside_78 : decode cX11_beside 78 = .ok (.aload_n 0, 1) := by decide +kernel
theorem dX11_beside_79 : decode cX11_beside 79 = .ok (.getfield 37, 3) := by decide +kernel
theorem dX11_beside_82 : decode cX11_beside 82 = .ok (.iload 4, 2) := by decide +kernel
theorem dX11_beside_84 : decode cX11_beside 84 = .ok (.iaload, 1) := by decide +kernel
theorem dX11_beside_85 : decode cX11_beside 85 = .ok (.iload_n 2, 1) := by decide +kernel
theorem dX11_beside_86 : decode cX11_beside 86 = .ok (.invokevirtual 310, 3) := by decide +kernel
theorem dX11_beside_89 : decode cX11_beside 89 = .ok (.ifCond .eq 6, 3) := by decide +kernel
theorem dX11_beside_92 : decode cX11_beside 92 = .ok (.iinc 3 1, 3) := by decide +kernel
theorem dX11_beside_95 : decode cX11_beside 95 = .ok (.iinc 4 1, 3) := by decide +kernel
theorem dX11_beside_98 : decode cX11_beside 98 = .ok (.goto (-72), 3) := by decide +kernel
theorem dX11_beside_101 : decode cX11_beside 101 = .ok (.iload_n 3, 1) := by decide +kernel
theorem dX11_beside_102 : decode cX11_beside 102 = .ok (.ireturn, 1) := by decide +kernel
theorem dX11_four_0 : decode cX11_four 0 = .ok (.bipush 24, 2) := by decide +kernel
theorem dX11_four_2 : decode cX11_four 2 = .ok (.istore_n 2, 1) := by decide +kernel
theorem dX11_four_3 : decode cX11_four 3 = .ok (.iload_n 2, 1) := by decide +kernel
theorem dX11_four_4 : decode cX11_four 4 = .ok (.ifCond .lt 32, 3) := by decide +kernel
theorem dX11_four_7 : decode cX11_four 7 = .ok (.aload_n 0, 1) := by decide +kernel
theorem dX11_four_8 : decode cX11_four 8 = .ok (.getfield 61, 3) := by decide +kernel
theorem dX11_four_11 : decode cX11_four 11 = .ok (.aload_n 0, 1) := by decide +kernel
theorem dX11_four_12 : decode cX11_four 12 = .ok (.getfield 316, 3) := by decide +kernel
theorem dX11_four_15 : decode cX11_four 15 = .ok (.iload_n 1, 1) := by decide +kernel
theorem dX11_four_16 : decode cX11_four 16 = .ok (.iload_n 2, 1) := by decide +kernel
theorem dX11_four_17 : decode cX11_four 17 = .ok (.ishr, 1) := by decide +kernel
theorem dX11_four_18 : decode cX11_four 18 = .ok (.i2b, 1) := by decide +kernel
theorem dX11_four_19 : decode cX11_four 19 = .ok (.bastore, 1) := by decide +kernel
theorem dX11_four_20 : decode cX11_four 20 = .ok (.aload_n 0, 1) := by decide +kernel
theorem dX11_four_21 : decode cX11_four 21 = .ok (.dup, 1) := by decide +kernel
theorem dX11_four_22 : decode cX11_four 22 = .ok (.getfield 316, 3) := by decide +kernel
theorem dX11_four_25 : decode cX11_four 25 = .ok (.iconst 1, 1) := by decide +kernel
theorem dX11_four_26 : decode cX11_four 26 = .ok (.iadd, 1) := by decide +kernel
theorem dX11_four_27 : decode cX11_four 27 = .ok (.putfield 316, 3) := by decide +kernel
theorem dX11_four_30 : decode cX11_four 30 = .ok (.iinc 2 (-8), 3) := by decide +kernel
theorem dX11_four_33 : decode cX11_four 33 = .ok (.goto (-30), 3) := by decide +kernel
theorem dX11_four_36 : decode cX11_four 36 = .ok (.return_, 1) := by decide +kernel
theorem dX11_feed_0 : decode cX11_feed 0 = .ok (.aload_n 0, 1) := by decide +kernel
theorem dX11_feed_1 : decode cX11_feed 1 = .ok (.getfield 316, 3) := by decide +kernel
theorem dX11_feed_4 : decode cX11_feed 4 = .ok (.bipush 20, 2) := by decide +kernel
theorem dX11_feed_6 : decode cX11_feed 6 = .ok (.iadd, 1) := by decide +kernel
theorem dX11_feed_7 : decode cX11_feed 7 = .ok (.sipush 400, 3) := by decide +kernel
theorem dX11_feed_10 : decode cX11_feed 10 = .ok (.if_icmp .le 5, 3) := by decide +kernel
theorem dX11_feed_13 : decode cX11_feed 13 = .ok (.iconst (-1), 1) := by decide +kernel
theorem dX11_feed_14 : decode cX11_feed 14 = .ok (.ireturn, 1) := by decide +kernel
theorem dX11_feed_15 : decode cX11_feed 15 = .ok (.aload_n 0, 1) := by decide +kernel
theorem dX11_feed_16 : decode cX11_feed 16 = .ok (.iload_n 1, 1) := by decide +kernel
theorem dX11_feed_17 : decode cX11_feed 17 = .ok (.invokevirtual 319, 3) := by decide +kernel
theorem dX11_feed_20 : decode cX11_feed 20 = .ok (.aload_n 0, 1) := by decide +kernel
theorem dX11_feed_21 : decode cX11_feed 21 = .ok (.iload_n 2, 1) := by decide +kernel
theorem dX11_feed_22 : decode cX11_feed 22 = .ok (.invokevirtual 319, 3) := by decide +kernel
theorem dX11_feed_25 : decode cX11_feed 25 = .ok (.aload_n 0, 1) := by decide +kernel
theorem dX11_feed_26 : decode cX11_feed 26 = .ok (.iload_n 3, 1) := by decide +kernel
theorem dX11_feed_27 : decode cX11_feed 27 = .ok (.invokevirtual 319, 3) := by decide +kernel
theorem dX11_feed_30 : decode cX11_feed 30 = .ok (.aload_n 0, 1) := by decide +kernel
theorem dX11_feed_31 : decode cX11_feed 31 = .ok (.iload 4, 2) := by decide +kernel
theorem dX11_feed_33 : decode cX11_feed 33 = .ok (.invokevirtual 319, 3) := by decide +kernel
theorem dX11_feed_36 : decode cX11_feed 36 = .ok (.aload_n 0, 1) := by decide +kernel
theorem dX11_feed_37 : decode cX11_feed 37 = .ok (.iload 5, 2) := by decide +kernel
theorem dX11_feed_39 : decode cX11_feed 39 = .ok (.invokevirtual 319, 3) := by decide +kernel
theorem dX11_feed_42 : decode cX11_feed 42 = .ok (.aload_n 0, 1) := by decide +kernel
theorem dX11_feed_43 : decode cX11_feed 43 = .ok (.getfield 316, 3) := by decide +kernel
theorem dX11_feed_46 : decode cX11_feed 46 = .ok (.ireturn, 1) := by decide +kernel
theorem dX11_end_0 : decode cX11_end 0 = .ok (.iload_n 1, 1) := by decide +kernel
theorem dX11_end_1 : decode cX11_end 1 = .ok (.ifCond .lt 11, 3) := by decide +kernel
theorem dX11_end_4 : decode cX11_end 4 = .ok (.iload_n 1, 1) := by decide +kernel
theorem dX11_end_5 : decode cX11_end 5 = .ok (.aload_n 0, 1) := by decide +kernel
theorem dX11_end_6 : decode cX11_end 6 = .ok (.getfield 316, 3) := by decide +kernel
theorem dX11_end_9 : decode cX11_end 9 = .ok (.if_icmp .le 5, 3) := by decide +kernel
theorem dX11_end_12 : decode cX11_end 12 = .ok (.iconst (-1), 1) := by decide +kernel
theorem dX11_end_13 : decode cX11_end 13 = .ok (.ireturn, 1) := by decide +kernel
theorem dX11_end_14 : decode cX11_end 14 = .ok (.aload_n 0, 1) := by decide +kernel
theorem dX11_end_15 : decode cX11_end 15 = .ok (.iload_n 1, 1) := by decide +kernel
theorem dX11_end_16 : decode cX11_end 16 = .ok (.putfield 316, 3) := by decide +kernel
theorem dX11_end_19 : decode cX11_end 19 = .ok (.iload_n 1, 1) := by decide +kernel
theorem dX11_end_20 : decode cX11_end 20 = .ok (.ireturn, 1) := by decide +kernel
theorem dX11_fails_0 : decode cX11_fails 0 = .ok (.aload_n 0, 1) := by decide +kernel
theorem dX11_fails_1 : decode cX11_fails 1 = .ok (.getfield 323, 3) := by decide +kernel
theorem dX11_fails_4 : decode cX11_fails 4 = .ok (.ifCond .ne 15, 3) := by decide +kernel
theorem dX11_fails_7 : decode cX11_fails 7 = .ok (.aload_n 0, 1) := by decide +kernel
theorem dX11_fails_8 : decode cX11_fails 8 = .ok (.iconst 1, 1) := by decide +kernel
theorem dX11_fails_9 : decode cX11_fails 9 = .ok (.bipush 8, 2) := by decide +kernel
theorem dX11_fails_11 : decode cX11_fails 11 = .ok (.iload_n 2, 1) := by decide +kernel
theorem dX11_fails_12 : decode cX11_fails 12 = .ok (.imul, 1) := by decide +kernel
theorem dX11_fails_13 : decode cX11_fails 13 = .ok (.iadd, 1) := by decide +kernel
theorem dX11_fails_14 : decode cX11_fails 14 = .ok (.iload_n 1, 1) := by decide +kernel
theorem dX11_fails_15 : decode cX11_fails 15 = .ok (.iadd, 1) := by decide +kernel
theorem dX11_fails_16 : decode cX11_fails 16 = .ok (.putfield 323, 3) := by decide +kernel
theorem dX11_fails_19 : decode cX11_fails 19 = .ok (.iconst 0, 1) := by decide +kernel
theorem dX11_fails_20 : decode cX11_fails 20 = .ok (.ireturn, 1) := by decide +kernel
theorem dX11_see_0 : decode cX11_see 0 = .ok (.aload_n 0, 1) := by decide +kernel
theorem dX11_see_1 : decode cX11_see 1 = .ok (.getfield 326, 3) := by decide +kernel
theorem dX11_see_4 : decode cX11_see 4 = .ok (.aload_n 0, 1) := by decide +kernel
theorem dX11_see_5 : decode cX11_see 5 = .ok (.getfield 316, 3) := by decide +kernel
theorem dX11_see_8 : decode cX11_see 8 = .ok (.if_icmp .ge 30, 3) := by decide +kernel
theorem dX11_see_11 : decode cX11_see 11 = .ok (.aload_n 0, 1) := by decide +kernel
theorem dX11_see_12 : decode cX11_see 12 = .ok (.getfield 61, 3) := by decide +kernel
theorem dX11_see_15 : decode cX11_see 15 = .ok (.aload_n 0, 1) := by decide +kernel
theorem dX11_see_16 : decode cX11_see 16 = .ok (.getfield 326, 3) := by decide +kernel
theorem dX11_see_19 : decode cX11_see 19 = .ok (.baload, 1) := by decide +kernel
theorem dX11_see_20 : decode cX11_see 20 = .ok (.bipush 32, 2) := by decide +kernel
theorem dX11_see_22 : decode cX11_see 22 = .ok (.if_icmp .ne 16, 3) := by decide +kernel
theorem dX11_see_25 : decode cX11_see 25 = .ok (.aload_n 0, 1) := by decide +kernel
theorem dX11_see_26 : decode cX11_see 26 = .ok (.dup, 1) := by decide +kernel
theorem dX11_see_27 : decode cX11_see 27 = .ok (.getfield 326, 3) := by decide +kernel
theorem dX11_see_30 : decode cX11_see 30 = .ok (.iconst 1, 1) := by decide +kernel
theorem dX11_see_31 : decode cX11_see 31 = .ok (.iadd, 1) := by decide +kernel
theorem dX11_see_32 : decode cX11_see 32 = .ok (.putfield 326, 3) := by decide +kernel
theorem dX11_see_35 : decode cX11_see 35 = .ok (.goto (-35), 3) := by decide +kernel
theorem dX11_see_38 : decode cX11_see 38 = .ok (.aload_n 0, 1) := by decide +kernel
theorem dX11_see_39 : decode cX11_see 39 = .ok (.getfield 326, 3) := by decide +kernel
theorem dX11_see_42 : decode cX11_see 42 = .ok (.aload_n 0, 1) := by decide +kernel
theorem dX11_see_43 : decode cX11_see 43 = .ok (.getfield 316, 3) := by decide +kernel
theorem dX11_see_46 : decode cX11_see 46 = .ok (.if_icmp .ge 19, 3) := by decide +kernel
theorem dX11_see_49 : decode cX11_see 49 = .ok (.aload_n 0, 1) := by decide +kernel
theorem dX11_see_50 : decode cX11_see 50 = .ok (.getfield 61, 3) := by decide +kernel
theorem dX11_see_53 : decode cX11_see 53 = .ok (.aload_n 0, 1) := by decide +kernel
theorem dX11_see_54 : decode cX11_see 54 = .ok (.getfield 326, 3) := by decide +kernel
theorem dX11_see_57 : decode cX11_see 57 = .ok (.baload, 1) := by decide +kernel
theorem dX11_see_58 : decode cX11_see 58 = .ok (.sipush 255, 3) := by decide +kernel
theorem dX11_see_61 : decode cX11_see 61 = .ok (.iand, 1) := by decide +kernel
theorem dX11_see_62 : decode cX11_see 62 = .ok (.goto 4, 3) := by decide +kernel
theorem dX11_see_65 : decode cX11_see 65 = .ok (.iconst (-1), 1) := by decide +kernel
theorem dX11_see_66 : decode cX11_see 66 = .ok (.ireturn, 1) := by decide +kernel
theorem dX11_isDigit_0 : decode cX11_isDigit 0 = .ok (.aload_n 0, 1) := by decide +kernel
theorem dX11_isDigit_1 : decode cX11_isDigit 1 = .ok (.getfield 326, 3) := by decide +kernel
theorem dX11_isDigit_4 : decode cX11_isDigit 4 = .ok (.aload_n 0, 1) := by decide +kernel
theorem dX11_isDigit_5 : decode cX11_isDigit 5 = .ok (.getfield 316, 3) := by decide +kernel
theorem dX11_isDigit_8 : decode cX11_isDigit 8 = .ok (.if_icmp .ge 35, 3) := by decide +kernel
theorem dX11_isDigit_11 : decode cX11_isDigit 11 = .ok (.aload_n 0, 1) := by decide +kernel
theorem dX11_isDigit_12 : decode cX11_isDigit 12 = .ok (.getfield 61, 3) := by decide +kernel
theorem dX11_isDigit_15 : decode cX11_isDigit 15 = .ok (.aload_n 0, 1) := by decide +kernel
theorem dX11_isDigit_16 : decode cX11_isDigit 16 = .ok (.getfield 326, 3) := by decide +kernel
theorem dX11_isDigit_19 : decode cX11_isDigit 19 = .ok (.baload, 1) := by decide +kernel
theorem dX11_isDigit_20 : decode cX11_isDigit 20 = .ok (.bipush 48, 2) := by decide +kernel
theorem dX11_isDigit_22 : decode cX11_isDigit 22 = .ok (.if_icmp .lt 21, 3) := by decide +kernel
theorem dX11_isDigit_25 : decode cX11_isDigit 25 = .ok (.aload_n 0, 1) := by decide +kernel
theorem dX11_isDigit_26 : decode cX11_isDigit 26 = .ok (.getfield 61, 3) := by decide +kernel
theorem dX11_isDigit_29 : decode cX11_isDigit 29 = .ok (.aload_n 0, 1) := by decide +kernel
theorem dX11_isDigit_30 : decode cX11_isDigit 30 = .ok (.getfield 326, 3) := by decide +kernel
theorem dX11_isDigit_33 : decode cX11_isDigit 33 = .ok (.baload, 1) := by decide +kernel
theorem dX11_isDigit_34 : decode cX11_isDigit 34 = .ok (.bipush 57, 2) := by decide +kernel
theorem dX11_isDigit_36 : decode cX11_isDigit 36 = .ok (.if_icmp .gt 7, 3) := by decide +kernel
theorem dX11_isDigit_39 : decode cX11_isDigit 39 = .ok (.iconst 1, 1) := by decide +kernel
theorem dX11_isDigit_40 : decode cX11_isDigit 40 = .ok (.goto 4, 3) := by decide +kernel
theorem dX11_isDigit_43 : decode cX11_isDigit 43 = .ok (.iconst 0, 1) := by decide +kernel
theorem dX11_isDigit_44 : decode cX11_isDigit 44 = .ok (.ireturn, 1) := by decide +kernel
theorem dX11_number_0 : decode cX11_number 0 = .ok (.aload_n 0, 1) := by decide +kernel
theorem dX11_number_1 : decode cX11_number 1 = .ok (.invokevirtual 329, 3) := by decide +kernel
theorem dX11_number_4 : decode cX11_number 4 = .ok (.pop, 1) := by decide +kernel
theorem dX11_number_5 : decode cX11_number 5 = .ok (.aload_n 0, 1) := by decide +kernel
theorem dX11_number_6 : decode cX11_number 6 = .ok (.invokevirtual 333, 3) := by decide +kernel
theorem dX11_number_9 : decode cX11_number 9 = .ok (.ifCond .ne 13, 3) := by decide +kernel
theorem dX11_number_12 : decode cX11_number 12 = .ok (.aload_n 0, 1) := by decide +kernel
theorem dX11_number_13 : decode cX11_number 13 = .ok (.iconst 0, 1) := by decide +kernel
theorem dX11_number_14 : decode cX11_number 14 = .ok (.aload_n 0, 1) := by decide +kernel
theorem dX11_number_15 : decode cX11_number 15 = .ok (.getfield 326, 3) := by decide +kernel
theorem dX11_number_18 : decode cX11_number 18 = .ok (.invokevirtual 337, 3) := by decide +kernel
theorem dX11_number_21 : decode cX11_number 21 = .ok (.ireturn, 1) := by decide +kernel
theorem dX11_number_22 : decode cX11_number 22 = .ok (.aload_n 0, 1) := by decide +kernel
theorem dX11_number_23 : decode cX11_number 23 = .ok (.getfield 326, 3) := by decide +kernel
theorem dX11_number_26 : decode cX11_number 26 = .ok (.istore_n 1, 1) := by decide +kernel
theorem dX11_number_27 : decode cX11_number 27 = .ok (.iconst 0, 1) := by decide +kernel
theorem dX11_number_28 : decode cX11_number 28 = .ok (.istore_n 2, 1) := by decide +kernel
theorem dX11_number_29 : decode cX11_number 29 = .ok (.aload_n 0, 1) := by decide +kernel
theorem dX11_number_30 : decode cX11_number 30 = .ok (.invokevirtual 333, 3) := by decide +kernel
theorem dX11_number_33 : decode cX11_number 33 = .ok (.ifCond .eq 44, 3) := by decide +kernel
theorem dX11_number_36 : decode cX11_number 36 = .ok (.aload_n 0, 1) := by decide +kernel
theorem dX11_number_37 : decode cX11_number 37 = .ok (.getfield 326, 3) := by decide +kernel
theorem dX11_number_40 : decode cX11_number 40 = .ok (.iload_n 1, 1) := by decide +kernel
theorem dX11_number_41 : decode cX11_number 41 = .ok (.isub, 1) := by decide +kernel
theorem dX11_number_42 : decode cX11_number 42 = .ok (.iconst 5, 1) := by decide +kernel
theorem dX11_number_43 : decode cX11_number 43 = .ok (.if_icmp .ge 21, 3) := by decide +kernel
theorem dX11_number_46 : decode cX11_number 46 = .ok (.bipush 10, 2) := by decide +kernel
theorem dX11_number_48 : decode cX11_number 48 = .ok (.iload_n 2, 1) := by decide +kernel
theorem dX11_number_49 : decode cX11_number 49 = .ok (.imul, 1) := by decide +kernel
theorem dX11_number_50 : decode cX11_number 50 = .ok (.aload_n 0, 1) := by decide +kernel
theorem dX11_number_51 : decode cX11_number 51 = .ok (.getfield 61, 3) := by decide +kernel
theorem dX11_number_54 : decode cX11_number 54 = .ok (.aload_n 0, 1) := by decide +kernel
theorem dX11_number_55 : decode cX11_number 55 = .ok (.getfield 326, 3) := by decide +kernel
theorem dX11_number_58 : decode cX11_number 58 = .ok (.baload, 1) := by decide +kernel
theorem dX11_number_59 : decode cX11_number 59 = .ok (.iadd, 1) := by decide +kernel
theorem dX11_number_60 : decode cX11_number 60 = .ok (.bipush 48, 2) := by decide +kernel
theorem dX11_number_62 : decode cX11_number 62 = .ok (.isub, 1) := by decide +kernel
theorem dX11_number_63 : decode cX11_number 63 = .ok (.istore_n 2, 1) := by decide +kernel
theorem dX11_number_64 : decode cX11_number 64 = .ok (.aload_n 0, 1) := by decide +kernel
theorem dX11_number_65 : decode cX11_number 65 = .ok (.dup, 1) := by decide +kernel
theorem dX11_number_66 : decode cX11_number 66 = .ok (.getfield 326, 3) := by decide +kernel
theorem dX11_number_69 : decode cX11_number 69 = .ok (.iconst 1, 1) := by decide +kernel
theorem dX11_number_70 : decode cX11_number 70 = .ok (.iadd, 1) := by decide +kernel
theorem dX11_number_71 : decode cX11_number 71 = .ok (.putfield 326, 3) := by decide +kernel
theorem dX11_number_74 : decode cX11_number 74 = .ok (.goto (-45), 3) := by decide +kernel
theorem dX11_number_77 : decode cX11_number 77 = .ok (.aload_n 0, 1) := by decide +kernel
theorem dX11_number_78 : decode cX11_number 78 = .ok (.iload_n 2, 1) := by decide +kernel
theorem dX11_number_79 : decode cX11_number 79 = .ok (.putfield 340, 3) := by decide +kernel
theorem dX11_number_82 : decode cX11_number 82 = .ok (.aload_n 0, 1) := by decide +kernel
theorem dX11_number_83 : decode cX11_number 83 = .ok (.getfield 326, 3) := by decide +kernel
theorem dX11_number_86 : decode cX11_number 86 = .ok (.iload_n 1, 1) := by decide +kernel
theorem dX11_number_87 : decode cX11_number 87 = .ok (.isub, 1) := by decide +kernel
theorem dX11_number_88 : decode cX11_number 88 = .ok (.iconst 5, 1) := by decide +kernel
theorem dX11_number_89 : decode cX11_number 89 = .ok (.if_icmp .le 12, 3) := by decide +kernel
theorem dX11_number_92 : decode cX11_number 92 = .ok (.aload_n 0, 1) := by decide +kernel
theorem dX11_number_93 : decode cX11_number 93 = .ok (.iconst 1, 1) := by decide +kernel
theorem dX11_number_94 : decode cX11_number 94 = .ok (.iload_n 1, 1) := by decide +kernel
theorem dX11_number_95 : decode cX11_number 95 = .ok (.invokevirtual 337, 3) := by decide +kernel
theorem dX11_number_98 : decode cX11_number 98 = .ok (.ifCond .eq 7, 3) := by decide +kernel
theorem dX11_number_101 : decode cX11_number 101 = .ok (.iconst 1, 1) := by decide +kernel
theorem dX11_number_102 : decode cX11_number 102 = .ok (.goto 4, 3) := by decide +kernel
theorem dX11_number_105 : decode cX11_number 105 = .ok (.iconst 0, 1) := by decide +kernel
theorem dX11_number_106 : decode cX11_number 106 = .ok (.ireturn, 1) := by decide +kernel
theorem dX11_isWord_0 : decode cX11_isWord 0 = .ok (.aload_n 0, 1) := by decide +kernel
theorem dX11_isWord_1 : decode cX11_isWord 1 = .ok (.invokevirtual 329, 3) := by decide +kernel
theorem dX11_isWord_4 : decode cX11_isWord 4 = .ok (.pop, 1) := by decide +kernel
theorem dX11_isWord_5 : decode cX11_isWord 5 = .ok (.lconst 0, 1) := by decide +kernel
theorem dX11_isWord_6 : decode cX11_isWord 6 = .ok (.lstore_n 3, 1) := by decide +kernel
theorem dX11_isWord_7 : decode cX11_isWord 7 = .ok (.iconst 0, 1) := by decide +kernel
theorem dX11_isWord_8 : decode cX11_isWord 8 = .ok (.istore 5, 2) := by decide +kernel
theorem dX11_isWord_10 : decode cX11_isWord 10 = .ok (.aload_n 0, 1) := by decide +kernel
theorem dX11_isWord_11 : decode cX11_isWord 11 = .ok (.getfield 326, 3) := by decide +kernel
theorem dX11_isWord_14 : decode cX11_isWord 14 = .ok (.iload 5, 2) := by decide +kernel
theorem dX11_isWord_16 : decode cX11_isWord 16 = .ok (.iadd, 1) := by decide +kernel
theorem dX11_isWord_17 : decode cX11_isWord 17 = .ok (.aload_n 0, 1) := by decide +kernel
theorem dX11_isWord_18 : decode cX11_isWord 18 = .ok (.getfield 316, 3) := by decide +kernel
theorem dX11_isWord_21 : decode cX11_isWord 21 = .ok (.if_icmp .ge 69, 3) := by decide +kernel
theorem dX11_isWord_24 : decode cX11_isWord 24 = .ok (.aload_n 0, 1) := by decide +kernel
theorem dX11_isWord_25 : decode cX11_isWord 25 = .ok (.getfield 61, 3) := by decide +kernel
theorem dX11_isWord_28 : decode cX11_isWord 28 = .ok (.aload_n 0, 1) := by decide +kernel
theorem dX11_isWord_29 : decode cX11_isWord 29 = .ok (.getfield 326, 3) := by decide +kernel
theorem dX11_isWord_32 : decode cX11_isWord 32 = .ok (.iload 5, 2) := by decide +kernel
theorem dX11_isWord_34 : decode cX11_isWord 34 = .ok (.iadd, 1) := by decide +kernel
theorem dX11_isWord_35 : decode cX11_isWord 35 = .ok (.baload, 1) := by decide +kernel
theorem dX11_isWord_36 : decode cX11_isWord 36 = .ok (.bipush 97, 2) := by decide +kernel
theorem dX11_isWord_38 : decode cX11_isWord 38 = .ok (.if_icmp .lt 52, 3) := by decide +kernel
theorem dX11_isWord_41 : decode cX11_isWord 41 = .ok (.aload_n 0, 1) := by decide +kernel
theorem dX11_isWord_42 : decode cX11_isWord 42 = .ok (.getfield 61, 3) := by decide +kernel
theorem dX11_isWord_45 : decode cX11_isWord 45 = .ok (.aload_n 0, 1) := by decide +kernel
theorem dX11_isWord_46 : decode cX11_isWord 46 = .ok (.getfield 326, 3) := by decide +kernel
theorem dX11_isWord_49 : decode cX11_isWord 49 = .ok (.iload 5, 2) := by decide +kernel
theorem dX11_isWord_51 : decode cX11_isWord 51 = .ok (.iadd, 1) := by decide +kernel
theorem dX11_isWord_52 : decode cX11_isWord 52 = .ok (.baload, 1) := by decide +kernel
theorem dX11_isWord_53 : decode cX11_isWord 53 = .ok (.bipush 122, 2) := by decide +kernel
theorem dX11_isWord_55 : decode cX11_isWord 55 = .ok (.if_icmp .gt 35, 3) := by decide +kernel
theorem dX11_isWord_58 : decode cX11_isWord 58 = .ok (.iload 5, 2) := by decide +kernel
theorem dX11_isWord_60 : decode cX11_isWord 60 = .ok (.bipush 7, 2) := by decide +kernel
theorem dX11_isWord_62 : decode cX11_isWord 62 = .ok (.if_icmp .ge 22, 3) := by decide +kernel
theorem dX11_isWord_65 : decode cX11_isWord 65 = .ok (.lload_n 3, 1) := by decide +kernel
theorem dX11_isWord_66 : decode cX11_isWord 66 = .ok (.bipush 8, 2) := by decide +kernel
theorem dX11_isWord_68 : decode cX11_isWord 68 = .ok (.lshl, 1) := by decide +kernel
theorem dX11_isWord_69 : decode cX11_isWord 69 = .ok (.aload_n 0, 1) := by decide +kernel
theorem dX11_isWord_70 : decode cX11_isWord 70 = .ok (.getfield 61, 3) := by decide +kernel
theorem dX11_isWord_73 : decode cX11_isWord 73 = .ok (.aload_n 0, 1) := by decide +kernel
theorem dX11_isWord_74 : decode cX11_isWord 74 = .ok (.getfield 326, 3) := by decide +kernel
theorem dX11_isWord_77 : decode cX11_isWord 77 = .ok (.iload 5, 2) := by decide +kernel
theorem dX11_isWord_79 : decode cX11_isWord 79 = .ok (.iadd, 1) := by decide +kernel
theorem dX11_isWord_80 : decode cX11_isWord 80 = .ok (.baload, 1) := by decide +kernel
theorem dX11_isWord_81 : decode cX11_isWord 81 = .ok (.i2l, 1) := by decide +kernel
theorem dX11_isWord_82 : decode cX11_isWord 82 = .ok (.lor, 1) := by decide +kernel
theorem dX11_isWord_83 : decode cX11_isWord 83 = .ok (.lstore_n 3, 1) := by decide +kernel
theorem dX11_isWord_84 : decode cX11_isWord 84 = .ok (.iinc 5 1, 3) := by decide +kernel
theorem dX11_isWord_87 : decode cX11_isWord 87 = .ok (.goto (-77), 3) := by decide +kernel
theorem dX11_isWord_90 : decode cX11_isWord 90 = .ok (.iload 5, 2) := by decide +kernel
theorem dX11_isWord_92 : decode cX11_isWord 92 = .ok (.ifCond .le 20, 3) := by decide +kernel
theorem dX11_isWord_95 : decode cX11_isWord 95 = .ok (.iload 5, 2) := by decide +kernel
theorem dX11_isWord_97 : decode cX11_isWord 97 = .ok (.bipush 8, 2) := by decide +kernel
theorem dX11_isWord_99 : decode cX11_isWord 99 = .ok (.if_icmp .ge 13, 3) := by decide +kernel
theorem dX11_isWord_102 : decode cX11_isWord 102 = .ok (.lload_n 3, 1) := by decide +kernel
theorem dX11_isWord_103 : decode cX11_isWord 103 = .ok (.lload_n 1, 1) := by decide +kernel
theorem dX11_isWord_104 : decode cX11_isWord 104 = .ok (.lcmp, 1) := by decide +kernel
theorem dX11_isWord_105 : decode cX11_isWord 105 = .ok (.ifCond .ne 7, 3) := by decide +kernel
theorem dX11_isWord_108 : decode cX11_isWord 108 = .ok (.iconst 1, 1) := by decide +kernel
theorem dX11_isWord_109 : decode cX11_isWord 109 = .ok (.goto 4, 3) := by decide +kernel
theorem dX11_isWord_112 : decode cX11_isWord 112 = .ok (.iconst 0, 1) := by decide +kernel
theorem dX11_isWord_113 : decode cX11_isWord 113 = .ok (.ireturn, 1) := by decide +kernel
theorem dX11_skips_0 : decode cX11_skips 0 = .ok (.aload_n 0, 1) := by decide +kernel
theorem dX11_skips_1 : decode cX11_skips 1 = .ok (.getfield 326, 3) := by decide +kernel
theorem dX11_skips_4 : decode cX11_skips 4 = .ok (.aload_n 0, 1) := by decide +kernel
theorem dX11_skips_5 : decode cX11_skips 5 = .ok (.getfield 316, 3) := by decide +kernel
theorem dX11_skips_8 : decode cX11_skips 8 = .ok (.if_icmp .ge 44, 3) := by decide +kernel
theorem dX11_skips_11 : decode cX11_skips 11 = .ok (.aload_n 0, 1) := by decide +kernel
theorem dX11_skips_12 : decode cX11_skips 12 = .ok (.getfield 61, 3) := by decide +kernel
theorem dX11_skips_15 : decode cX11_skips 15 = .ok (.aload_n 0, 1) := by decide +kernel
theorem dX11_skips_16 : decode cX11_skips 16 = .ok (.getfield 326, 3) := by decide +kernel
theorem dX11_skips_19 : decode cX11_skips 19 = .ok (.baload, 1) := by decide +kernel
theorem dX11_skips_20 : decode cX11_skips 20 = .ok (.bipush 97, 2) := by decide +kernel
theorem dX11_skips_22 : decode cX11_skips 22 = .ok (.if_icmp .lt 30, 3) := by decide +kernel
theorem dX11_skips_25 : decode cX11_skips 25 = .ok (.aload_n 0, 1) := by decide +kernel
theorem dX11_skips_26 : decode cX11_skips 26 = .ok (.getfield 61, 3) := by decide +kernel
theorem dX11_skips_29 : decode cX11_skips 29 = .ok (.aload_n 0, 1) := by decide +kernel
theorem dX11_skips_30 : decode cX11_skips 30 = .ok (.getfield 326, 3) := by decide +kernel
theorem dX11_skips_33 : decode cX11_skips 33 = .ok (.baload, 1) := by decide +kernel
theorem dX11_skips_34 : decode cX11_skips 34 = .ok (.bipush 122, 2) := by decide +kernel
theorem dX11_skips_36 : decode cX11_skips 36 = .ok (.if_icmp .gt 16, 3) := by decide +kernel
theorem dX11_skips_39 : decode cX11_skips 39 = .ok (.aload_n 0, 1) := by decide +kernel
theorem dX11_skips_40 : decode cX11_skips 40 = .ok (.dup, 1) := by decide +kernel
theorem dX11_skips_41 : decode cX11_skips 41 = .ok (.getfield 326, 3) := by decide +kernel
theorem dX11_skips_44 : decode cX11_skips 44 = .ok (.iconst 1, 1) := by decide +kernel
theorem dX11_skips_45 : decode cX11_skips 45 = .ok (.iadd, 1) := by decide +kernel
theorem dX11_skips_46 : decode cX11_skips 46 = .ok (.putfield 326, 3) := by decide +kernel
theorem dX11_skips_49 : decode cX11_skips 49 = .ok (.goto (-49), 3) := by decide +kernel
theorem dX11_skips_52 : decode cX11_skips 52 = .ok (.return_, 1) := by decide +kernel
theorem dX11_takesWord_0 : decode cX11_takesWord 0 = .ok (.aload_n 0, 1) := by decide +kernel
theorem dX11_takesWord_1 : decode cX11_takesWord 1 = .ok (.lload_n 1, 1) := by decide +kernel
theorem dX11_takesWord_2 : decode cX11_takesWord 2 = .ok (.invokevirtual 343, 3) := by decide +kernel
theorem dX11_takesWord_5 : decode cX11_takesWord 5 = .ok (.ifCond .ne 5, 3) := by decide +kernel
theorem dX11_takesWord_8 : decode cX11_takesWord 8 = .ok (.iconst 0, 1) := by decide +kernel
theorem dX11_takesWord_9 : decode cX11_takesWord 9 = .ok (.ireturn, 1) := by decide +kernel
theorem dX11_takesWord_10 : decode cX11_takesWord 10 = .ok (.aload_n 0, 1) := by decide +kernel
theorem dX11_takesWord_11 : decode cX11_takesWord 11 = .ok (.invokevirtual 347, 3) := by decide +kernel
theorem dX11_takesWord_14 : decode cX11_takesWord 14 = .ok (.iconst 1, 1) := by decide +kernel
theorem dX11_takesWord_15 : decode cX11_takesWord 15 = .ok (.ireturn, 1) := by decide +kernel
theorem dX11_lays_0 : decode cX11_lays 0 = .ok (.aload_n 0, 1) := by decide +kernel
theorem dX11_lays_1 : decode cX11_lays 1 = .ok (.getfield 92, 3) := by decide +kernel
theorem dX11_lays_4 : decode cX11_lays 4 = .ok (.sipush 420, 3) := by decide +kernel
theorem dX11_lays_7 : decode cX11_lays 7 = .ok (.aload_n 0, 1) := by decide +kernel
theorem dX11_lays_8 : decode cX11_lays 8 = .ok (.getfield 350, 3) := by decide +kernel
theorem dX11_lays_11 : decode cX11_lays 11 = .ok (.imul, 1) := by decide +kernel
theorem dX11_lays_12 : decode cX11_lays 12 = .ok (.aload_n 0, 1) := by decide +kernel
theorem dX11_lays_13 : decode cX11_lays 13 = .ok (.getfield 353, 3) := by decide +kernel
theorem dX11_lays_16 : decode cX11_lays 16 = .ok (.iadd, 1) := by decide +kernel
theorem dX11_lays_17 : decode cX11_lays 17 = .ok (.iload_n 1, 1) := by decide +kernel
theorem dX11_lays_18 : decode cX11_lays 18 = .ok (.iastore, 1) := by decide +kernel
theorem dX11_lays_19 : decode cX11_lays 19 = .ok (.aload_n 0, 1) := by decide +kernel
theorem dX11_lays_20 : decode cX11_lays 20 = .ok (.getfield 95, 3) := by decide +kernel
theorem dX11_lays_23 : decode cX11_lays 23 = .ok (.sipush 420, 3) := by decide +kernel
theorem dX11_lays_26 : decode cX11_lays 26 = .ok (.aload_n 0, 1) := by decide +kernel
theorem dX11_lays_27 : decode cX11_lays 27 = .ok (.getfield 350, 3) := by decide +kernel
theorem dX11_lays_30 : decode cX11_lays 30 = .ok (.imul, 1) := by decide +kernel
theorem dX11_lays_31 : decode cX11_lays 31 = .ok (.aload_n 0, 1) := by decide +kernel
theorem dX11_lays_32 : decode cX11_lays 32 = .ok (.getfield 353, 3) := by decide +kernel
theorem dX11_lays_35 : decode cX11_lays 35 = .ok (.iadd, 1) := by decide +kernel
theorem dX11_lays_36 : decode cX11_lays 36 = .ok (.iload_n 2, 1) := by decide +kernel
theorem dX11_lays_37 : decode cX11_lays 37 = .ok (.iastore, 1) := by decide +kernel
theorem dX11_lays_38 : decode cX11_lays 38 = .ok (.aload_n 0, 1) := by decide +kernel
theorem dX11_lays_39 : decode cX11_lays 39 = .ok (.dup, 1) := by decide +kernel
theorem dX11_lays_40 : decode cX11_lays 40 = .ok (.getfield 353, 3) := by decide +kernel
theorem dX11_lays_43 : decode cX11_lays 43 = .ok (.iconst 1, 1) := by decide +kernel
theorem dX11_lays_44 : decode cX11_lays 44 = .ok (.iadd, 1) := by decide +kernel
theorem dX11_lays_45 : decode cX11_lays 45 = .ok (.putfield 353, 3) := by decide +kernel
theorem dX11_lays_48 : decode cX11_lays 48 = .ok (.return_, 1) := by decide +kernel
theorem dX11_waits_0 : decode cX11_waits 0 = .ok (.aload_n 0, 1) := by decide +kernel
theorem dX11_waits_1 : decode cX11_waits 1 = .ok (.getfield 98, 3) := by decide +kernel
theorem dX11_waits_4 : decode cX11_waits 4 = .ok (.aload_n 0, 1) := by decide +kernel
theorem dX11_waits_5 : decode cX11_waits 5 = .ok (.getfield 356, 3) := by decide +kernel
theorem dX11_waits_8 : decode cX11_waits 8 = .ok (.iload_n 1, 1) := by decide +kernel
theorem dX11_waits_9 : decode cX11_waits 9 = .ok (.iastore, 1) := by decide +kernel
theorem dX11_waits_10 : decode cX11_waits 10 = .ok (.aload_n 0, 1) := by decide +kernel
theorem dX11_waits_11 : decode cX11_waits 11 = .ok (.dup, 1) := by decide +kernel
theorem dX11_waits_12 : decode cX11_waits 12 = .ok (.getfield 356, 3) := by decide +kernel
theorem dX11_waits_15 : decode cX11_waits 15 = .ok (.iconst 1, 1) := by decide +kernel
theorem dX11_waits_16 : decode cX11_waits 16 = .ok (.iadd, 1) := by decide +kernel
theorem dX11_waits_17 : decode cX11_waits 17 = .ok (.putfield 356, 3) := by decide +kernel
theorem dX11_waits_20 : decode cX11_waits 20 = .ok (.return_, 1) := by decide +kernel
theorem dX11_pops_0 : decode cX11_pops 0 = .ok (.aload_n 0, 1) := by decide +kernel
theorem dX11_pops_1 : decode cX11_pops 1 = .ok (.dup, 1) := by decide +kernel
theorem dX11_pops_2 : decode cX11_pops 2 = .ok (.getfield 356, 3) := by decide +kernel
theorem dX11_pops_5 : decode cX11_pops 5 = .ok (.iconst 1, 1) := by decide +kernel
theorem dX11_pops_6 : decode cX11_pops 6 = .ok (.isub, 1) := by decide +kernel
theorem dX11_pops_7 : decode cX11_pops 7 = .ok (.putfield 356, 3) := by decide +kernel
theorem dX11_pops_10 : decode cX11_pops 10 = .ok (.aload_n 0, 1) := by decide +kernel
theorem dX11_pops_11 : decode cX11_pops 11 = .ok (.aload_n 0, 1) := by decide +kernel
theorem dX11_pops_12 : decode cX11_pops 12 = .ok (.getfield 98, 3) := by decide +kernel
theorem dX11_pops_15 : decode cX11_pops 15 = .ok (.aload_n 0, 1) := by decide +kernel
theorem dX11_pops_16 : decode cX11_pops 16 = .ok (.getfield 356, 3) := by decide +kernel
theorem dX11_pops_19 : decode cX11_pops 19 = .ok (.iaload, 1) := by decide +kernel
theorem dX11_pops_20 : decode cX11_pops 20 = .ok (.iconst 0, 1) := by decide +kernel
theorem dX11_pops_21 : decode cX11_pops 21 = .ok (.invokevirtual 359, 3) := by decide +kernel
theorem dX11_pops_24 : decode cX11_pops 24 = .ok (.return_, 1) := by decide +kernel
theorem dX11_opens_0 : decode cX11_opens 0 = .ok (.aload_n 0, 1) := by decide +kernel
theorem dX11_opens_1 : decode cX11_opens 1 = .ok (.getfield 363, 3) := by decide +kernel
theorem dX11_opens_4 : decode cX11_opens 4 = .ok (.bipush 10, 2) := by decide +kernel
theorem dX11_opens_6 : decode cX11_opens 6 = .ok (.if_icmp .ne 10, 3) := by decide +kernel
theorem dX11_opens_9 : decode cX11_opens 9 = .ok (.aload_n 0, 1) := by decide +kernel
theorem dX11_opens_10 : decode cX11_opens 10 = .ok (.iconst 2, 1) := by decide +kernel
theorem dX11_opens_11 : decode cX11_opens 11 = .ok (.iload_n 1, 1) := by decide +kernel
theorem dX11_opens_12 : decode cX11_opens 12 = .ok (.invokevirtual 337, 3) := by decide +kernel
theorem dX11_opens_15 : decode cX11_opens 15 = .ok (.ireturn, 1) := by decide +kernel
theorem dX11_opens_16 : decode cX11_opens 16 = .ok (.aload_n 0, 1) := by decide +kernel
theorem dX11_opens_17 : decode cX11_opens 17 = .ok (.dup, 1) := by decide +kernel
theorem dX11_opens_18 : decode cX11_opens 18 = .ok (.getfield 363, 3) := by decide +kernel
theorem dX11_opens_21 : decode cX11_opens 21 = .ok (.iconst 1, 1) := by decide +kernel
theorem dX11_opens_22 : decode cX11_opens 22 = .ok (.iadd, 1) := by decide +kernel
theorem dX11_opens_23 : decode cX11_opens 23 = .ok (.putfield 363, 3) := by decide +kernel
theorem dX11_opens_26 : decode cX11_opens 26 = .ok (.iconst 1, 1) := by decide +kernel
theorem dX11_opens_27 : decode cX11_opens 27 = .ok (.ireturn, 1) := by decide +kernel
theorem dX11_makes_0 : decode cX11_makes 0 = .ok (.aload_n 0, 1) := by decide +kernel
theorem dX11_makes_1 : decode cX11_makes 1 = .ok (.getfield 366, 3) := by decide +kernel
theorem dX11_makes_4 : decode cX11_makes 4 = .ok (.bipush 80, 2) := by decide +kernel
theorem dX11_makes_6 : decode cX11_makes 6 = .ok (.if_icmp .ne 10, 3) := by decide +kernel
theorem dX11_makes_9 : decode cX11_makes 9 = .ok (.aload_n 0, 1) := by decide +kernel
theorem dX11_makes_10 : decode cX11_makes 10 = .ok (.iconst 3, 1) := by decide +kernel
theorem dX11_makes_11 : decode cX11_makes 11 = .ok (.iload_n 1, 1) := by decide +kernel
theorem dX11_makes_12 : decode cX11_makes 12 = .ok (.invokevirtual 337, 3) := by decide +kernel
theorem dX11_makes_15 : decode cX11_makes 15 = .ok (.ireturn, 1) := by decide +kernel
theorem dX11_makes_16 : decode cX11_makes 16 = .ok (.aload_n 0, 1) := by decide +kernel
theorem dX11_makes_17 : decode cX11_makes 17 = .ok (.dup, 1) := by decide +kernel
theorem dX11_makes_18 : decode cX11_makes 18 = .ok (.getfield 366, 3) := by decide +kernel
theorem dX11_makes_21 : decode cX11_makes 21 = .ok (.iconst 1, 1) := by decide +kernel
theorem dX11_makes_22 : decode cX11_makes 22 = .ok (.iadd, 1) := by decide +kernel
theorem dX11_makes_23 : decode cX11_makes 23 = .ok (.putfield 366, 3) := by decide +kernel
theorem dX11_makes_26 : decode cX11_makes 26 = .ok (.iconst 1, 1) := by decide +kernel
theorem dX11_makes_27 : decode cX11_makes 27 = .ok (.ireturn, 1) := by decide +kernel
theorem dX11_isTop_0 : decode cX11_isTop 0 = .ok (.aload_n 0, 1) := by decide +kernel
theorem dX11_isTop_1 : decode cX11_isTop 1 = .ok (.getfield 356, 3) := by decide +kernel
theorem dX11_isTop_4 : decode cX11_isTop 4 = .ok (.iload_n 1, 1) := by decide +kernel
theorem dX11_isTop_5 : decode cX11_isTop 5 = .ok (.if_icmp .le 22, 3) := by decide +kernel
theorem dX11_isTop_8 : decode cX11_isTop 8 = .ok (.aload_n 0, 1) := by decide +kernel
theorem dX11_isTop_9 : decode cX11_isTop 9 = .ok (.getfield 98, 3) := by decide +kernel
theorem dX11_isTop_12 : decode cX11_isTop 12 = .ok (.aload_n 0, 1) := by decide +kernel
theorem dX11_isTop_13 : decode cX11_isTop 13 = .ok (.getfield 356, 3) := by decide +kernel
theorem dX11_isTop_16 : decode cX11_isTop 16 = .ok (.iconst 1, 1) := by decide +kernel
theorem dX11_isTop_17 : decode cX11_isTop 17 = .ok (.isub, 1) := by decide +kernel
theorem dX11_isTop_18 : decode cX11_isTop 18 = .ok (.iaload, 1) := by decide +kernel
theorem dX11_isTop_19 : decode cX11_isTop 19 = .ok (.iload_n 2, 1) := by decide +kernel
theorem dX11_isTop_20 : decode cX11_isTop 20 = .ok (.if_icmp .ne 7, 3) := by decide +kernel
theorem dX11_isTop_23 : decode cX11_isTop 23 = .ok (.iconst 1, 1) := by decide +kernel
theorem dX11_isTop_24 : decode cX11_isTop 24 = .ok (.goto 4, 3) := by decide +kernel
theorem dX11_isTop_27 : decode cX11_isTop 27 = .ok (.iconst 0, 1) := by decide +kernel
theorem dX11_isTop_28 : decode cX11_isTop 28 = .ok (.ireturn, 1) := by decide +kernel
theorem dX11_has_0 : decode cX11_has 0 = .ok (.iload_n 1, 1) := by decide +kernel
theorem dX11_has_1 : decode cX11_has 1 = .ok (.istore_n 3, 1) := by decide +kernel
theorem dX11_has_2 : decode cX11_has 2 = .ok (.iload_n 3, 1) := by decide +kernel
theorem dX11_has_3 : decode cX11_has 3 = .ok (.aload_n 0, 1) := by decide +kernel
theorem dX11_has_4 : decode cX11_has 4 = .ok (.getfield 356, 3) := by decide +kernel
theorem dX11_has_7 : decode cX11_has 7 = .ok (.if_icmp .ge 21, 3) := by decide +kernel
theorem dX11_has_10 : decode cX11_has 10 = .ok (.aload_n 0, 1) := by decide +kernel
theorem dX11_has_11 : decode cX11_has 11 = .ok (.getfield 98, 3) := by decide +kernel
theorem dX11_has_14 : decode cX11_has 14 = .ok (.iload_n 3, 1) := by decide +kernel
theorem dX11_has_15 : decode cX11_has 15 = .ok (.iaload, 1) := by decide +kernel
theorem dX11_has_16 : decode cX11_has 16 = .ok (.iload_n 2, 1) := by decide +kernel
theorem dX11_has_17 : decode cX11_has 17 = .ok (.if_icmp .ne 5, 3) := by decide +kernel
theorem dX11_has_20 : decode cX11_has 20 = .ok (.iconst 1, 1) := by decide +kernel
theorem dX11_has_21 : decode cX11_has 21 = .ok (.ireturn, 1) := by decide +kernel
theorem dX11_has_22 : decode cX11_has 22 = .ok (.iinc 3 1, 3) := by decide +kernel
theorem dX11_has_25 : decode cX11_has 25 = .ok (.goto (-23), 3) := by decide +kernel
theorem dX11_has_28 : decode cX11_has 28 = .ok (.iconst 0, 1) := by decide +kernel
theorem dX11_has_29 : decode cX11_has 29 = .ok (.ireturn, 1) := by decide +kernel
theorem dX11_begins_0 : decode cX11_begins 0 = .ok (.aload_n 0, 1) := by decide +kernel
theorem dX11_begins_1 : decode cX11_begins 1 = .ok (.invokevirtual 329, 3) := by decide +kernel
theorem dX11_begins_4 : decode cX11_begins 4 = .ok (.istore_n 1, 1) := by decide +kernel
theorem dX11_begins_5 : decode cX11_begins 5 = .ok (.aload_n 0, 1) := by decide +kernel
theorem dX11_begins_6 : decode cX11_begins 6 = .ok (.getfield 326, 3) := by decide +kernel
theorem dX11_begins_9 : decode cX11_begins 9 = .ok (.istore_n 2, 1) := by decide +kernel
theorem dX11_begins_10 : decode cX11_begins 10 = .ok (.aload_n 0, 1) := by decide +kernel
theorem dX11_begins_11 : decode cX11_begins 11 = .ok (.invokevirtual 333, 3) := by decide +kernel
theorem dX11_begins_14 : decode cX11_begins 14 = .ok (.ifCond .eq 31, 3) := by decide +kernel
theorem dX11_begins_17 : decode cX11_begins 17 = .ok (.aload_n 0, 1) := by decide +kernel
theorem dX11_begins_18 : decode cX11_begins 18 = .ok (.invokevirtual 369, 3) := by decide +kernel
theorem dX11_begins_21 : decode cX11_begins 21 = .ok (.ifCond .eq 11, 3) := by decide +kernel
theorem dX11_begins_24 : decode cX11_begins 24 = .ok (.aload_n 0, 1) := by decide +kernel
theorem dX11_begins_25 : decode cX11_begins 25 = .ok (.iload_n 2, 1) := by decide +kernel
theorem dX11_begins_26 : decode cX11_begins 26 = .ok (.invokevirtual 372, 3) := by decide +kernel
theorem dX11_begins_29 : decode cX11_begins 29 = .ok (.ifCond .ne 5, 3) := by decide +kernel
theorem dX11_begins_32 : decode cX11_begins 32 = .ok (.iconst (-1), 1) := by decide +kernel
theorem dX11_begins_33 : decode cX11_begins 33 = .ok (.ireturn, 1) := by decide +kernel
theorem dX11_begins_34 : decode cX11_begins 34 = .ok (.aload_n 0, 1) := by decide +kernel
theorem dX11_begins_35 : decode cX11_begins 35 = .ok (.iconst 0, 1) := by decide +kernel
theorem dX11_begins_36 : decode cX11_begins 36 = .ok (.aload_n 0, 1) := by decide +kernel
theorem dX11_begins_37 : decode cX11_begins 37 = .ok (.getfield 340, 3) := by decide +kernel
theorem dX11_begins_40 : decode cX11_begins 40 = .ok (.invokevirtual 359, 3) := by decide +kernel
theorem dX11_begins_43 : decode cX11_begins 43 = .ok (.iconst 1, 1) := by decide +kernel
theorem dX11_begins_44 : decode cX11_begins 44 = .ok (.ireturn, 1) := by decide +kernel
theorem dX11_begins_45 : decode cX11_begins 45 = .ok (.iload_n 1, 1) := by decide +kernel
theorem dX11_begins_46 : decode cX11_begins 46 = .ok (.bipush 40, 2) := by decide +kernel
theorem dX11_begins_48 : decode cX11_begins 48 = .ok (.if_icmp .ne 39, 3) := by decide +kernel
theorem dX11_begins_51 : decode cX11_begins 51 = .ok (.aload_n 0, 1) := by decide +kernel
theorem dX11_begins_52 : decode cX11_begins 52 = .ok (.iload_n 2, 1) := by decide +kernel
theorem dX11_begins_53 : decode cX11_begins 53 = .ok (.invokevirtual 375, 3) := by decide +kernel
theorem dX11_begins_56 : decode cX11_begins 56 = .ok (.ifCond .eq 11, 3) := by decide +kernel
theorem dX11_begins_59 : decode cX11_begins 59 = .ok (.aload_n 0, 1) := by decide +kernel
theorem dX11_begins_60 : decode cX11_begins 60 = .ok (.iload_n 2, 1) := by decide +kernel
theorem dX11_begins_61 : decode cX11_begins 61 = .ok (.invokevirtual 372, 3) := by decide +kernel
theorem dX11_begins_64 : decode cX11_begins 64 = .ok (.ifCond .ne 5, 3) := by decide +kernel
theorem dX11_begins_67 : decode cX11_begins 67 = .ok (.iconst (-1), 1) := by decide +kernel
theorem dX11_begins_68 : decode cX11_begins 68 = .ok (.ireturn, 1) := by decide +kernel
theorem dX11_begins_69 : decode cX11_begins 69 = .ok (.aload_n 0, 1) := by decide +kernel
theorem dX11_begins_70 : decode cX11_begins 70 = .ok (.bipush 13, 2) := by decide +kernel
theorem dX11_begins_72 : decode cX11_begins 72 = .ok (.invokevirtual 378, 3) := by decide +kernel
theorem dX11_begins_75 : decode cX11_begins 75 = .ok (.aload_n 0, 1) := by decide +kernel
theorem dX11_begins_76 : decode cX11_begins 76 = .ok (.dup, 1) := by decide +kernel
theorem dX11_begins_77 : decode cX11_begins 77 = .ok (.getfield 326, 3) := by decide +kernel
theorem dX11_begins_80 : decode cX11_begins 80 = .ok (.iconst 1, 1) := by decide +kernel
theorem dX11_begins_81 : decode cX11_begins 81 = .ok (.iadd, 1) := by decide +kernel
theorem dX11_begins_82 : decode cX11_begins 82 = .ok (.putfield 326, 3) := by decide +kernel
theorem dX11_begins_85 : decode cX11_begins 85 = .ok (.iconst 0, 1) := by decide +kernel
theorem dX11_begins_86 : decode cX11_begins 86 = .ok (.ireturn, 1) := by decide +kernel
theorem dX11_begins_87 : decode cX11_begins 87 = .ok (.iconst 0, 1) := by decide +kernel
theorem dX11_begins_88 : decode cX11_begins 88 = .ok (.istore_n 3, 1) := by decide +kernel
theorem dX11_begins_89 : decode cX11_begins 89 = .ok (.iload_n 3, 1) := by decide +kernel
theorem dX11_begins_90 : decode cX11_begins 90 = .ok (.bipush 9, 2) := by decide +kernel
theorem dX11_begins_92 : decode cX11_begins 92 = .ok (.if_icmp .ge 47, 3) := by decide +kernel
theorem dX11_begins_95 : decode cX11_begins 95 = .ok (.aload_n 0, 1) := by decide +kernel
theorem dX11_begins_96 : decode cX11_begins 96 = .ok (.aload_n 0, 1) := by decide +kernel
theorem dX11_begins_97 : decode cX11_begins 97 = .ok (.getfield 119, 3) := by decide +kernel
theorem dX11_begins_100 : decode cX11_begins 100 = .ok (.iload_n 3, 1) := by decide +kernel
theorem dX11_begins_101 : decode cX11_begins 101 = .ok (.laload, 1) := by decide +kernel
theorem dX11_begins_102 : decode cX11_begins 102 = .ok (.invokevirtual 343, 3) := by decide +kernel
theorem dX11_begins_105 : decode cX11_begins 105 = .ok (.ifCond .ne 6, 3) := by decide +kernel
theorem dX11_begins_108 : decode cX11_begins 108 = .ok (.goto 25, 3) := by decide +kernel
theorem dX11_begins_111 : decode cX11_begins 111 = .ok (.aload_n 0, 1) := by decide +kernel
theorem dX11_begins_112 : decode cX11_begins 112 = .ok (.iload_n 2, 1) := by decide +kernel
theorem dX11_begins_113 : decode cX11_begins 113 = .ok (.invokevirtual 372, 3) := by decide +kernel
theorem dX11_begins_116 : decode cX11_begins 116 = .ok (.ifCond .ne 5, 3) := by decide +kernel
theorem dX11_begins_119 : decode cX11_begins 119 = .ok (.iconst (-1), 1) := by decide +kernel
theorem dX11_begins_120 : decode cX11_begins 120 = .ok (.ireturn, 1) := by decide +kernel
theorem dX11_begins_121 : decode cX11_begins 121 = .ok (.aload_n 0, 1) := by decide +kernel
theorem dX11_begins_122 : decode cX11_begins 122 = .ok (.invokevirtual 347, 3) := by decide +kernel
theorem dX11_begins_125 : decode cX11_begins 125 = .ok (.aload_n 0, 1) := by decide +kernel
theorem dX11_begins_126 : decode cX11_begins 126 = .ok (.iconst 1, 1) := by decide +kernel
theorem dX11_begins_127 : decode cX11_begins 127 = .ok (.iload_n 3, 1) := by decide +kernel
theorem dX11_begins_128 : decode cX11_begins 128 = .ok (.invokevirtual 359, 3) := by decide +kernel
theorem dX11_begins_131 : decode cX11_begins 131 = .ok (.iconst 1, 1) := by decide +kernel
theorem dX11_begins_132 : decode cX11_begins 132 = .ok (.ireturn, 1) := by decide +kernel
theorem dX11_begins_133 : decode cX11_begins 133 = .ok (.iinc 3 1, 3) := by decide +kernel
theorem dX11_begins_136 : decode cX11_begins 136 = .ok (.goto (-47), 3) := by decide +kernel
theorem dX11_begins_139 : decode cX11_begins 139 = .ok (.aload_n 0, 1) := by decide +kernel
theorem dX11_begins_140 : decode cX11_begins 140 = .ok (.iconst 0, 1) := by decide +kernel
theorem dX11_begins_141 : decode cX11_begins 141 = .ok (.iload_n 2, 1) := by decide +kernel
theorem dX11_begins_142 : decode cX11_begins 142 = .ok (.invokevirtual 337, 3) := by decide +kernel
theorem dX11_begins_145 : decode cX11_begins 145 = .ok (.pop, 1) := by decide +kernel
theorem dX11_begins_146 : decode cX11_begins 146 = .ok (.iconst (-1), 1) := by decide +kernel
theorem dX11_begins_147 : decode cX11_begins 147 = .ok (.ireturn, 1) := by decide +kernel
theorem dX11_endsSum_0 : decode cX11_endsSum 0 = .ok (.aload_n 0, 1) := by decide +kernel
theorem dX11_endsSum_1 : decode cX11_endsSum 1 = .ok (.iload_n 1, 1) := by decide +kernel
theorem dX11_endsSum_2 : decode cX11_endsSum 2 = .ok (.iconst 3, 1) := by decide +kernel
theorem dX11_endsSum_3 : decode cX11_endsSum 3 = .ok (.invokevirtual 380, 3) := by decide +kernel
theorem dX11_endsSum_6 : decode cX11_endsSum 6 = .ok (.ifCond .ne 12, 3) := by decide +kernel
theorem dX11_endsSum_9 : decode cX11_endsSum 9 = .ok (.aload_n 0, 1) := by decide +kernel
theorem dX11_endsSum_10 : decode cX11_endsSum 10 = .ok (.iload_n 1, 1) := by decide +kernel
theorem dX11_endsSum_11 : decode cX11_endsSum 11 = .ok (.iconst 4, 1) := by decide +kernel
theorem dX11_endsSum_12 : decode cX11_endsSum 12 = .ok (.invokevirtual 380, 3) := by decide +kernel
theorem dX11_endsSum_15 : decode cX11_endsSum 15 = .ok (.ifCond .eq 7, 3) := by decide +kernel
theorem dX11_endsSum_18 : decode cX11_endsSum 18 = .ok (.aload_n 0, 1) := by decide +kernel
theorem dX11_endsSum_19 : decode cX11_endsSum 19 = .ok (.invokevirtual 383, 3) := by decide +kernel
theorem dX11_endsSum_22 : decode cX11_endsSum 22 = .ok (.return_, 1) := by decide +kernel
theorem dX11_sum_0 : decode cX11_sum 0 = .ok (.aload_n 0, 1) := by decide +kernel
theorem dX11_sum_1 : decode cX11_sum 1 = .ok (.getfield 356, 3) := by decide +kernel
theorem dX11_sum_4 : decode cX11_sum 4 = .ok (.istore_n 1, 1) := by decide +kernel
theorem dX11_sum_5 : decode cX11_sum 5 = .ok (.aload_n 0, 1) := by decide +kernel
theorem dX11_sum_6 : decode cX11_sum 6 = .ok (.invokevirtual 386, 3) := by decide +kernel
theorem dX11_sum_9 : decode cX11_sum 9 = .ok (.istore_n 2, 1) := by decide +kernel
theorem dX11_sum_10 : decode cX11_sum 10 = .ok (.iload_n 2, 1) := by decide +kernel
theorem dX11_sum_11 : decode cX11_sum 11 = .ok (.ifCond .ge 5, 3) := by decide +kernel
theorem dX11_sum_14 : decode cX11_sum 14 = .ok (.iconst 0, 1) := by decide +kernel
theorem dX11_sum_15 : decode cX11_sum 15 = .ok (.ireturn, 1) := by decide +kernel
theorem dX11_sum_16 : decode cX11_sum 16 = .ok (.iload_n 2, 1) := by decide +kernel
theorem dX11_sum_17 : decode cX11_sum 17 = .ok (.ifCond .ne 6, 3) := by decide +kernel
theorem dX11_sum_20 : decode cX11_sum 20 = .ok (.goto (-15), 3) := by decide +kernel
theorem dX11_sum_23 : decode cX11_sum 23 = .ok (.aload_n 0, 1) := by decide +kernel
theorem dX11_sum_24 : decode cX11_sum 24 = .ok (.iload_n 1, 1) := by decide +kernel
theorem dX11_sum_25 : decode cX11_sum 25 = .ok (.iconst 2, 1) := by decide +kernel
theorem dX11_sum_26 : decode cX11_sum 26 = .ok (.invokevirtual 380, 3) := by decide +kernel
theorem dX11_sum_29 : decode cX11_sum 29 = .ok (.ifCond .eq 7, 3) := by decide +kernel
theorem dX11_sum_32 : decode cX11_sum 32 = .ok (.aload_n 0, 1) := by decide +kernel
theorem dX11_sum_33 : decode cX11_sum 33 = .ok (.invokevirtual 383, 3) := by decide +kernel
theorem dX11_sum_36 : decode cX11_sum 36 = .ok (.aload_n 0, 1) := by decide +kernel
theorem dX11_sum_37 : decode cX11_sum 37 = .ok (.invokevirtual 329, 3) := by decide +kernel
theorem dX11_sum_40 : decode cX11_sum 40 = .ok (.bipush 41, 2) := by decide +kernel
theorem dX11_sum_42 : decode cX11_sum 42 = .ok (.if_icmp .ne 64, 3) := by decide +kernel
theorem dX11_sum_45 : decode cX11_sum 45 = .ok (.aload_n 0, 1) := by decide +kernel
theorem dX11_sum_46 : decode cX11_sum 46 = .ok (.iload_n 1, 1) := by decide +kernel
theorem dX11_sum_47 : decode cX11_sum 47 = .ok (.bipush 13, 2) := by decide +kernel
theorem dX11_sum_49 : decode cX11_sum 49 = .ok (.invokevirtual 389, 3) := by decide +kernel
theorem dX11_sum_52 : decode cX11_sum 52 = .ok (.ifCond .eq 54, 3) := by decide +kernel
theorem dX11_sum_55 : decode cX11_sum 55 = .ok (.aload_n 0, 1) := by decide +kernel
theorem dX11_sum_56 : decode cX11_sum 56 = .ok (.iload_n 1, 1) := by decide +kernel
theorem dX11_sum_57 : decode cX11_sum 57 = .ok (.invokevirtual 392, 3) := by decide +kernel
theorem dX11_sum_60 : decode cX11_sum 60 = .ok (.aload_n 0, 1) := by decide +kernel
theorem dX11_sum_61 : decode cX11_sum 61 = .ok (.dup, 1) := by decide +kernel
theorem dX11_sum_62 : decode cX11_sum 62 = .ok (.getfield 356, 3) := by decide +kernel
theorem dX11_sum_65 : decode cX11_sum 65 = .ok (.iconst 1, 1) := by decide +kernel
theorem dX11_sum_66 : decode cX11_sum 66 = .ok (.isub, 1) := by decide +kernel
theorem dX11_sum_67 : decode cX11_sum 67 = .ok (.putfield 356, 3) := by decide +kernel
theorem dX11_sum_70 : decode cX11_sum 70 = .ok (.aload_n 0, 1) := by decide +kernel
theorem dX11_sum_71 : decode cX11_sum 71 = .ok (.dup, 1) := by decide +kernel
theorem dX11_sum_72 : decode cX11_sum 72 = .ok (.getfield 363, 3) := by decide +kernel
theorem dX11_sum_75 : decode cX11_sum 75 = .ok (.iconst 1, 1) := by decide +kernel
theorem dX11_sum_76 : decode cX11_sum 76 = .ok (.isub, 1) := by decide +kernel
theorem dX11_sum_77 : decode cX11_sum 77 = .ok (.putfield 363, 3) := by decide +kernel
theorem dX11_sum_80 : decode cX11_sum 80 = .ok (.aload_n 0, 1) := by decide +kernel
theorem dX11_sum_81 : decode cX11_sum 81 = .ok (.dup, 1) := by decide +kernel
theorem dX11_sum_82 : decode cX11_sum 82 = .ok (.getfield 326, 3) := by decide +kernel
theorem dX11_sum_85 : decode cX11_sum 85 = .ok (.iconst 1, 1) := by decide +kernel
theorem dX11_sum_86 : decode cX11_sum 86 = .ok (.iadd, 1) := by decide +kernel
theorem dX11_sum_87 : decode cX11_sum 87 = .ok (.putfield 326, 3) := by decide +kernel
theorem dX11_sum_90 : decode cX11_sum 90 = .ok (.aload_n 0, 1) := by decide +kernel
theorem dX11_sum_91 : decode cX11_sum 91 = .ok (.iload_n 1, 1) := by decide +kernel
theorem dX11_sum_92 : decode cX11_sum 92 = .ok (.iconst 2, 1) := by decide +kernel
theorem dX11_sum_93 : decode cX11_sum 93 = .ok (.invokevirtual 380, 3) := by decide +kernel
theorem dX11_sum_96 : decode cX11_sum 96 = .ok (.ifCond .eq (-60), 3) := by decide +kernel
theorem dX11_sum_99 : decode cX11_sum 99 = .ok (.aload_n 0, 1) := by decide +kernel
theorem dX11_sum_100 : decode cX11_sum 100 = .ok (.invokevirtual 383, 3) := by decide +kernel
theorem dX11_sum_103 : decode cX11_sum 103 = .ok (.goto (-67), 3) := by decide +kernel
theorem dX11_sum_106 : decode cX11_sum 106 = .ok (.aload_n 0, 1) := by decide +kernel
theorem dX11_sum_107 : decode cX11_sum 107 = .ok (.invokevirtual 329, 3) := by decide +kernel
theorem dX11_sum_110 : decode cX11_sum 110 = .ok (.istore_n 3, 1) := by decide +kernel
theorem dX11_sum_111 : decode cX11_sum 111 = .ok (.iload_n 3, 1) := by decide +kernel
theorem dX11_sum_112 : decode cX11_sum 112 = .ok (.bipush 42, 2) := by decide +kernel
theorem dX11_sum_114 : decode cX11_sum 114 = .ok (.if_icmp .ne 11, 3) := by decide +kernel
theorem dX11_sum_117 : decode cX11_sum 117 = .ok (.aload_n 0, 1) := by decide +kernel
theorem dX11_sum_118 : decode cX11_sum 118 = .ok (.iconst 2, 1) := by decide +kernel
theorem dX11_sum_119 : decode cX11_sum 119 = .ok (.invokevirtual 378, 3) := by decide +kernel
theorem dX11_sum_122 : decode cX11_sum 122 = .ok (.goto 35, 3) := by decide +kernel
theorem dX11_sum_125 : decode cX11_sum 125 = .ok (.iload_n 3, 1) := by decide +kernel
theorem dX11_sum_126 : decode cX11_sum 126 = .ok (.bipush 43, 2) := by decide +kernel
theorem dX11_sum_128 : decode cX11_sum 128 = .ok (.if_icmp .eq 9, 3) := by decide +kernel
theorem dX11_sum_131 : decode cX11_sum 131 = .ok (.iload_n 3, 1) := by decide +kernel
theorem dX11_sum_132 : decode cX11_sum 132 = .ok (.bipush 45, 2) := by decide +kernel
theorem dX11_sum_134 : decode cX11_sum 134 = .ok (.if_icmp .ne 36, 3) := by decide +kernel
theorem dX11_sum_137 : decode cX11_sum 137 = .ok (.aload_n 0, 1) := by decide +kernel
theorem dX11_sum_138 : decode cX11_sum 138 = .ok (.iload_n 1, 1) := by decide +kernel
theorem dX11_sum_139 : decode cX11_sum 139 = .ok (.invokevirtual 392, 3) := by decide +kernel
theorem dX11_sum_142 : decode cX11_sum 142 = .ok (.aload_n 0, 1) := by decide +kernel
theorem dX11_sum_143 : decode cX11_sum 143 = .ok (.iload_n 3, 1) := by decide +kernel
theorem dX11_sum_144 : decode cX11_sum 144 = .ok (.bipush 43, 2) := by decide +kernel
theorem dX11_sum_146 : decode cX11_sum 146 = .ok (.if_icmp .ne 7, 3) := by decide +kernel
theorem dX11_sum_149 : decode cX11_sum 149 = .ok (.iconst 3, 1) := by decide +kernel
theorem dX11_sum_150 : decode cX11_sum 150 = .ok (.goto 4, 3) := by decide +kernel
theorem dX11_sum_153 : decode cX11_sum 153 = .ok (.iconst 4, 1) := by decide +kernel
theorem dX11_sum_154 : decode cX11_sum 154 = .ok (.invokevirtual 378, 3) := by decide +kernel
theorem dX11_sum_157 : decode cX11_sum 157 = .ok (.aload_n 0, 1) := by decide +kernel
theorem dX11_sum_158 : decode cX11_sum 158 = .ok (.dup, 1) := by decide +kernel
theorem dX11_sum_159 : decode cX11_sum 159 = .ok (.getfield 326, 3) := by decide +kernel
theorem dX11_sum_162 : decode cX11_sum 162 = .ok (.iconst 1, 1) := by decide +kernel
theorem dX11_sum_163 : decode cX11_sum 163 = .ok (.iadd, 1) := by decide +kernel
theorem dX11_sum_164 : decode cX11_sum 164 = .ok (.putfield 326, 3) := by decide +kernel
theorem dX11_sum_167 : decode cX11_sum 167 = .ok (.goto (-162), 3) := by decide +kernel
theorem dX11_sum_170 : decode cX11_sum 170 = .ok (.aload_n 0, 1) := by decide +kernel
theorem dX11_sum_171 : decode cX11_sum 171 = .ok (.iload_n 1, 1) := by decide +kernel
theorem dX11_sum_172 : decode cX11_sum 172 = .ok (.bipush 13, 2) := by decide +kernel
theorem dX11_sum_174 : decode cX11_sum 174 = .ok (.invokevirtual 389, 3) := by decide +kernel
theorem dX11_sum_177 : decode cX11_sum 177 = .ok (.ifCond .eq 13, 3) := by decide +kernel
theorem dX11_sum_180 : decode cX11_sum 180 = .ok (.aload_n 0, 1) := by decide +kernel
theorem dX11_sum_181 : decode cX11_sum 181 = .ok (.iconst 0, 1) := by decide +kernel
theorem dX11_sum_182 : decode cX11_sum 182 = .ok (.aload_n 0, 1) := by decide +kernel
theorem dX11_sum_183 : decode cX11_sum 183 = .ok (.getfield 326, 3) := by decide +kernel
theorem dX11_sum_186 : decode cX11_sum 186 = .ok (.invokevirtual 337, 3) := by decide +kernel
theorem dX11_sum_189 : decode cX11_sum 189 = .ok (.ireturn, 1) := by decide +kernel
theorem dX11_sum_190 : decode cX11_sum 190 = .ok (.aload_n 0, 1) := by decide +kernel
theorem dX11_sum_191 : decode cX11_sum 191 = .ok (.iload_n 1, 1) := by decide +kernel
theorem dX11_sum_192 : decode cX11_sum 192 = .ok (.invokevirtual 392, 3) := by decide +kernel
theorem dX11_sum_195 : decode cX11_sum 195 = .ok (.iconst 1, 1) := by decide +kernel
theorem dX11_sum_196 : decode cX11_sum 196 = .ok (.ireturn, 1) := by decide +kernel
theorem dX11_fact_0 : decode cX11_fact 0 = .ok (.aload_n 0, 1) := by decide +kernel
theorem dX11_fact_1 : decode cX11_fact 1 = .ok (.invokevirtual 395, 3) := by decide +kernel
theorem dX11_fact_4 : decode cX11_fact 4 = .ok (.ifCond .ne 5, 3) := by decide +kernel
theorem dX11_fact_7 : decode cX11_fact 7 = .ok (.iconst 0, 1) := by decide +kernel
theorem dX11_fact_8 : decode cX11_fact 8 = .ok (.ireturn, 1) := by decide +kernel
theorem dX11_fact_9 : decode cX11_fact 9 = .ok (.aload_n 0, 1) := by decide +kernel
theorem dX11_fact_10 : decode cX11_fact 10 = .ok (.invokevirtual 329, 3) := by decide +kernel
theorem dX11_fact_13 : decode cX11_fact 13 = .ok (.istore_n 1, 1) := by decide +kernel
theorem dX11_fact_14 : decode cX11_fact 14 = .ok (.aload_n 0, 1) := by decide +kernel
theorem dX11_fact_15 : decode cX11_fact 15 = .ok (.getfield 326, 3) := by decide +kernel
theorem dX11_fact_18 : decode cX11_fact 18 = .ok (.istore_n 2, 1) := by decide +kernel
theorem dX11_fact_19 : decode cX11_fact 19 = .ok (.iload_n 1, 1) := by decide +kernel
theorem dX11_fact_20 : decode cX11_fact 20 = .ok (.bipush 60, 2) := by decide +kernel
theorem dX11_fact_22 : decode cX11_fact 22 = .ok (.if_icmp .eq 22, 3) := by decide +kernel
theorem dX11_fact_25 : decode cX11_fact 25 = .ok (.iload_n 1, 1) := by decide +kernel
theorem dX11_fact_26 : decode cX11_fact 26 = .ok (.bipush 61, 2) := by decide +kernel
theorem dX11_fact_28 : decode cX11_fact 28 = .ok (.if_icmp .eq 16, 3) := by decide +kernel
theorem dX11_fact_31 : decode cX11_fact 31 = .ok (.iload_n 1, 1) := by decide +kernel
theorem dX11_fact_32 : decode cX11_fact 32 = .ok (.bipush 62, 2) := by decide +kernel
theorem dX11_fact_34 : decode cX11_fact 34 = .ok (.if_icmp .eq 10, 3) := by decide +kernel
theorem dX11_fact_37 : decode cX11_fact 37 = .ok (.aload_n 0, 1) := by decide +kernel
theorem dX11_fact_38 : decode cX11_fact 38 = .ok (.iconst 0, 1) := by decide +kernel
theorem dX11_fact_39 : decode cX11_fact 39 = .ok (.iload_n 2, 1) := by decide +kernel
theorem dX11_fact_40 : decode cX11_fact 40 = .ok (.invokevirtual 337, 3) := by decide +kernel
theorem dX11_fact_43 : decode cX11_fact 43 = .ok (.ireturn, 1) := by decide +kernel
theorem dX11_fact_44 : decode cX11_fact 44 = .ok (.aload_n 0, 1) := by decide +kernel
theorem dX11_fact_45 : decode cX11_fact 45 = .ok (.iload_n 2, 1) := by decide +kernel
theorem dX11_fact_46 : decode cX11_fact 46 = .ok (.invokevirtual 372, 3) := by decide +kernel
theorem dX11_fact_49 : decode cX11_fact 49 = .ok (.ifCond .ne 5, 3) := by decide +kernel
theorem dX11_fact_52 : decode cX11_fact 52 = .ok (.iconst 0, 1) := by decide +kernel
theorem dX11_fact_53 : decode cX11_fact 53 = .ok (.ireturn, 1) := by decide +kernel
theorem dX11_fact_54 : decode cX11_fact 54 = .ok (.aload_n 0, 1) := by decide +kernel
theorem dX11_fact_55 : decode cX11_fact 55 = .ok (.dup, 1) := by decide +kernel
theorem dX11_fact_56 : decode cX11_fact 56 = .ok (.getfield 326, 3) := by decide +kernel
theorem dX11_fact_59 : decode cX11_fact 59 = .ok (.iconst 1, 1) := by decide +kernel
theorem dX11_fact_60 : decode cX11_fact 60 = .ok (.iadd, 1) := by decide +kernel
theorem dX11_fact_61 : decode cX11_fact 61 = .ok (.putfield 326, 3) := by decide +kernel
theorem dX11_fact_64 : decode cX11_fact 64 = .ok (.iload_n 1, 1) := by decide +kernel
theorem dX11_fact_65 : decode cX11_fact 65 = .ok (.bipush 61, 2) := by decide +kernel
theorem dX11_fact_67 : decode cX11_fact 67 = .ok (.if_icmp .eq 32, 3) := by decide +kernel
theorem dX11_fact_70 : decode cX11_fact 70 = .ok (.aload_n 0, 1) := by decide +kernel
theorem dX11_fact_71 : decode cX11_fact 71 = .ok (.getfield 326, 3) := by decide +kernel
theorem dX11_fact_74 : decode cX11_fact 74 = .ok (.aload_n 0, 1) := by decide +kernel
theorem dX11_fact_75 : decode cX11_fact 75 = .ok (.getfield 316, 3) := by decide +kernel
theorem dX11_fact_78 : decode cX11_fact 78 = .ok (.if_icmp .ge 21, 3) := by decide +kernel
theorem dX11_fact_81 : decode cX11_fact 81 = .ok (.aload_n 0, 1) := by decide +kernel
theorem dX11_fact_82 : decode cX11_fact 82 = .ok (.getfield 61, 3) := by decide +kernel
theorem dX11_fact_85 : decode cX11_fact 85 = .ok (.aload_n 0, 1) := by decide +kernel
theorem dX11_fact_86 : decode cX11_fact 86 = .ok (.getfield 326, 3) := by decide +kernel
theorem dX11_fact_89 : decode cX11_fact 89 = .ok (.baload, 1) := by decide +kernel
theorem dX11_fact_90 : decode cX11_fact 90 = .ok (.bipush 61, 2) := by decide +kernel
theorem dX11_fact_92 : decode cX11_fact 92 = .ok (.if_icmp .ne 7, 3) := by decide +kernel
theorem dX11_fact_95 : decode cX11_fact 95 = .ok (.iconst 1, 1) := by decide +kernel
theorem dX11_fact_96 : decode cX11_fact 96 = .ok (.goto 4, 3) := by decide +kernel
theorem dX11_fact_99 : decode cX11_fact 99 = .ok (.iconst 0, 1) := by decide +kernel
theorem dX11_fact_100 : decode cX11_fact 100 = .ok (.istore_n 3, 1) := by decide +kernel
theorem dX11_fact_101 : decode cX11_fact 101 = .ok (.iload_n 3, 1) := by decide +kernel
theorem dX11_fact_102 : decode cX11_fact 102 = .ok (.ifCond .eq 13, 3) := by decide +kernel
theorem dX11_fact_105 : decode cX11_fact 105 = .ok (.aload_n 0, 1) := by decide +kernel
theorem dX11_fact_106 : decode cX11_fact 106 = .ok (.dup, 1) := by decide +kernel
theorem dX11_fact_107 : decode cX11_fact 107 = .ok (.getfield 326, 3) := by decide +kernel
theorem dX11_fact_110 : decode cX11_fact 110 = .ok (.iconst 1, 1) := by decide +kernel
theorem dX11_fact_111 : decode cX11_fact 111 = .ok (.iadd, 1) := by decide +kernel
theorem dX11_fact_112 : decode cX11_fact 112 = .ok (.putfield 326, 3) := by decide +kernel
theorem dX11_fact_115 : decode cX11_fact 115 = .ok (.iload_n 1, 1) := by decide +kernel
theorem dX11_fact_116 : decode cX11_fact 116 = .ok (.bipush 61, 2) := by decide +kernel
theorem dX11_fact_118 : decode cX11_fact 118 = .ok (.if_icmp .ne 7, 3) := by decide +kernel
theorem dX11_fact_121 : decode cX11_fact 121 = .ok (.iconst 2, 1) := by decide +kernel
theorem dX11_fact_122 : decode cX11_fact 122 = .ok (.goto 30, 3) := by decide +kernel
theorem dX11_fact_125 : decode cX11_fact 125 = .ok (.iload_n 1, 1) := by decide +kernel
theorem dX11_fact_126 : decode cX11_fact 126 = .ok (.bipush 60, 2) := by decide +kernel
theorem dX11_fact_128 : decode cX11_fact 128 = .ok (.if_icmp .ne 15, 3) := by decide +kernel
theorem dX11_fact_131 : decode cX11_fact 131 = .ok (.iload_n 3, 1) := by decide +kernel
theorem dX11_fact_132 : decode cX11_fact 132 = .ok (.ifCond .eq 7, 3) := by decide +kernel
theorem dX11_fact_135 : decode cX11_fact 135 = .ok (.iconst 1, 1) := by decide +kernel
theorem dX11_fact_136 : decode cX11_fact 136 = .ok (.goto 16, 3) := by decide +kernel
theorem dX11_fact_139 : decode cX11_fact 139 = .ok (.iconst 0, 1) := by decide +kernel
theorem dX11_fact_140 : decode cX11_fact 140 = .ok (.goto 12, 3) := by decide +kernel
theorem dX11_fact_143 : decode cX11_fact 143 = .ok (.iload_n 3, 1) := by decide +kernel
theorem dX11_fact_144 : decode cX11_fact 144 = .ok (.ifCond .eq 7, 3) := by decide +kernel
theorem dX11_fact_147 : decode cX11_fact 147 = .ok (.iconst 3, 1) := by decide +kernel
theorem dX11_fact_148 : decode cX11_fact 148 = .ok (.goto 4, 3) := by decide +kernel
theorem dX11_fact_151 : decode cX11_fact 151 = .ok (.iconst 4, 1) := by decide +kernel
theorem dX11_fact_152 : decode cX11_fact 152 = .ok (.istore 4, 2) := by decide +kernel
theorem dX11_fact_154 : decode cX11_fact 154 = .ok (.aload_n 0, 1) := by decide +kernel
theorem dX11_fact_155 : decode cX11_fact 155 = .ok (.invokevirtual 395, 3) := by decide +kernel
theorem dX11_fact_158 : decode cX11_fact 158 = .ok (.ifCond .ne 5, 3) := by decide +kernel
theorem dX11_fact_161 : decode cX11_fact 161 = .ok (.iconst 0, 1) := by decide +kernel
theorem dX11_fact_162 : decode cX11_fact 162 = .ok (.ireturn, 1) := by decide +kernel
theorem dX11_fact_163 : decode cX11_fact 163 = .ok (.aload_n 0, 1) := by decide +kernel
theorem dX11_fact_164 : decode cX11_fact 164 = .ok (.iconst 5, 1) := by decide +kernel
theorem dX11_fact_165 : decode cX11_fact 165 = .ok (.iload 4, 2) := by decide +kernel
theorem dX11_fact_167 : decode cX11_fact 167 = .ok (.iadd, 1) := by decide +kernel
theorem dX11_fact_168 : decode cX11_fact 168 = .ok (.iconst 0, 1) := by decide +kernel
theorem dX11_fact_169 : decode cX11_fact 169 = .ok (.invokevirtual 359, 3) := by decide +kernel
theorem dX11_fact_172 : decode cX11_fact 172 = .ok (.iconst 1, 1) := by decide +kernel
theorem dX11_fact_173 : decode cX11_fact 173 = .ok (.ireturn, 1) := by decide +kernel
theorem dX11_endedFact_0 : decode cX11_endedFact 0 = .ok (.aload_n 0, 1) := by decide +kernel
theorem dX11_endedFact_1 : decode cX11_endedFact 1 = .ok (.iload_n 1, 1) := by decide +kernel
theorem dX11_endedFact_2 : decode cX11_endedFact 2 = .ok (.bipush 10, 2) := by decide +kernel
theorem dX11_endedFact_4 : decode cX11_endedFact 4 = .ok (.invokevirtual 380, 3) := by decide +kernel
theorem dX11_endedFact_7 : decode cX11_endedFact 7 = .ok (.ifCond .eq 20, 3) := by decide +kernel
theorem dX11_endedFact_10 : decode cX11_endedFact 10 = .ok (.aload_n 0, 1) := by decide +kernel
theorem dX11_endedFact_11 : decode cX11_endedFact 11 = .ok (.invokevirtual 383, 3) := by decide +kernel
theorem dX11_endedFact_14 : decode cX11_endedFact 14 = .ok (.aload_n 0, 1) := by decide +kernel
theorem dX11_endedFact_15 : decode cX11_endedFact 15 = .ok (.dup, 1) := by decide +kernel
theorem dX11_endedFact_16 : decode cX11_endedFact 16 = .ok (.getfield 363, 3) := by decide +kernel
theorem dX11_endedFact_19 : decode cX11_endedFact 19 = .ok (.iconst 1, 1) := by decide +kernel
theorem dX11_endedFact_20 : decode cX11_endedFact 20 = .ok (.isub, 1) := by decide +kernel
theorem dX11_endedFact_21 : decode cX11_endedFact 21 = .ok (.putfield 363, 3) := by decide +kernel
theorem dX11_endedFact_24 : decode cX11_endedFact 24 = .ok (.goto (-24), 3) := by decide +kernel
theorem dX11_endedFact_27 : decode cX11_endedFact 27 = .ok (.return_, 1) := by decide +kernel
theorem dX11_test_0 : decode cX11_test 0 = .ok (.aload_n 0, 1) := by decide +kernel
theorem dX11_test_1 : decode cX11_test 1 = .ok (.getfield 356, 3) := by decide +kernel
theorem dX11_test_4 : decode cX11_test 4 = .ok (.istore_n 1, 1) := by decide +kernel
theorem dX11_test_5 : decode cX11_test 5 = .ok (.aload_n 0, 1) := by decide +kernel
theorem dX11_test_6 : decode cX11_test 6 = .ok (.invokevirtual 329, 3) := by decide +kernel
theorem dX11_test_9 : decode cX11_test 9 = .ok (.istore_n 2, 1) := by decide +kernel
theorem dX11_test_10 : decode cX11_test 10 = .ok (.aload_n 0, 1) := by decide +kernel
theorem dX11_test_11 : decode cX11_test 11 = .ok (.ldc2_w 398, 3) := by decide +kernel
theorem dX11_test_14 : decode cX11_test 14 = .ok (.invokevirtual 343, 3) := by decide +kernel
theorem dX11_test_17 : decode cX11_test 17 = .ok (.istore_n 3, 1) := by decide +kernel
theorem dX11_test_18 : decode cX11_test 18 = .ok (.iload_n 3, 1) := by decide +kernel
theorem dX11_test_19 : decode cX11_test 19 = .ok (.ifCond .ne 9, 3) := by decide +kernel
theorem dX11_test_22 : decode cX11_test 22 = .ok (.iload_n 2, 1) := by decide +kernel
theorem dX11_test_23 : decode cX11_test 23 = .ok (.bipush 91, 2) := by decide +kernel
theorem dX11_test_25 : decode cX11_test 25 = .ok (.if_icmp .ne 52, 3) := by decide +kernel
theorem dX11_test_28 : decode cX11_test 28 = .ok (.aload_n 0, 1) := by decide +kernel
theorem dX11_test_29 : decode cX11_test 29 = .ok (.aload_n 0, 1) := by decide +kernel
theorem dX11_test_30 : decode cX11_test 30 = .ok (.getfield 326, 3) := by decide +kernel
theorem dX11_test_33 : decode cX11_test 33 = .ok (.invokevirtual 375, 3) := by decide +kernel
theorem dX11_test_36 : decode cX11_test 36 = .ok (.ifCond .ne 5, 3) := by decide +kernel
theorem dX11_test_39 : decode cX11_test 39 = .ok (.iconst 0, 1) := by decide +kernel
theorem dX11_test_40 : decode cX11_test 40 = .ok (.ireturn, 1) := by decide +kernel
theorem dX11_test_41 : decode cX11_test 41 = .ok (.aload_n 0, 1) := by decide +kernel
theorem dX11_test_42 : decode cX11_test 42 = .ok (.iload_n 3, 1) := by decide +kernel
theorem dX11_test_43 : decode cX11_test 43 = .ok (.ifCond .eq 8, 3) := by decide +kernel
theorem dX11_test_46 : decode cX11_test 46 = .ok (.bipush 10, 2) := by decide +kernel
theorem dX11_test_48 : decode cX11_test 48 = .ok (.goto 5, 3) := by decide +kernel
theorem dX11_test_51 : decode cX11_test 51 = .ok (.bipush 14, 2) := by decide +kernel
theorem dX11_test_53 : decode cX11_test 53 = .ok (.invokevirtual 378, 3) := by decide +kernel
theorem dX11_test_56 : decode cX11_test 56 = .ok (.aload_n 0, 1) := by decide +kernel
theorem dX11_test_57 : decode cX11_test 57 = .ok (.dup, 1) := by decide +kernel
theorem dX11_test_58 : decode cX11_test 58 = .ok (.getfield 326, 3) := by decide +kernel
theorem dX11_test_61 : decode cX11_test 61 = .ok (.iload_n 3, 1) := by decide +kernel
theorem dX11_test_62 : decode cX11_test 62 = .ok (.ifCond .eq 7, 3) := by decide +kernel
theorem dX11_test_65 : decode cX11_test 65 = .ok (.iconst 2, 1) := by decide +kernel
theorem dX11_test_66 : decode cX11_test 66 = .ok (.goto 4, 3) := by decide +kernel
theorem dX11_test_69 : decode cX11_test 69 = .ok (.iconst 1, 1) := by decide +kernel
theorem dX11_test_70 : decode cX11_test 70 = .ok (.iadd, 1) := by decide +kernel
theorem dX11_test_71 : decode cX11_test 71 = .ok (.putfield 326, 3) := by decide +kernel
theorem dX11_test_74 : decode cX11_test 74 = .ok (.goto (-69), 3) := by decide +kernel
theorem dX11_test_77 : decode cX11_test 77 = .ok (.aload_n 0, 1) := by decide +kernel
theorem dX11_test_78 : decode cX11_test 78 = .ok (.invokevirtual 400, 3) := by decide +kernel
theorem dX11_test_81 : decode cX11_test 81 = .ok (.ifCond .ne 5, 3) := by decide +kernel
theorem dX11_test_84 : decode cX11_test 84 = .ok (.iconst 0, 1) := by decide +kernel
theorem dX11_test_85 : decode cX11_test 85 = .ok (.ireturn, 1) := by decide +kernel
theorem dX11_test_86 : decode cX11_test 86 = .ok (.aload_n 0, 1) := by decide +kernel
theorem dX11_test_87 : decode cX11_test 87 = .ok (.iload_n 1, 1) := by decide +kernel
theorem dX11_test_88 : decode cX11_test 88 = .ok (.invokevirtual 403, 3) := by decide +kernel
theorem dX11_test_91 : decode cX11_test 91 = .ok (.aload_n 0, 1) := by decide +kernel
theorem dX11_test_92 : decode cX11_test 92 = .ok (.invokevirtual 329, 3) := by decide +kernel
theorem dX11_test_95 : decode cX11_test 95 = .ok (.bipush 93, 2) := by decide +kernel
theorem dX11_test_97 : decode cX11_test 97 = .ok (.if_icmp .ne 68, 3) := by decide +kernel
theorem dX11_test_100 : decode cX11_test 100 = .ok (.aload_n 0, 1) := by decide +kernel
theorem dX11_test_101 : decode cX11_test 101 = .ok (.iload_n 1, 1) := by decide +kernel
theorem dX11_test_102 : decode cX11_test 102 = .ok (.bipush 14, 2) := by decide +kernel
theorem dX11_test_104 : decode cX11_test 104 = .ok (.invokevirtual 389, 3) := by decide +kernel
theorem dX11_test_107 : decode cX11_test 107 = .ok (.ifCond .eq 58, 3) := by decide +kernel
theorem dX11_test_110 : decode cX11_test 110 = .ok (.aload_n 0, 1) := by decide +kernel
theorem dX11_test_111 : decode cX11_test 111 = .ok (.iload_n 1, 1) := by decide +kernel
theorem dX11_test_112 : decode cX11_test 112 = .ok (.bipush 14, 2) := by decide +kernel
theorem dX11_test_114 : decode cX11_test 114 = .ok (.invokevirtual 380, 3) := by decide +kernel
theorem dX11_test_117 : decode cX11_test 117 = .ok (.ifCond .ne 10, 3) := by decide +kernel
theorem dX11_test_120 : decode cX11_test 120 = .ok (.aload_n 0, 1) := by decide +kernel
theorem dX11_test_121 : decode cX11_test 121 = .ok (.invokevirtual 383, 3) := by decide +kernel
theorem dX11_test_124 : decode cX11_test 124 = .ok (.goto (-14), 3) := by decide +kernel
theorem dX11_test_127 : decode cX11_test 127 = .ok (.aload_n 0, 1) := by decide +kernel
theorem dX11_test_128 : decode cX11_test 128 = .ok (.dup, 1) := by decide +kernel
theorem dX11_test_129 : decode cX11_test 129 = .ok (.getfield 356, 3) := by decide +kernel
theorem dX11_test_132 : decode cX11_test 132 = .ok (.iconst 1, 1) := by decide +kernel
theorem dX11_test_133 : decode cX11_test 133 = .ok (.isub, 1) := by decide +kernel
theorem dX11_test_134 : decode cX11_test 134 = .ok (.putfield 356, 3) := by decide +kernel
theorem dX11_test_137 : decode cX11_test 137 = .ok (.aload_n 0, 1) := by decide +kernel
theorem dX11_test_138 : decode cX11_test 138 = .ok (.dup, 1) := by decide +kernel
theorem dX11_test_139 : decode cX11_test 139 = .ok (.getfield 363, 3) := by decide +kernel
theorem dX11_test_142 : decode cX11_test 142 = .ok (.iconst 1, 1) := by decide +kernel
theorem dX11_test_143 : decode cX11_test 143 = .ok (.isub, 1) := by decide +kernel
theorem dX11_test_144 : decode cX11_test 144 = .ok (.putfield 363, 3) := by decide +kernel
theorem dX11_test_147 : decode cX11_test 147 = .ok (.aload_n 0, 1) := by decide +kernel
theorem dX11_test_148 : decode cX11_test 148 = .ok (.dup, 1) := by decide +kernel
theorem dX11_test_149 : decode cX11_test 149 = .ok (.getfield 326, 3) := by decide +kernel
theorem dX11_test_152 : decode cX11_test 152 = .ok (.iconst 1, 1) := by decide +kernel
theorem dX11_test_153 : decode cX11_test 153 = .ok (.iadd, 1) := by decide +kernel
theorem dX11_test_154 : decode cX11_test 154 = .ok (.putfield 326, 3) := by decide +kernel
theorem dX11_test_157 : decode cX11_test 157 = .ok (.aload_n 0, 1) := by decide +kernel
theorem dX11_test_158 : decode cX11_test 158 = .ok (.iload_n 1, 1) := by decide +kernel
theorem dX11_test_159 : decode cX11_test 159 = .ok (.invokevirtual 403, 3) := by decide +kernel
theorem dX11_test_162 : decode cX11_test 162 = .ok (.goto (-71), 3) := by decide +kernel
theorem dX11_test_165 : decode cX11_test 165 = .ok (.aload_n 0, 1) := by decide +kernel
theorem dX11_test_166 : decode cX11_test 166 = .ok (.ldc2_w 406, 3) := by decide +kernel
theorem dX11_test_169 : decode cX11_test 169 = .ok (.invokevirtual 343, 3) := by decide +kernel
theorem dX11_test_172 : decode cX11_test 172 = .ok (.istore 4, 2) := by decide +kernel
theorem dX11_test_174 : decode cX11_test 174 = .ok (.iload 4, 2) := by decide +kernel
theorem dX11_test_176 : decode cX11_test 176 = .ok (.ifCond .ne 16, 3) := by decide +kernel
theorem dX11_test_179 : decode cX11_test 179 = .ok (.aload_n 0, 1) := by decide +kernel
theorem dX11_test_180 : decode cX11_test 180 = .ok (.ldc2_w 408, 3) := by decide +kernel
theorem dX11_test_183 : decode cX11_test 183 = .ok (.invokevirtual 343, 3) := by decide +kernel
theorem dX11_test_186 : decode cX11_test 186 = .ok (.ifCond .ne 6, 3) := by decide +kernel
theorem dX11_test_189 : decode cX11_test 189 = .ok (.goto 58, 3) := by decide +kernel
theorem dX11_test_192 : decode cX11_test 192 = .ok (.aload_n 0, 1) := by decide +kernel
theorem dX11_test_193 : decode cX11_test 193 = .ok (.invokevirtual 347, 3) := by decide +kernel
theorem dX11_test_196 : decode cX11_test 196 = .ok (.aload_n 0, 1) := by decide +kernel
theorem dX11_test_197 : decode cX11_test 197 = .ok (.iload_n 1, 1) := by decide +kernel
theorem dX11_test_198 : decode cX11_test 198 = .ok (.bipush 11, 2) := by decide +kernel
theorem dX11_test_200 : decode cX11_test 200 = .ok (.invokevirtual 380, 3) := by decide +kernel
theorem dX11_test_203 : decode cX11_test 203 = .ok (.ifCond .ne 18, 3) := by decide +kernel
theorem dX11_test_206 : decode cX11_test 206 = .ok (.iload 4, 2) := by decide +kernel
theorem dX11_test_208 : decode cX11_test 208 = .ok (.ifCond .ne 20, 3) := by decide +kernel
theorem dX11_test_211 : decode cX11_test 211 = .ok (.aload_n 0, 1) := by decide +kernel
theorem dX11_test_212 : decode cX11_test 212 = .ok (.iload_n 1, 1) := by decide +kernel
theorem dX11_test_213 : decode cX11_test 213 = .ok (.bipush 12, 2) := by decide +kernel
theorem dX11_test_215 : decode cX11_test 215 = .ok (.invokevirtual 380, 3) := by decide +kernel
theorem dX11_test_218 : decode cX11_test 218 = .ok (.ifCond .eq 10, 3) := by decide +kernel
theorem dX11_test_221 : decode cX11_test 221 = .ok (.aload_n 0, 1) := by decide +kernel
theorem dX11_test_222 : decode cX11_test 222 = .ok (.invokevirtual 383, 3) := by decide +kernel
theorem dX11_test_225 : decode cX11_test 225 = .ok (.goto (-29), 3) := by decide +kernel
theorem dX11_test_228 : decode cX11_test 228 = .ok (.aload_n 0, 1) := by decide +kernel
theorem dX11_test_229 : decode cX11_test 229 = .ok (.iload 4, 2) := by decide +kernel
theorem dX11_test_231 : decode cX11_test 231 = .ok (.ifCond .eq 8, 3) := by decide +kernel
theorem dX11_test_234 : decode cX11_test 234 = .ok (.bipush 11, 2) := by decide +kernel
theorem dX11_test_236 : decode cX11_test 236 = .ok (.goto 5, 3) := by decide +kernel
theorem dX11_test_239 : decode cX11_test 239 = .ok (.bipush 12, 2) := by decide +kernel
theorem dX11_test_241 : decode cX11_test 241 = .ok (.invokevirtual 378, 3) := by decide +kernel
theorem dX11_test_244 : decode cX11_test 244 = .ok (.goto (-239), 3) := by decide +kernel
theorem dX11_test_247 : decode cX11_test 247 = .ok (.aload_n 0, 1) := by decide +kernel
theorem dX11_test_248 : decode cX11_test 248 = .ok (.iload_n 1, 1) := by decide +kernel
theorem dX11_test_249 : decode cX11_test 249 = .ok (.bipush 14, 2) := by decide +kernel
theorem dX11_test_251 : decode cX11_test 251 = .ok (.invokevirtual 389, 3) := by decide +kernel
theorem dX11_test_254 : decode cX11_test 254 = .ok (.ifCond .eq 13, 3) := by decide +kernel
theorem dX11_test_257 : decode cX11_test 257 = .ok (.aload_n 0, 1) := by decide +kernel
theorem dX11_test_258 : decode cX11_test 258 = .ok (.iconst 0, 1) := by decide +kernel
theorem dX11_test_259 : decode cX11_test 259 = .ok (.aload_n 0, 1) := by decide +kernel
theorem dX11_test_260 : decode cX11_test 260 = .ok (.getfield 326, 3) := by decide +kernel
theorem dX11_test_263 : decode cX11_test 263 = .ok (.invokevirtual 337, 3) := by decide +kernel
theorem dX11_test_266 : decode cX11_test 266 = .ok (.ireturn, 1) := by decide +kernel
theorem dX11_test_267 : decode cX11_test 267 = .ok (.aload_n 0, 1) := by decide +kernel
theorem dX11_test_268 : decode cX11_test 268 = .ok (.getfield 356, 3) := by decide +kernel
theorem dX11_test_271 : decode cX11_test 271 = .ok (.iload_n 1, 1) := by decide +kernel
theorem dX11_test_272 : decode cX11_test 272 = .ok (.if_icmp .le 10, 3) := by decide +kernel
theorem dX11_test_275 : decode cX11_test 275 = .ok (.aload_n 0, 1) := by decide +kernel
theorem dX11_test_276 : decode cX11_test 276 = .ok (.invokevirtual 383, 3) := by decide +kernel
theorem dX11_test_279 : decode cX11_test 279 = .ok (.goto (-12), 3) := by decide +kernel
theorem dX11_test_282 : decode cX11_test 282 = .ok (.iconst 1, 1) := by decide +kernel
theorem dX11_test_283 : decode cX11_test 283 = .ok (.ireturn, 1) := by decide +kernel
theorem dX11_whatFollows_0 : decode cX11_whatFollows 0 = .ok (.aload_n 0, 1) := by decide +kernel
theorem dX11_whatFollows_1 : decode cX11_whatFollows 1 = .ok (.invokevirtual 329, 3) := by decide +kernel
theorem dX11_whatFollows_4 : decode cX11_whatFollows 4 = .ok (.pop, 1) := by decide +kernel
theorem dX11_whatFollows_5 : decode cX11_whatFollows 5 = .ok (.iconst 0, 1) := by decide +kernel
theorem dX11_whatFollows_6 : decode cX11_whatFollows 6 = .ok (.istore_n 2, 1) := by decide +kernel
theorem dX11_whatFollows_7 : decode cX11_whatFollows 7 = .ok (.iload_n 2, 1) := by decide +kernel
theorem dX11_whatFollows_8 : decode cX11_whatFollows 8 = .ok (.iconst 5, 1) := by decide +kernel
theorem dX11_whatFollows_9 : decode cX11_whatFollows 9 = .ok (.if_icmp .ge 36, 3) := by decide +kernel
theorem dX11_whatFollows_12 : decode cX11_whatFollows 12 = .ok (.aload_n 0, 1) := by decide +kernel
theorem dX11_whatFollows_13 : decode cX11_whatFollows 13 = .ok (.aload_n 0, 1) := by decide +kernel
theorem dX11_whatFollows_14 : decode cX11_whatFollows 14 = .ok (.getfield 133, 3) := by decide +kernel
theorem dX11_whatFollows_17 : decode cX11_whatFollows 17 = .ok (.iload_n 2, 1) := by decide +kernel
theorem dX11_whatFollows_18 : decode cX11_whatFollows 18 = .ok (.laload, 1) := by decide +kernel
theorem dX11_whatFollows_19 : decode cX11_whatFollows 19 = .ok (.invokevirtual 410, 3) := by decide +kernel
theorem dX11_whatFollows_22 : decode cX11_whatFollows 22 = .ok (.ifCond .ne 6, 3) := by decide +kernel
theorem dX11_whatFollows_25 : decode cX11_whatFollows 25 = .ok (.goto 14, 3) := by decide +kernel
theorem dX11_whatFollows_28 : decode cX11_whatFollows 28 = .ok (.aload_n 0, 1) := by decide +kernel
theorem dX11_whatFollows_29 : decode cX11_whatFollows 29 = .ok (.getfield 74, 3) := by decide +kernel
theorem dX11_whatFollows_32 : decode cX11_whatFollows 32 = .ok (.iload_n 1, 1) := by decide +kernel
theorem dX11_whatFollows_33 : decode cX11_whatFollows 33 = .ok (.iconst 2, 1) := by decide +kernel
theorem dX11_whatFollows_34 : decode cX11_whatFollows 34 = .ok (.iload_n 2, 1) := by decide +kernel
theorem dX11_whatFollows_35 : decode cX11_whatFollows 35 = .ok (.iadd, 1) := by decide +kernel
theorem dX11_whatFollows_36 : decode cX11_whatFollows 36 = .ok (.iastore, 1) := by decide +kernel
theorem dX11_whatFollows_37 : decode cX11_whatFollows 37 = .ok (.iconst 1, 1) := by decide +kernel
theorem dX11_whatFollows_38 : decode cX11_whatFollows 38 = .ok (.ireturn, 1) := by decide +kernel
theorem dX11_whatFollows_39 : decode cX11_whatFollows 39 = .ok (.iinc 2 1, 3) := by decide +kernel
theorem dX11_whatFollows_42 : decode cX11_whatFollows 42 = .ok (.goto (-35), 3) := by decide +kernel
theorem dX11_whatFollows_45 : decode cX11_whatFollows 45 = .ok (.aload_n 0, 1) := by decide +kernel
theorem dX11_whatFollows_46 : decode cX11_whatFollows 46 = .ok (.iconst 0, 1) := by decide +kernel
theorem dX11_whatFollows_47 : decode cX11_whatFollows 47 = .ok (.aload_n 0, 1) := by decide +kernel
theorem dX11_whatFollows_48 : decode cX11_whatFollows 48 = .ok (.getfield 326, 3) := by decide +kernel
theorem dX11_whatFollows_51 : decode cX11_whatFollows 51 = .ok (.invokevirtual 337, 3) := by decide +kernel
theorem dX11_whatFollows_54 : decode cX11_whatFollows 54 = .ok (.ireturn, 1) := by decide +kernel
theorem dX11_clause_0 : decode cX11_clause 0 = .ok (.aload_n 0, 1) := by decide +kernel
theorem dX11_clause_1 : decode cX11_clause 1 = .ok (.invokevirtual 329, 3) := by decide +kernel
theorem dX11_clause_4 : decode cX11_clause 4 = .ok (.pop, 1) := by decide +kernel
theorem dX11_clause_5 : decode cX11_clause 5 = .ok (.aload_n 0, 1) := by decide +kernel
theorem dX11_clause_6 : decode cX11_clause 6 = .ok (.getfield 326, 3) := by decide +kernel
theorem dX11_clause_9 : decode cX11_clause 9 = .ok (.istore_n 2, 1) := by decide +kernel
theorem dX11_clause_10 : decode cX11_clause 10 = .ok (.aload_n 0, 1) := by decide +kernel
theorem dX11_clause_11 : decode cX11_clause 11 = .ok (.ldc2_w 413, 3) := by decide +kernel
theorem dX11_clause_14 : decode cX11_clause 14 = .ok (.invokevirtual 343, 3) := by decide +kernel
theorem dX11_clause_17 : decode cX11_clause 17 = .ok (.istore_n 3, 1) := by decide +kernel
theorem dX11_clause_18 : decode cX11_clause 18 = .ok (.aload_n 0, 1) := by decide +kernel
theorem dX11_clause_19 : decode cX11_clause 19 = .ok (.ldc2_w 415, 3) := by decide +kernel
theorem dX11_clause_22 : decode cX11_clause 22 = .ok (.invokevirtual 343, 3) := by decide +kernel
theorem dX11_clause_25 : decode cX11_clause 25 = .ok (.istore 4, 2) := by decide +kernel
theorem dX11_clause_27 : decode cX11_clause 27 = .ok (.aload_n 0, 1) := by decide +kernel
theorem dX11_clause_28 : decode cX11_clause 28 = .ok (.ldc2_w 417, 3) := by decide +kernel
theorem dX11_clause_31 : decode cX11_clause 31 = .ok (.invokevirtual 343, 3) := by decide +kernel
theorem dX11_clause_34 : decode cX11_clause 34 = .ok (.istore 5, 2) := by decide +kernel
theorem dX11_clause_36 : decode cX11_clause 36 = .ok (.aload_n 0, 1) := by decide +kernel
theorem dX11_clause_37 : decode cX11_clause 37 = .ok (.ldc2_w 419, 3) := by decide +kernel
theorem dX11_clause_40 : decode cX11_clause 40 = .ok (.invokevirtual 343, 3) := by decide +kernel
theorem dX11_clause_43 : decode cX11_clause 43 = .ok (.istore 6, 2) := by decide +kernel
theorem dX11_clause_45 : decode cX11_clause 45 = .ok (.iload_n 3, 1) := by decide +kernel
theorem dX11_clause_46 : decode cX11_clause 46 = .ok (.ifCond .ne 35, 3) := by decide +kernel
theorem dX11_clause_49 : decode cX11_clause 49 = .ok (.iload 4, 2) := by decide +kernel
theorem dX11_clause_51 : decode cX11_clause 51 = .ok (.ifCond .ne 30, 3) := by decide +kernel
theorem dX11_clause_54 : decode cX11_clause 54 = .ok (.iload 5, 2) := by decide +kernel
theorem dX11_clause_56 : decode cX11_clause 56 = .ok (.ifCond .ne 25, 3) := by decide +kernel
theorem dX11_clause_59 : decode cX11_clause 59 = .ok (.iload 6, 2) := by decide +kernel
theorem dX11_clause_61 : decode cX11_clause 61 = .ok (.ifCond .ne 20, 3) := by decide +kernel
theorem dX11_clause_64 : decode cX11_clause 64 = .ok (.aload_n 0, 1) := by decide +kernel
theorem dX11_clause_65 : decode cX11_clause 65 = .ok (.ldc2_w 421, 3) := by decide +kernel
theorem dX11_clause_68 : decode cX11_clause 68 = .ok (.invokevirtual 343, 3) := by decide +kernel
theorem dX11_clause_71 : decode cX11_clause 71 = .ok (.ifCond .ne 10, 3) := by decide +kernel
theorem dX11_clause_74 : decode cX11_clause 74 = .ok (.aload_n 0, 1) := by decide +kernel
theorem dX11_clause_75 : decode cX11_clause 75 = .ok (.iconst 0, 1) := by decide +kernel
theorem dX11_clause_76 : decode cX11_clause 76 = .ok (.iload_n 2, 1) := by decide +kernel
theorem dX11_clause_77 : decode cX11_clause 77 = .ok (.invokevirtual 337, 3) := by decide +kernel
theorem dX11_clause_80 : decode cX11_clause 80 = .ok (.ireturn, 1) := by decide +kernel
theorem dX11_clause_81 : decode cX11_clause 81 = .ok (.aload_n 0, 1) := by decide +kernel
theorem dX11_clause_82 : decode cX11_clause 82 = .ok (.getfield 71, 3) := by decide +kernel
theorem dX11_clause_85 : decode cX11_clause 85 = .ok (.aload_n 0, 1) := by decide +kernel
theorem dX11_clause_86 : decode cX11_clause 86 = .ok (.getfield 350, 3) := by decide +kernel
theorem dX11_clause_89 : decode cX11_clause 89 = .ok (.iaload, 1) := by decide +kernel
theorem dX11_clause_90 : decode cX11_clause 90 = .ok (.bipush 12, 2) := by decide +kernel
theorem dX11_clause_92 : decode cX11_clause 92 = .ok (.if_icmp .ne 10, 3) := by decide +kernel
theorem dX11_clause_95 : decode cX11_clause 95 = .ok (.aload_n 0, 1) := by decide +kernel
theorem dX11_clause_96 : decode cX11_clause 96 = .ok (.iconst 4, 1) := by decide +kernel
theorem dX11_clause_97 : decode cX11_clause 97 = .ok (.iload_n 2, 1) := by decide +kernel
theorem dX11_clause_98 : decode cX11_clause 98 = .ok (.invokevirtual 337, 3) := by decide +kernel
theorem dX11_clause_101 : decode cX11_clause 101 = .ok (.ireturn, 1) := by decide +kernel
theorem dX11_clause_102 : decode cX11_clause 102 = .ok (.bipush 12, 2) := by decide +kernel
theorem dX11_clause_104 : decode cX11_clause 104 = .ok (.aload_n 0, 1) := by decide +kernel
theorem dX11_clause_105 : decode cX11_clause 105 = .ok (.getfield 350, 3) := by decide +kernel
theorem dX11_clause_108 : decode cX11_clause 108 = .ok (.imul, 1) := by decide +kernel
theorem dX11_clause_109 : decode cX11_clause 109 = .ok (.aload_n 0, 1) := by decide +kernel
theorem dX11_clause_110 : decode cX11_clause 110 = .ok (.getfield 71, 3) := by decide +kernel
theorem dX11_clause_113 : decode cX11_clause 113 = .ok (.aload_n 0, 1) := by decide +kernel
theorem dX11_clause_114 : decode cX11_clause 114 = .ok (.getfield 350, 3) := by decide +kernel
theorem dX11_clause_117 : decode cX11_clause 117 = .ok (.iaload, 1) := by decide +kernel
theorem dX11_clause_118 : decode cX11_clause 118 = .ok (.iadd, 1) := by decide +kernel
theorem dX11_clause_119 : decode cX11_clause 119 = .ok (.istore 7, 2) := by decide +kernel
theorem dX11_clause_121 : decode cX11_clause 121 = .ok (.aload_n 0, 1) := by decide +kernel
theorem dX11_clause_122 : decode cX11_clause 122 = .ok (.getfield 71, 3) := by decide +kernel
theorem dX11_clause_125 : decode cX11_clause 125 = .ok (.aload_n 0, 1) := by decide +kernel
theorem dX11_clause_126 : decode cX11_clause 126 = .ok (.getfield 350, 3) := by decide +kernel
theorem dX11_clause_129 : decode cX11_clause 129 = .ok (.dup2, 1) := by decide +kernel
theorem dX11_clause_130 : decode cX11_clause 130 = .ok (.iaload, 1) := by decide +kernel
theorem dX11_clause_131 : decode cX11_clause 131 = .ok (.iconst 1, 1) := by decide +kernel
theorem dX11_clause_132 : decode cX11_clause 132 = .ok (.iadd, 1) := by decide +kernel
theorem dX11_clause_133 : decode cX11_clause 133 = .ok (.iastore, 1) := by decide +kernel
theorem dX11_clause_134 : decode cX11_clause 134 = .ok (.aload_n 0, 1) := by decide +kernel
theorem dX11_clause_135 : decode cX11_clause 135 = .ok (.invokevirtual 347, 3) := by decide +kernel
theorem dX11_clause_138 : decode cX11_clause 138 = .ok (.aload_n 0, 1) := by decide +kernel
theorem dX11_clause_139 : decode cX11_clause 139 = .ok (.getfield 74, 3) := by decide +kernel
theorem dX11_clause_142 : decode cX11_clause 142 = .ok (.iload 7, 2) := by decide +kernel
theorem dX11_clause_144 : decode cX11_clause 144 = .ok (.iload_n 3, 1) := by decide +kernel
theorem dX11_clause_145 : decode cX11_clause 145 = .ok (.ifCond .eq 7, 3) := by decide +kernel
theorem dX11_clause_148 : decode cX11_clause 148 = .ok (.iconst 0, 1) := by decide +kernel
theorem dX11_clause_149 : decode cX11_clause 149 = .ok (.goto 14, 3) := by decide +kernel
theorem dX11_clause_152 : decode cX11_clause 152 = .ok (.iload 4, 2) := by decide +kernel
theorem dX11_clause_154 : decode cX11_clause 154 = .ok (.ifCond .eq 7, 3) := by decide +kernel
theorem dX11_clause_157 : decode cX11_clause 157 = .ok (.iconst 1, 1) := by decide +kernel
theorem dX11_clause_158 : decode cX11_clause 158 = .ok (.goto 5, 3) := by decide +kernel
theorem dX11_clause_161 : decode cX11_clause 161 = .ok (.bipush 7, 2) := by decide +kernel
theorem dX11_clause_163 : decode cX11_clause 163 = .ok (.iastore, 1) := by decide +kernel
theorem dX11_clause_164 : decode cX11_clause 164 = .ok (.aload_n 0, 1) := by decide +kernel
theorem dX11_clause_165 : decode cX11_clause 165 = .ok (.getfield 77, 3) := by decide +kernel
theorem dX11_clause_168 : decode cX11_clause 168 = .ok (.iload 7, 2) := by decide +kernel
theorem dX11_clause_170 : decode cX11_clause 170 = .ok (.iload 5, 2) := by decide +kernel
theorem dX11_clause_172 : decode cX11_clause 172 = .ok (.ifCond .eq 7, 3) := by decide +kernel
theorem dX11_clause_175 : decode cX11_clause 175 = .ok (.iconst 1, 1) := by decide +kernel
theorem dX11_clause_176 : decode cX11_clause 176 = .ok (.goto 4, 3) := by decide +kernel
theorem dX11_clause_179 : decode cX11_clause 179 = .ok (.iconst 0, 1) := by decide +kernel
theorem dX11_clause_180 : decode cX11_clause 180 = .ok (.iastore, 1) := by decide +kernel
theorem dX11_clause_181 : decode cX11_clause 181 = .ok (.aload_n 0, 1) := by decide +kernel
theorem dX11_clause_182 : decode cX11_clause 182 = .ok (.getfield 89, 3) := by decide +kernel
theorem dX11_clause_185 : decode cX11_clause 185 = .ok (.iload 7, 2) := by decide +kernel
theorem dX11_clause_187 : decode cX11_clause 187 = .ok (.iconst 0, 1) := by decide +kernel
theorem dX11_clause_188 : decode cX11_clause 188 = .ok (.iastore, 1) := by decide +kernel
theorem dX11_clause_189 : decode cX11_clause 189 = .ok (.aload_n 0, 1) := by decide +kernel
theorem dX11_clause_190 : decode cX11_clause 190 = .ok (.getfield 80, 3) := by decide +kernel
theorem dX11_clause_193 : decode cX11_clause 193 = .ok (.iload 7, 2) := by decide +kernel
theorem dX11_clause_195 : decode cX11_clause 195 = .ok (.aload_n 0, 1) := by decide +kernel
theorem dX11_clause_196 : decode cX11_clause 196 = .ok (.getfield 353, 3) := by decide +kernel
theorem dX11_clause_199 : decode cX11_clause 199 = .ok (.iastore, 1) := by decide +kernel
theorem dX11_clause_200 : decode cX11_clause 200 = .ok (.iload_n 3, 1) := by decide +kernel
theorem dX11_clause_201 : decode cX11_clause 201 = .ok (.ifCond .ne 8, 3) := by decide +kernel
theorem dX11_clause_204 : decode cX11_clause 204 = .ok (.iload 4, 2) := by decide +kernel
theorem dX11_clause_206 : decode cX11_clause 206 = .ok (.ifCond .eq 12, 3) := by decide +kernel
theorem dX11_clause_209 : decode cX11_clause 209 = .ok (.aload_n 0, 1) := by decide +kernel
theorem dX11_clause_210 : decode cX11_clause 210 = .ok (.invokevirtual 395, 3) := by decide +kernel
theorem dX11_clause_213 : decode cX11_clause 213 = .ok (.ifCond .ne 89, 3) := by decide +kernel
theorem dX11_clause_216 : decode cX11_clause 216 = .ok (.iconst 0, 1) := by decide +kernel
theorem dX11_clause_217 : decode cX11_clause 217 = .ok (.ireturn, 1) := by decide +kernel
theorem dX11_clause_218 : decode cX11_clause 218 = .ok (.iload 5, 2) := by decide +kernel
theorem dX11_clause_220 : decode cX11_clause 220 = .ok (.ifCond .ne 8, 3) := by decide +kernel
theorem dX11_clause_223 : decode cX11_clause 223 = .ok (.iload 6, 2) := by decide +kernel
theorem dX11_clause_225 : decode cX11_clause 225 = .ok (.ifCond .eq 14, 3) := by decide +kernel
theorem dX11_clause_228 : decode cX11_clause 228 = .ok (.aload_n 0, 1) := by decide +kernel
theorem dX11_clause_229 : decode cX11_clause 229 = .ok (.iload 7, 2) := by decide +kernel
theorem dX11_clause_231 : decode cX11_clause 231 = .ok (.invokevirtual 423, 3) := by decide +kernel
theorem dX11_clause_234 : decode cX11_clause 234 = .ok (.ifCond .ne 68, 3) := by decide +kernel
theorem dX11_clause_237 : decode cX11_clause 237 = .ok (.iconst 0, 1) := by decide +kernel
theorem dX11_clause_238 : decode cX11_clause 238 = .ok (.ireturn, 1) := by decide +kernel
theorem dX11_clause_239 : decode cX11_clause 239 = .ok (.aload_n 0, 1) := by decide +kernel
theorem dX11_clause_240 : decode cX11_clause 240 = .ok (.invokevirtual 329, 3) := by decide +kernel
theorem dX11_clause_243 : decode cX11_clause 243 = .ok (.pop, 1) := by decide +kernel
theorem dX11_clause_244 : decode cX11_clause 244 = .ok (.aload_n 0, 1) := by decide +kernel
theorem dX11_clause_245 : decode cX11_clause 245 = .ok (.getfield 326, 3) := by decide +kernel
theorem dX11_clause_248 : decode cX11_clause 248 = .ok (.istore 8, 2) := by decide +kernel
theorem dX11_clause_250 : decode cX11_clause 250 = .ok (.aload_n 0, 1) := by decide +kernel
theorem dX11_clause_251 : decode cX11_clause 251 = .ok (.invokevirtual 369, 3) := by decide +kernel
theorem dX11_clause_254 : decode cX11_clause 254 = .ok (.ifCond .ne 5, 3) := by decide +kernel
theorem dX11_clause_257 : decode cX11_clause 257 = .ok (.iconst 0, 1) := by decide +kernel
theorem dX11_clause_258 : decode cX11_clause 258 = .ok (.ireturn, 1) := by decide +kernel
theorem dX11_clause_259 : decode cX11_clause 259 = .ok (.aload_n 0, 1) := by decide +kernel
theorem dX11_clause_260 : decode cX11_clause 260 = .ok (.getfield 340, 3) := by decide +kernel
theorem dX11_clause_263 : decode cX11_clause 263 = .ok (.aload_n 0, 1) := by decide +kernel
theorem dX11_clause_264 : decode cX11_clause 264 = .ok (.getfield 350, 3) := by decide +kernel
theorem dX11_clause_267 : decode cX11_clause 267 = .ok (.if_icmp .ge 16, 3) := by decide +kernel
theorem dX11_clause_270 : decode cX11_clause 270 = .ok (.aload_n 0, 1) := by decide +kernel
theorem dX11_clause_271 : decode cX11_clause 271 = .ok (.getfield 65, 3) := by decide +kernel
theorem dX11_clause_274 : decode cX11_clause 274 = .ok (.aload_n 0, 1) := by decide +kernel
theorem dX11_clause_275 : decode cX11_clause 275 = .ok (.getfield 340, 3) := by decide +kernel
theorem dX11_clause_278 : decode cX11_clause 278 = .ok (.iaload, 1) := by decide +kernel
theorem dX11_clause_279 : decode cX11_clause 279 = .ok (.iload_n 1, 1) := by decide +kernel
theorem dX11_clause_280 : decode cX11_clause 280 = .ok (.if_icmp .eq 11, 3) := by decide +kernel
theorem dX11_clause_283 : decode cX11_clause 283 = .ok (.aload_n 0, 1) := by decide +kernel
theorem dX11_clause_284 : decode cX11_clause 284 = .ok (.iconst 1, 1) := by decide +kernel
theorem dX11_clause_285 : decode cX11_clause 285 = .ok (.iload 8, 2) := by decide +kernel
theorem dX11_clause_287 : decode cX11_clause 287 = .ok (.invokevirtual 337, 3) := by decide +kernel
theorem dX11_clause_290 : decode cX11_clause 290 = .ok (.ireturn, 1) := by decide +kernel
theorem dX11_clause_291 : decode cX11_clause 291 = .ok (.aload_n 0, 1) := by decide +kernel
theorem dX11_clause_292 : decode cX11_clause 292 = .ok (.getfield 77, 3) := by decide +kernel
theorem dX11_clause_295 : decode cX11_clause 295 = .ok (.iload 7, 2) := by decide +kernel
theorem dX11_clause_297 : decode cX11_clause 297 = .ok (.aload_n 0, 1) := by decide +kernel
theorem dX11_clause_298 : decode cX11_clause 298 = .ok (.getfield 340, 3) := by decide +kernel
theorem dX11_clause_301 : decode cX11_clause 301 = .ok (.iastore, 1) := by decide +kernel
theorem dX11_clause_302 : decode cX11_clause 302 = .ok (.aload_n 0, 1) := by decide +kernel
theorem dX11_clause_303 : decode cX11_clause 303 = .ok (.getfield 83, 3) := by decide +kernel
theorem dX11_clause_306 : decode cX11_clause 306 = .ok (.iload 7, 2) := by decide +kernel
theorem dX11_clause_308 : decode cX11_clause 308 = .ok (.aload_n 0, 1) := by decide +kernel
theorem dX11_clause_309 : decode cX11_clause 309 = .ok (.getfield 353, 3) := by decide +kernel
theorem dX11_clause_312 : decode cX11_clause 312 = .ok (.iastore, 1) := by decide +kernel
theorem dX11_clause_313 : decode cX11_clause 313 = .ok (.aload_n 0, 1) := by decide +kernel
theorem dX11_clause_314 : decode cX11_clause 314 = .ok (.getfield 74, 3) := by decide +kernel
theorem dX11_clause_317 : decode cX11_clause 317 = .ok (.iload 7, 2) := by decide +kernel
theorem dX11_clause_319 : decode cX11_clause 319 = .ok (.iaload, 1) := by decide +kernel
theorem dX11_clause_320 : decode cX11_clause 320 = .ok (.bipush 7, 2) := by decide +kernel
theorem dX11_clause_322 : decode cX11_clause 322 = .ok (.if_icmp .eq 39, 3) := by decide +kernel
theorem dX11_clause_325 : decode cX11_clause 325 = .ok (.aload_n 0, 1) := by decide +kernel
theorem dX11_clause_326 : decode cX11_clause 326 = .ok (.getfield 89, 3) := by decide +kernel
theorem dX11_clause_329 : decode cX11_clause 329 = .ok (.iload 7, 2) := by decide +kernel
theorem dX11_clause_331 : decode cX11_clause 331 = .ok (.aload_n 0, 1) := by decide +kernel
theorem dX11_clause_332 : decode cX11_clause 332 = .ok (.ldc2_w 426, 3) := by decide +kernel
theorem dX11_clause_335 : decode cX11_clause 335 = .ok (.invokevirtual 410, 3) := by decide +kernel
theorem dX11_clause_338 : decode cX11_clause 338 = .ok (.ifCond .eq 7, 3) := by decide +kernel
theorem dX11_clause_341 : decode cX11_clause 341 = .ok (.iconst 1, 1) := by decide +kernel
theorem dX11_clause_342 : decode cX11_clause 342 = .ok (.goto 18, 3) := by decide +kernel
theorem dX11_clause_345 : decode cX11_clause 345 = .ok (.aload_n 0, 1) := by decide +kernel
theorem dX11_clause_346 : decode cX11_clause 346 = .ok (.ldc2_w 428, 3) := by decide +kernel
theorem dX11_clause_349 : decode cX11_clause 349 = .ok (.invokevirtual 410, 3) := by decide +kernel
theorem dX11_clause_352 : decode cX11_clause 352 = .ok (.ifCond .eq 7, 3) := by decide +kernel
theorem dX11_clause_355 : decode cX11_clause 355 = .ok (.iconst 2, 1) := by decide +kernel
theorem dX11_clause_356 : decode cX11_clause 356 = .ok (.goto 4, 3) := by decide +kernel
theorem dX11_clause_359 : decode cX11_clause 359 = .ok (.iconst 0, 1) := by decide +kernel
theorem dX11_clause_360 : decode cX11_clause 360 = .ok (.iastore, 1) := by decide +kernel
theorem dX11_clause_361 : decode cX11_clause 361 = .ok (.aload_n 0, 1) := by decide +kernel
theorem dX11_clause_362 : decode cX11_clause 362 = .ok (.getfield 89, 3) := by decide +kernel
theorem dX11_clause_365 : decode cX11_clause 365 = .ok (.iload 7, 2) := by decide +kernel
theorem dX11_clause_367 : decode cX11_clause 367 = .ok (.iaload, 1) := by decide +kernel
theorem dX11_clause_368 : decode cX11_clause 368 = .ok (.ifCond .le 12, 3) := by decide +kernel
theorem dX11_clause_371 : decode cX11_clause 371 = .ok (.aload_n 0, 1) := by decide +kernel
theorem dX11_clause_372 : decode cX11_clause 372 = .ok (.invokevirtual 430, 3) := by decide +kernel
theorem dX11_clause_375 : decode cX11_clause 375 = .ok (.ifCond .ne 5, 3) := by decide +kernel
theorem dX11_clause_378 : decode cX11_clause 378 = .ok (.iconst 0, 1) := by decide +kernel
theorem dX11_clause_379 : decode cX11_clause 379 = .ok (.ireturn, 1) := by decide +kernel
theorem dX11_clause_380 : decode cX11_clause 380 = .ok (.aload_n 0, 1) := by decide +kernel
theorem dX11_clause_381 : decode cX11_clause 381 = .ok (.getfield 86, 3) := by decide +kernel
theorem dX11_clause_384 : decode cX11_clause 384 = .ok (.iload 7, 2) := by decide +kernel
theorem dX11_clause_386 : decode cX11_clause 386 = .ok (.aload_n 0, 1) := by decide +kernel
theorem dX11_clause_387 : decode cX11_clause 387 = .ok (.getfield 353, 3) := by decide +kernel
theorem dX11_clause_390 : decode cX11_clause 390 = .ok (.iastore, 1) := by decide +kernel
theorem dX11_clause_391 : decode cX11_clause 391 = .ok (.iconst 1, 1) := by decide +kernel
theorem dX11_clause_392 : decode cX11_clause 392 = .ok (.ireturn, 1) := by decide +kernel
theorem dX11_text_0 : decode cX11_text 0 = .ok (.iconst 1, 1) := by decide +kernel
theorem dX11_text_1 : decode cX11_text 1 = .ok (.istore_n 2, 1) := by decide +kernel
theorem dX11_text_2 : decode cX11_text 2 = .ok (.iload_n 2, 1) := by decide +kernel
theorem dX11_text_3 : decode cX11_text 3 = .ok (.ifCond .eq 45, 3) := by decide +kernel
theorem dX11_text_6 : decode cX11_text 6 = .ok (.aload_n 0, 1) := by decide +kernel
theorem dX11_text_7 : decode cX11_text 7 = .ok (.iload_n 1, 1) := by decide +kernel
theorem dX11_text_8 : decode cX11_text 8 = .ok (.invokevirtual 433, 3) := by decide +kernel
theorem dX11_text_11 : decode cX11_text 11 = .ok (.ifCond .ne 5, 3) := by decide +kernel
theorem dX11_text_14 : decode cX11_text 14 = .ok (.iconst 0, 1) := by decide +kernel
theorem dX11_text_15 : decode cX11_text 15 = .ok (.ireturn, 1) := by decide +kernel
theorem dX11_text_16 : decode cX11_text 16 = .ok (.aload_n 0, 1) := by decide +kernel
theorem dX11_text_17 : decode cX11_text 17 = .ok (.invokevirtual 329, 3) := by decide +kernel
theorem dX11_text_20 : decode cX11_text 20 = .ok (.bipush 59, 2) := by decide +kernel
theorem dX11_text_22 : decode cX11_text 22 = .ok (.if_icmp .ne 7, 3) := by decide +kernel
theorem dX11_text_25 : decode cX11_text 25 = .ok (.iconst 1, 1) := by decide +kernel
theorem dX11_text_26 : decode cX11_text 26 = .ok (.goto 4, 3) := by decide +kernel
theorem dX11_text_29 : decode cX11_text 29 = .ok (.iconst 0, 1) := by decide +kernel
theorem dX11_text_30 : decode cX11_text 30 = .ok (.istore_n 2, 1) := by decide +kernel
theorem dX11_text_31 : decode cX11_text 31 = .ok (.iload_n 2, 1) := by decide +kernel
theorem dX11_text_32 : decode cX11_text 32 = .ok (.ifCond .eq (-30), 3) := by decide +kernel
theorem dX11_text_35 : decode cX11_text 35 = .ok (.aload_n 0, 1) := by decide +kernel
theorem dX11_text_36 : decode cX11_text 36 = .ok (.dup, 1) := by decide +kernel
theorem dX11_text_37 : decode cX11_text 37 = .ok (.getfield 326, 3) := by decide +kernel
theorem dX11_text_40 : decode cX11_text 40 = .ok (.iconst 1, 1) := by decide +kernel
theorem dX11_text_41 : decode cX11_text 41 = .ok (.iadd, 1) := by decide +kernel
theorem dX11_text_42 : decode cX11_text 42 = .ok (.putfield 326, 3) := by decide +kernel
theorem dX11_text_45 : decode cX11_text 45 = .ok (.goto (-43), 3) := by decide +kernel
theorem dX11_text_48 : decode cX11_text 48 = .ok (.aload_n 0, 1) := by decide +kernel
theorem dX11_text_49 : decode cX11_text 49 = .ok (.invokevirtual 329, 3) := by decide +kernel
theorem dX11_text_52 : decode cX11_text 52 = .ok (.iconst (-1), 1) := by decide +kernel
theorem dX11_text_53 : decode cX11_text 53 = .ok (.if_icmp .eq 15, 3) := by decide +kernel
theorem dX11_text_56 : decode cX11_text 56 = .ok (.aload_n 0, 1) := by decide +kernel
theorem dX11_text_57 : decode cX11_text 57 = .ok (.iconst 0, 1) := by decide +kernel
theorem dX11_text_58 : decode cX11_text 58 = .ok (.aload_n 0, 1) := by decide +kernel
theorem dX11_text_59 : decode cX11_text 59 = .ok (.getfield 326, 3) := by decide +kernel
theorem dX11_text_62 : decode cX11_text 62 = .ok (.invokevirtual 337, 3) := by decide +kernel
theorem dX11_text_65 : decode cX11_text 65 = .ok (.ifCond .eq 7, 3) := by decide +kernel
theorem dX11_text_68 : decode cX11_text 68 = .ok (.iconst 1, 1) := by decide +kernel
theorem dX11_text_69 : decode cX11_text 69 = .ok (.goto 4, 3) := by decide +kernel
theorem dX11_text_72 : decode cX11_text 72 = .ok (.iconst 0, 1) := by decide +kernel
theorem dX11_text_73 : decode cX11_text 73 = .ok (.ireturn, 1) := by decide +kernel
theorem dX11_statute_0 : decode cX11_statute 0 = .ok (.aload_n 0, 1) := by decide +kernel
theorem dX11_statute_1 : decode cX11_statute 1 = .ok (.getfield 350, 3) := by decide +kernel
theorem dX11_statute_4 : decode cX11_statute 4 = .ok (.bipush 12, 2) := by decide +kernel
theorem dX11_statute_6 : decode cX11_statute 6 = .ok (.if_icmp .eq 31, 3) := by decide +kernel
theorem dX11_statute_9 : decode cX11_statute 9 = .ok (.iload_n 1, 1) := by decide +kernel
theorem dX11_statute_10 : decode cX11_statute 10 = .ok (.i2l, 1) := by decide +kernel
theorem dX11_statute_11 : decode cX11_statute 11 = .ok (.lconst 0, 1) := by decide +kernel
theorem dX11_statute_12 : decode cX11_statute 12 = .ok (.ldc2_w 255, 3) := by decide +kernel
theorem dX11_statute_15 : decode cX11_statute 15 = .ok (.invokestatic 233, 3) := by decide +kernel
theorem dX11_statute_18 : decode cX11_statute 18 = .ok (.ifCond .eq 19, 3) := by decide +kernel
theorem dX11_statute_21 : decode cX11_statute 21 = .ok (.iload_n 2, 1) := by decide +kernel
theorem dX11_statute_22 : decode cX11_statute 22 = .ok (.i2l, 1) := by decide +kernel
theorem dX11_statute_23 : decode cX11_statute 23 = .ok (.aload_n 0, 1) := by decide +kernel
theorem dX11_statute_24 : decode cX11_statute 24 = .ok (.getfield 237, 3) := by decide +kernel
theorem dX11_statute_27 : decode cX11_statute 27 = .ok (.i2l, 1) := by decide +kernel
theorem dX11_statute_28 : decode cX11_statute 28 = .ok (.ldc2_w 240, 3) := by decide +kernel
theorem dX11_statute_31 : decode cX11_statute 31 = .ok (.invokestatic 233, 3) := by decide +kernel
theorem dX11_statute_34 : decode cX11_statute 34 = .ok (.ifCond .ne 5, 3) := by decide +kernel
theorem dX11_statute_37 : decode cX11_statute 37 = .ok (.iconst (-1), 1) := by decide +kernel
theorem dX11_statute_38 : decode cX11_statute 38 = .ok (.ireturn, 1) := by decide +kernel
theorem dX11_statute_39 : decode cX11_statute 39 = .ok (.aload_n 0, 1) := by decide +kernel
theorem dX11_statute_40 : decode cX11_statute 40 = .ok (.iconst 0, 1) := by decide +kernel
theorem dX11_statute_41 : decode cX11_statute 41 = .ok (.putfield 326, 3) := by decide +kernel
theorem dX11_statute_44 : decode cX11_statute 44 = .ok (.aload_n 0, 1) := by decide +kernel
theorem dX11_statute_45 : decode cX11_statute 45 = .ok (.iconst 0, 1) := by decide +kernel
theorem dX11_statute_46 : decode cX11_statute 46 = .ok (.putfield 323, 3) := by decide +kernel
theorem dX11_statute_49 : decode cX11_statute 49 = .ok (.aload_n 0, 1) := by decide +kernel
theorem dX11_statute_50 : decode cX11_statute 50 = .ok (.iconst 0, 1) := by decide +kernel
theorem dX11_statute_51 : decode cX11_statute 51 = .ok (.putfield 363, 3) := by decide +kernel
theorem dX11_statute_54 : decode cX11_statute 54 = .ok (.aload_n 0, 1) := by decide +kernel
theorem dX11_statute_55 : decode cX11_statute 55 = .ok (.iconst 0, 1) := by decide +kernel
theorem dX11_statute_56 : decode cX11_statute 56 = .ok (.putfield 366, 3) := by decide +kernel
theorem dX11_statute_59 : decode cX11_statute 59 = .ok (.aload_n 0, 1) := by decide +kernel
theorem dX11_statute_60 : decode cX11_statute 60 = .ok (.iconst 0, 1) := by decide +kernel
theorem dX11_statute_61 : decode cX11_statute 61 = .ok (.putfield 356, 3) := by decide +kernel
theorem dX11_statute_64 : decode cX11_statute 64 = .ok (.aload_n 0, 1) := by decide +kernel
theorem dX11_statute_65 : decode cX11_statute 65 = .ok (.iconst 0, 1) := by decide +kernel
theorem dX11_statute_66 : decode cX11_statute 66 = .ok (.putfield 353, 3) := by decide +kernel
theorem dX11_statute_69 : decode cX11_statute 69 = .ok (.aload_n 0, 1) := by decide +kernel
theorem dX11_statute_70 : decode cX11_statute 70 = .ok (.getfield 71, 3) := by decide +kernel
theorem dX11_statute_73 : decode cX11_statute 73 = .ok (.aload_n 0, 1) := by decide +kernel
theorem dX11_statute_74 : decode cX11_statute 74 = .ok (.getfield 350, 3) := by decide +kernel
theorem dX11_statute_77 : decode cX11_statute 77 = .ok (.iconst 0, 1) := by decide +kernel
theorem dX11_statute_78 : decode cX11_statute 78 = .ok (.iastore, 1) := by decide +kernel
theorem dX11_statute_79 : decode cX11_statute 79 = .ok (.aload_n 0, 1) := by decide +kernel
theorem dX11_statute_80 : decode cX11_statute 80 = .ok (.iload_n 1, 1) := by decide +kernel
theorem dX11_statute_81 : decode cX11_statute 81 = .ok (.invokevirtual 436, 3) := by decide +kernel
theorem dX11_statute_84 : decode cX11_statute 84 = .ok (.istore_n 3, 1) := by decide +kernel
theorem dX11_statute_85 : decode cX11_statute 85 = .ok (.aload_n 0, 1) := by decide +kernel
theorem dX11_statute_86 : decode cX11_statute 86 = .ok (.iconst 0, 1) := by decide +kernel
theorem dX11_statute_87 : decode cX11_statute 87 = .ok (.putfield 316, 3) := by decide +kernel
theorem dX11_statute_90 : decode cX11_statute 90 = .ok (.iload_n 3, 1) := by decide +kernel
theorem dX11_statute_91 : decode cX11_statute 91 = .ok (.ifCond .ne 11, 3) := by decide +kernel
theorem dX11_statute_94 : decode cX11_statute 94 = .ok (.bipush (-2), 2) := by decide +kernel
theorem dX11_statute_96 : decode cX11_statute 96 = .ok (.aload_n 0, 1) := by decide +kernel
theorem dX11_statute_97 : decode cX11_statute 97 = .ok (.getfield 323, 3) := by decide +kernel
theorem dX11_statute_100 : decode cX11_statute 100 = .ok (.isub, 1) := by decide +kernel
theorem dX11_statute_101 : decode cX11_statute 101 = .ok (.ireturn, 1) := by decide +kernel
theorem dX11_statute_102 : decode cX11_statute 102 = .ok (.aload_n 0, 1) := by decide +kernel
theorem dX11_statute_103 : decode cX11_statute 103 = .ok (.getfield 65, 3) := by decide +kernel
theorem dX11_statute_106 : decode cX11_statute 106 = .ok (.aload_n 0, 1) := by decide +kernel
theorem dX11_statute_107 : decode cX11_statute 107 = .ok (.getfield 350, 3) := by decide +kernel
theorem dX11_statute_110 : decode cX11_statute 110 = .ok (.iload_n 1, 1) := by decide +kernel
theorem dX11_statute_111 : decode cX11_statute 111 = .ok (.iastore, 1) := by decide +kernel
theorem dX11_statute_112 : decode cX11_statute 112 = .ok (.aload_n 0, 1) := by decide +kernel
theorem dX11_statute_113 : decode cX11_statute 113 = .ok (.getfield 68, 3) := by decide +kernel
theorem dX11_statute_116 : decode cX11_statute 116 = .ok (.aload_n 0, 1) := by decide +kernel
theorem dX11_statute_117 : decode cX11_statute 117 = .ok (.getfield 350, 3) := by decide +kernel
theorem dX11_statute_120 : decode cX11_statute 120 = .ok (.iload_n 2, 1) := by decide +kernel
theorem dX11_statute_121 : decode cX11_statute 121 = .ok (.iastore, 1) := by decide +kernel
theorem dX11_statute_122 : decode cX11_statute 122 = .ok (.aload_n 0, 1) := by decide +kernel
theorem dX11_statute_123 : decode cX11_statute 123 = .ok (.dup, 1) := by decide +kernel
theorem dX11_statute_124 : decode cX11_statute 124 = .ok (.getfield 350, 3) := by decide +kernel
theorem dX11_statute_127 : decode cX11_statute 127 = .ok (.iconst 1, 1) := by decide +kernel
theorem dX11_statute_128 : decode cX11_statute 128 = .ok (.iadd, 1) := by decide +kernel
theorem dX11_statute_129 : decode cX11_statute 129 = .ok (.putfield 350, 3) := by decide +kernel
theorem dX11_statute_132 : decode cX11_statute 132 = .ok (.aload_n 0, 1) := by decide +kernel
theorem dX11_statute_133 : decode cX11_statute 133 = .ok (.getfield 350, 3) := by decide +kernel
theorem dX11_statute_136 : decode cX11_statute 136 = .ok (.iconst 1, 1) := by decide +kernel
theorem dX11_statute_137 : decode cX11_statute 137 = .ok (.isub, 1) := by decide +kernel
theorem dX11_statute_138 : decode cX11_statute 138 = .ok (.ireturn, 1) := by decide +kernel
theorem dX11_asks_0 : decode cX11_asks 0 = .ok (.aload_n 0, 1) := by decide +kernel
theorem dX11_asks_1 : decode cX11_asks 1 = .ok (.iload_n 1, 1) := by decide +kernel
theorem dX11_asks_2 : decode cX11_asks 2 = .ok (.putfield 439, 3) := by decide +kernel
theorem dX11_asks_5 : decode cX11_asks 5 = .ok (.aload_n 0, 1) := by decide +kernel
theorem dX11_asks_6 : decode cX11_asks 6 = .ok (.iload_n 2, 1) := by decide +kernel
theorem dX11_asks_7 : decode cX11_asks 7 = .ok (.putfield 442, 3) := by decide +kernel
theorem dX11_asks_10 : decode cX11_asks 10 = .ok (.aload_n 0, 1) := by decide +kernel
theorem dX11_asks_11 : decode cX11_asks 11 = .ok (.iload_n 3, 1) := by decide +kernel
theorem dX11_asks_12 : decode cX11_asks 12 = .ok (.putfield 445, 3) := by decide +kernel
theorem dX11_asks_15 : decode cX11_asks 15 = .ok (.aload_n 0, 1) := by decide +kernel
theorem dX11_asks_16 : decode cX11_asks 16 = .ok (.iload 4, 2) := by decide +kernel
theorem dX11_asks_18 : decode cX11_asks 18 = .ok (.putfield 448, 3) := by decide +kernel
theorem dX11_asks_21 : decode cX11_asks 21 = .ok (.aload_n 0, 1) := by decide +kernel
theorem dX11_asks_22 : decode cX11_asks 22 = .ok (.iload 5, 2) := by decide +kernel
theorem dX11_asks_24 : decode cX11_asks 24 = .ok (.putfield 451, 3) := by decide +kernel
theorem dX11_asks_27 : decode cX11_asks 27 = .ok (.return_, 1) := by decide +kernel
theorem dX11_wordNow_0 : decode cX11_wordNow 0 = .ok (.iload_n 1, 1) := by decide +kernel
theorem dX11_wordNow_1 : decode cX11_wordNow 1 = .ok (.ifCond .ne 9, 3) := by decide +kernel
theorem dX11_wordNow_4 : decode cX11_wordNow 4 = .ok (.aload_n 0, 1) := by decide +kernel
theorem dX11_wordNow_5 : decode cX11_wordNow 5 = .ok (.getfield 439, 3) := by decide +kernel
theorem dX11_wordNow_8 : decode cX11_wordNow 8 = .ok (.i2l, 1) := by decide +kernel
theorem dX11_wordNow_9 : decode cX11_wordNow 9 = .ok (.lreturn, 1) := by decide +kernel
theorem dX11_wordNow_10 : decode cX11_wordNow 10 = .ok (.aload_n 0, 1) := by decide +kernel
theorem dX11_wordNow_11 : decode cX11_wordNow 11 = .ok (.getfield 442, 3) := by decide +kernel
theorem dX11_wordNow_14 : decode cX11_wordNow 14 = .ok (.ifCond .ge 5, 3) := by decide +kernel
theorem dX11_wordNow_17 : decode cX11_wordNow 17 = .ok (.lconst 0, 1) := by decide +kernel
theorem dX11_wordNow_18 : decode cX11_wordNow 18 = .ok (.lreturn, 1) := by decide +kernel
theorem dX11_wordNow_19 : decode cX11_wordNow 19 = .ok (.iload_n 1, 1) := by decide +kernel
theorem dX11_wordNow_20 : decode cX11_wordNow 20 = .ok (.tableswitch 119 1 7 #[44, 50, 56, 75, 86, 97, 108], 44) := by decide +kernel
theorem dX11_wordNow_64 : decode cX11_wordNow 64 = .ok (.aload_n 0, 1) := by decide +kernel
theorem dX11_wordNow_65 : decode cX11_wordNow 65 = .ok (.getfield 445, 3) := by decide +kernel
theorem dX11_wordNow_68 : decode cX11_wordNow 68 = .ok (.i2l, 1) := by decide +kernel
theorem dX11_wordNow_69 : decode cX11_wordNow 69 = .ok (.lreturn, 1) := by decide +kernel
theorem dX11_wordNow_70 : decode cX11_wordNow 70 = .ok (.aload_n 0, 1) := by decide +kernel
theorem dX11_wordNow_71 : decode cX11_wordNow 71 = .ok (.getfield 448, 3) := by decide +kernel
theorem dX11_wordNow_74 : decode cX11_wordNow 74 = .ok (.i2l, 1) := by decide +kernel
theorem dX11_wordNow_75 : decode cX11_wordNow 75 = .ok (.lreturn, 1) := by decide +kernel
theorem dX11_wordNow_76 : decode cX11_wordNow 76 = .ok (.aload_n 0, 1) := by decide +kernel
theorem dX11_wordNow_77 : decode cX11_wordNow 77 = .ok (.getfield 7, 3) := by decide +kernel
theorem dX11_wordNow_80 : decode cX11_wordNow 80 = .ok (.bipush 24, 2) := by decide +kernel
theorem dX11_wordNow_82 : decode cX11_wordNow 82 = .ok (.aload_n 0, 1) := by decide +kernel
theorem dX11_wordNow_83 : decode cX11_wordNow 83 = .ok (.getfield 448, 3) := by decide +kernel
theorem dX11_wordNow_86 : decode cX11_wordNow 86 = .ok (.imul, 1) := by decide +kernel
theorem dX11_wordNow_87 : decode cX11_wordNow 87 = .ok (.aload_n 0, 1) := by decide +kernel
theorem dX11_wordNow_88 : decode cX11_wordNow 88 = .ok (.getfield 445, 3) := by decide +kernel
theorem dX11_wordNow_91 : decode cX11_wordNow 91 = .ok (.iadd, 1) := by decide +kernel
theorem dX11_wordNow_92 : decode cX11_wordNow 92 = .ok (.iaload, 1) := by decide +kernel
theorem dX11_wordNow_93 : decode cX11_wordNow 93 = .ok (.i2l, 1) := by decide +kernel
theorem dX11_wordNow_94 : decode cX11_wordNow 94 = .ok (.lreturn, 1) := by decide +kernel
theorem dX11_wordNow_95 : decode cX11_wordNow 95 = .ok (.aload_n 0, 1) := by decide +kernel
theorem dX11_wordNow_96 : decode cX11_wordNow 96 = .ok (.getfield 13, 3) := by decide +kernel
theorem dX11_wordNow_99 : decode cX11_wordNow 99 = .ok (.aload_n 0, 1) := by decide +kernel
theorem dX11_wordNow_100 : decode cX11_wordNow 100 = .ok (.getfield 442, 3) := by decide +kernel
theorem dX11_wordNow_103 : decode cX11_wordNow 103 = .ok (.iaload, 1) := by decide +kernel
theorem dX11_wordNow_104 : decode cX11_wordNow 104 = .ok (.i2l, 1) := by decide +kernel
theorem dX11_wordNow_105 : decode cX11_wordNow 105 = .ok (.lreturn, 1) := by decide +kernel
theorem dX11_wordNow_106 : decode cX11_wordNow 106 = .ok (.aload_n 0, 1) := by decide +kernel
theorem dX11_wordNow_107 : decode cX11_wordNow 107 = .ok (.getfield 16, 3) := by decide +kernel
theorem dX11_wordNow_110 : decode cX11_wordNow 110 = .ok (.aload_n 0, 1) := by decide +kernel
theorem dX11_wordNow_111 : decode cX11_wordNow 111 = .ok (.getfield 442, 3) := by decide +kernel
theorem dX11_wordNow_114 : decode cX11_wordNow 114 = .ok (.iaload, 1) := by decide +kernel
theorem dX11_wordNow_115 : decode cX11_wordNow 115 = .ok (.i2l, 1) := by decide +kernel
theorem dX11_wordNow_116 : decode cX11_wordNow 116 = .ok (.lreturn, 1) := by decide +kernel
theorem dX11_wordNow_117 : decode cX11_wordNow 117 = .ok (.aload_n 0, 1) := by decide +kernel
theorem dX11_wordNow_118 : decode cX11_wordNow 118 = .ok (.getfield 22, 3) := by decide +kernel
theorem dX11_wordNow_121 : decode cX11_wordNow 121 = .ok (.aload_n 0, 1) := by decide +kernel
theorem dX11_wordNow_122 : decode cX11_wordNow 122 = .ok (.getfield 442, 3) := by decide +kernel
theorem dX11_wordNow_125 : decode cX11_wordNow 125 = .ok (.iaload, 1) := by decide +kernel
theorem dX11_wordNow_126 : decode cX11_wordNow 126 = .ok (.i2l, 1) := by decide +kernel
theorem dX11_wordNow_127 : decode cX11_wordNow 127 = .ok (.lreturn, 1) := by decide +kernel
theorem dX11_wordNow_128 : decode cX11_wordNow 128 = .ok (.aload_n 0, 1) := by decide +kernel
theorem dX11_wordNow_129 : decode cX11_wordNow 129 = .ok (.getfield 19, 3) := by decide +kernel
theorem dX11_wordNow_132 : decode cX11_wordNow 132 = .ok (.aload_n 0, 1) := by decide +kernel
theorem dX11_wordNow_133 : decode cX11_wordNow 133 = .ok (.getfield 442, 3) := by decide +kernel
theorem dX11_wordNow_136 : decode cX11_wordNow 136 = .ok (.iaload, 1) := by decide +kernel
theorem dX11_wordNow_137 : decode cX11_wordNow 137 = .ok (.i2l, 1) := by decide +kernel
theorem dX11_wordNow_138 : decode cX11_wordNow 138 = .ok (.lreturn, 1) := by decide +kernel
theorem dX11_wordNow_139 : decode cX11_wordNow 139 = .ok (.aload_n 0, 1) := by decide +kernel
theorem dX11_wordNow_140 : decode cX11_wordNow 140 = .ok (.getfield 451, 3) := by decide +kernel
theorem dX11_wordNow_143 : decode cX11_wordNow 143 = .ok (.i2l, 1) := by decide +kernel
theorem dX11_wordNow_144 : decode cX11_wordNow 144 = .ok (.lreturn, 1) := by decide +kernel
theorem dX11_holds_0 : decode cX11_holds 0 = .ok (.iload_n 0, 1) := by decide +kernel
theorem dX11_holds_1 : decode cX11_holds 1 = .ok (.tableswitch 79 0 3 #[31, 43, 55, 67], 31) := by decide +kernel
theorem dX11_holds_32 : decode cX11_holds 32 = .ok (.lload_n 1, 1) := by decide +kernel
theorem dX11_holds_33 : decode cX11_holds 33 = .ok (.lload_n 3, 1) := by decide +kernel
theorem dX11_holds_34 : decode cX11_holds 34 = .ok (.lcmp, 1) := by decide +kernel
theorem dX11_holds_35 : decode cX11_holds 35 = .ok (.ifCond .ge 7, 3) := by decide +kernel
theorem dX11_holds_38 : decode cX11_holds 38 = .ok (.iconst 1, 1) := by decide +kernel
theorem dX11_holds_39 : decode cX11_holds 39 = .ok (.goto 4, 3) := by decide +kernel
theorem dX11_holds_42 : decode cX11_holds 42 = .ok (.iconst 0, 1) := by decide +kernel
theorem dX11_holds_43 : decode cX11_holds 43 = .ok (.ireturn, 1) := by decide +kernel
theorem dX11_holds_44 : decode cX11_holds 44 = .ok (.lload_n 1, 1) := by decide +kernel
theorem dX11_holds_45 : decode cX11_holds 45 = .ok (.lload_n 3, 1) := by decide +kernel
theorem dX11_holds_46 : decode cX11_holds 46 = .ok (.lcmp, 1) := by decide +kernel
theorem dX11_holds_47 : decode cX11_holds 47 = .ok (.ifCond .gt 7, 3) := by decide +kernel
theorem dX11_holds_50 : decode cX11_holds 50 = .ok (.iconst 1, 1) := by decide +kernel
theorem dX11_holds_51 : decode cX11_holds 51 = .ok (.goto 4, 3) := by decide +kernel
theorem dX11_holds_54 : decode cX11_holds 54 = .ok (.iconst 0, 1) := by decide +kernel
theorem dX11_holds_55 : decode cX11_holds 55 = .ok (.ireturn, 1) := by decide +kernel
theorem dX11_holds_56 : decode cX11_holds 56 = .ok (.lload_n 1, 1) := by decide +kernel
theorem dX11_holds_57 : decode cX11_holds 57 = .ok (.lload_n 3, 1) := by decide +kernel
theorem dX11_holds_58 : decode cX11_holds 58 = .ok (.lcmp, 1) := by decide +kernel
theorem dX11_holds_59 : decode cX11_holds 59 = .ok (.ifCond .ne 7, 3) := by decide +kernel
theorem dX11_holds_62 : decode cX11_holds 62 = .ok (.iconst 1, 1) := by decide +kernel
theorem dX11_holds_63 : decode cX11_holds 63 = .ok (.goto 4, 3) := by decide +kernel
theorem dX11_holds_66 : decode cX11_holds 66 = .ok (.iconst 0, 1) := by decide +kernel
theorem dX11_holds_67 : decode cX11_holds 67 = .ok (.ireturn, 1) := by decide +kernel
theorem dX11_holds_68 : decode cX11_holds 68 = .ok (.lload_n 1, 1) := by decide +kernel
theorem dX11_holds_69 : decode cX11_holds 69 = .ok (.lload_n 3, 1) := by decide +kernel
theorem dX11_holds_70 : decode cX11_holds 70 = .ok (.lcmp, 1) := by decide +kernel
theorem dX11_holds_71 : decode cX11_holds 71 = .ok (.ifCond .lt 7, 3) := by decide +kernel
theorem dX11_holds_74 : decode cX11_holds 74 = .ok (.iconst 1, 1) := by decide +kernel
theorem dX11_holds_75 : decode cX11_holds 75 = .ok (.goto 4, 3) := by decide +kernel
theorem dX11_holds_78 : decode cX11_holds 78 = .ok (.iconst 0, 1) := by decide +kernel
theorem dX11_holds_79 : decode cX11_holds 79 = .ok (.ireturn, 1) := by decide +kernel
theorem dX11_holds_80 : decode cX11_holds 80 = .ok (.lload_n 1, 1) := by decide +kernel
theorem dX11_holds_81 : decode cX11_holds 81 = .ok (.lload_n 3, 1) := by decide +kernel
theorem dX11_holds_82 : decode cX11_holds 82 = .ok (.lcmp, 1) := by decide +kernel
theorem dX11_holds_83 : decode cX11_holds 83 = .ok (.ifCond .le 7, 3) := by decide +kernel
theorem dX11_holds_86 : decode cX11_holds 86 = .ok (.iconst 1, 1) := by decide +kernel
theorem dX11_holds_87 : decode cX11_holds 87 = .ok (.goto 4, 3) := by decide +kernel
theorem dX11_holds_90 : decode cX11_holds 90 = .ok (.iconst 0, 1) := by decide +kernel
theorem dX11_holds_91 : decode cX11_holds 91 = .ok (.ireturn, 1) := by decide +kernel
theorem dX11_works_0 : decode cX11_works 0 = .ok (.iconst 0, 1) := by decide +kernel
theorem dX11_works_1 : decode cX11_works 1 = .ok (.istore 4, 2) := by decide +kernel
theorem dX11_works_3 : decode cX11_works 3 = .ok (.sipush 420, 3) := by decide +kernel
theorem dX11_works_6 : decode cX11_works 6 = .ok (.iload_n 3, 1) := by decide +kernel
theorem dX11_works_7 : decode cX11_works 7 = .ok (.imul, 1) := by decide +kernel
theorem dX11_works_8 : decode cX11_works 8 = .ok (.iload_n 1, 1) := by decide +kernel
theorem dX11_works_9 : decode cX11_works 9 = .ok (.iadd, 1) := by decide +kernel
theorem dX11_works_10 : decode cX11_works 10 = .ok (.istore 5, 2) := by decide +kernel
theorem dX11_works_12 : decode cX11_works 12 = .ok (.iload 5, 2) := by decide +kernel
theorem dX11_works_14 : decode cX11_works 14 = .ok (.sipush 420, 3) := by decide +kernel
theorem dX11_works_17 : decode cX11_works 17 = .ok (.iload_n 3, 1) := by decide +kernel
theorem dX11_works_18 : decode cX11_works 18 = .ok (.imul, 1) := by decide +kernel
theorem dX11_works_19 : decode cX11_works 19 = .ok (.iload_n 2, 1) := by decide +kernel
theorem dX11_works_20 : decode cX11_works 20 = .ok (.iadd, 1) := by decide +kernel
theorem dX11_works_21 : decode cX11_works 21 = .ok (.if_icmp .ge 259, 3) := by decide +kernel
theorem dX11_works_24 : decode cX11_works 24 = .ok (.aload_n 0, 1) := by decide +kernel
theorem dX11_works_25 : decode cX11_works 25 = .ok (.getfield 92, 3) := by decide +kernel
theorem dX11_works_28 : decode cX11_works 28 = .ok (.iload 5, 2) := by decide +kernel
theorem dX11_works_30 : decode cX11_works 30 = .ok (.iaload, 1) := by decide +kernel
theorem dX11_works_31 : decode cX11_works 31 = .ok (.istore 6, 2) := by decide +kernel
theorem dX11_works_33 : decode cX11_works 33 = .ok (.iload 6, 2) := by decide +kernel
theorem dX11_works_35 : decode cX11_works 35 = .ok (.ifCond .eq 9, 3) := by decide +kernel
theorem dX11_works_38 : decode cX11_works 38 = .ok (.iload 6, 2) := by decide +kernel
theorem dX11_works_40 : decode cX11_works 40 = .ok (.iconst 1, 1) := by decide +kernel
theorem dX11_works_41 : decode cX11_works 41 = .ok (.if_icmp .ne 43, 3) := by decide +kernel
theorem dX11_works_44 : decode cX11_works 44 = .ok (.aload_n 0, 1) := by decide +kernel
theorem dX11_works_45 : decode cX11_works 45 = .ok (.getfield 136, 3) := by decide +kernel
theorem dX11_works_48 : decode cX11_works 48 = .ok (.iload 4, 2) := by decide +kernel
theorem dX11_works_50 : decode cX11_works 50 = .ok (.iload 6, 2) := by decide +kernel
theorem dX11_works_52 : decode cX11_works 52 = .ok (.ifCond .ne 14, 3) := by decide +kernel
theorem dX11_works_55 : decode cX11_works 55 = .ok (.aload_n 0, 1) := by decide +kernel
theorem dX11_works_56 : decode cX11_works 56 = .ok (.getfield 95, 3) := by decide +kernel
theorem dX11_works_59 : decode cX11_works 59 = .ok (.iload 5, 2) := by decide +kernel
theorem dX11_works_61 : decode cX11_works 61 = .ok (.iaload, 1) := by decide +kernel
theorem dX11_works_62 : decode cX11_works 62 = .ok (.i2l, 1) := by decide +kernel
theorem dX11_works_63 : decode cX11_works 63 = .ok (.goto 14, 3) := by decide +kernel
theorem dX11_works_66 : decode cX11_works 66 = .ok (.aload_n 0, 1) := by decide +kernel
theorem dX11_works_67 : decode cX11_works 67 = .ok (.aload_n 0, 1) := by decide +kernel
theorem dX11_works_68 : decode cX11_works 68 = .ok (.getfield 95, 3) := by decide +kernel
theorem dX11_works_71 : decode cX11_works 71 = .ok (.iload 5, 2) := by decide +kernel
theorem dX11_works_73 : decode cX11_works 73 = .ok (.iaload, 1) := by decide +kernel
theorem dX11_works_74 : decode cX11_works 74 = .ok (.invokevirtual 454, 3) := by decide +kernel
theorem dX11_works_77 : decode cX11_works 77 = .ok (.lastore, 1) := by decide +kernel
theorem dX11_works_78 : decode cX11_works 78 = .ok (.iinc 4 1, 3) := by decide +kernel
theorem dX11_works_81 : decode cX11_works 81 = .ok (.goto 193, 3) := by decide +kernel
theorem dX11_works_84 : decode cX11_works 84 = .ok (.iload 6, 2) := by decide +kernel
theorem dX11_works_86 : decode cX11_works 86 = .ok (.bipush 10, 2) := by decide +kernel
theorem dX11_works_88 : decode cX11_works 88 = .ok (.if_icmp .ne 26, 3) := by decide +kernel
theorem dX11_works_91 : decode cX11_works 91 = .ok (.aload_n 0, 1) := by decide +kernel
theorem dX11_works_92 : decode cX11_works 92 = .ok (.getfield 136, 3) := by decide +kernel
theorem dX11_works_95 : decode cX11_works 95 = .ok (.iload 4, 2) := by decide +kernel
theorem dX11_works_97 : decode cX11_works 97 = .ok (.iconst 1, 1) := by decide +kernel
theorem dX11_works_98 : decode cX11_works 98 = .ok (.isub, 1) := by decide +kernel
theorem dX11_works_99 : decode cX11_works 99 = .ok (.lconst 1, 1) := by decide +kernel
theorem dX11_works_100 : decode cX11_works 100 = .ok (.aload_n 0, 1) := by decide +kernel
theorem dX11_works_101 : decode cX11_works 101 = .ok (.getfield 136, 3) := by decide +kernel
theorem dX11_works_104 : decode cX11_works 104 = .ok (.iload 4, 2) := by decide +kernel
theorem dX11_works_106 : decode cX11_works 106 = .ok (.iconst 1, 1) := by decide +kernel
theorem dX11_works_107 : decode cX11_works 107 = .ok (.isub, 1) := by decide +kernel
theorem dX11_works_108 : decode cX11_works 108 = .ok (.laload, 1) := by decide +kernel
theorem dX11_works_109 : decode cX11_works 109 = .ok (.lsub, 1) := by decide +kernel
theorem dX11_works_110 : decode cX11_works 110 = .ok (.lastore, 1) := by decide +kernel
theorem dX11_works_111 : decode cX11_works 111 = .ok (.goto 163, 3) := by decide +kernel
theorem dX11_works_114 : decode cX11_works 114 = .ok (.iinc 4 (-1), 3) := by decide +kernel
theorem dX11_works_117 : decode cX11_works 117 = .ok (.aload_n 0, 1) := by decide +kernel
theorem dX11_works_118 : decode cX11_works 118 = .ok (.getfield 136, 3) := by decide +kernel
theorem dX11_works_121 : decode cX11_works 121 = .ok (.iload 4, 2) := by decide +kernel
theorem dX11_works_123 : decode cX11_works 123 = .ok (.iconst 1, 1) := by decide +kernel
theorem dX11_works_124 : decode cX11_works 124 = .ok (.isub, 1) := by decide +kernel
theorem dX11_works_125 : decode cX11_works 125 = .ok (.laload, 1) := by decide +kernel
theorem dX11_works_126 : decode cX11_works 126 = .ok (.lstore 7, 2) := by decide +kernel
theorem dX11_works_128 : decode cX11_works 128 = .ok (.aload_n 0, 1) := by decide +kernel
theorem dX11_works_129 : decode cX11_works 129 = .ok (.getfield 136, 3) := by decide +kernel
theorem dX11_works_132 : decode cX11_works 132 = .ok (.iload 4, 2) := by decide +kernel
theorem dX11_works_134 : decode cX11_works 134 = .ok (.laload, 1) := by decide +kernel
theorem dX11_works_135 : decode cX11_works 135 = .ok (.lstore 9, 2) := by decide +kernel
theorem dX11_works_137 : decode cX11_works 137 = .ok (.iload 6, 2) := by decide +kernel
theorem dX11_works_139 : decode cX11_works 139 = .ok (.iconst 5, 1) := by decide +kernel
theorem dX11_works_140 : decode cX11_works 140 = .ok (.if_icmp .ge 48, 3) := by decide +kernel
theorem dX11_works_143 : decode cX11_works 143 = .ok (.aload_n 0, 1) := by decide +kernel
theorem dX11_works_144 : decode cX11_works 144 = .ok (.getfield 136, 3) := by decide +kernel
theorem dX11_works_147 : decode cX11_works 147 = .ok (.iload 4, 2) := by decide +kernel
theorem dX11_works_149 : decode cX11_works 149 = .ok (.iconst 1, 1) := by decide +kernel
theorem dX11_works_150 : decode cX11_works 150 = .ok (.isub, 1) := by decide +kernel
theorem dX11_works_151 : decode cX11_works 151 = .ok (.iload 6, 2) := by decide +kernel
theorem dX11_works_153 : decode cX11_works 153 = .ok (.iconst 2, 1) := by decide +kernel
theorem dX11_works_154 : decode cX11_works 154 = .ok (.if_icmp .ne 11, 3) := by decide +kernel
theorem dX11_works_157 : decode cX11_works 157 = .ok (.lload 7, 2) := by decide +kernel
theorem dX11_works_159 : decode cX11_works 159 = .ok (.lload 9, 2) := by decide +kernel
theorem dX11_works_161 : decode cX11_works 161 = .ok (.lmul, 1) := by decide +kernel
theorem dX11_works_162 : decode cX11_works 162 = .ok (.goto 22, 3) := by decide +kernel
theorem dX11_works_165 : decode cX11_works 165 = .ok (.iload 6, 2) := by decide +kernel
theorem dX11_works_167 : decode cX11_works 167 = .ok (.iconst 3, 1) := by decide +kernel
theorem dX11_works_168 : decode cX11_works 168 = .ok (.if_icmp .ne 11, 3) := by decide +kernel
theorem dX11_works_171 : decode cX11_works 171 = .ok (.lload 7, 2) := by decide +kernel
theorem dX11_works_173 : decode cX11_works 173 = .ok (.lload 9, 2) := by decide +kernel
theorem dX11_works_175 : decode cX11_works 175 = .ok (.ladd, 1) := by decide +kernel
theorem dX11_works_176 : decode cX11_works 176 = .ok (.goto 8, 3) := by decide +kernel
theorem dX11_works_179 : decode cX11_works 179 = .ok (.lload 7, 2) := by decide +kernel
theorem dX11_works_181 : decode cX11_works 181 = .ok (.lload 9, 2) := by decide +kernel
theorem dX11_works_183 : decode cX11_works 183 = .ok (.lsub, 1) := by decide +kernel
theorem dX11_works_184 : decode cX11_works 184 = .ok (.lastore, 1) := by decide +kernel
theorem dX11_works_185 : decode cX11_works 185 = .ok (.goto 89, 3) := by decide +kernel
theorem dX11_works_188 : decode cX11_works 188 = .ok (.iload 6, 2) := by decide +kernel
theorem dX11_works_190 : decode cX11_works 190 = .ok (.bipush 11, 2) := by decide +kernel
theorem dX11_works_192 : decode cX11_works 192 = .ok (.if_icmp .ne 20, 3) := by decide +kernel
theorem dX11_works_195 : decode cX11_works 195 = .ok (.aload_n 0, 1) := by decide +kernel
theorem dX11_works_196 : decode cX11_works 196 = .ok (.getfield 136, 3) := by decide +kernel
theorem dX11_works_199 : decode cX11_works 199 = .ok (.iload 4, 2) := by decide +kernel
theorem dX11_works_201 : decode cX11_works 201 = .ok (.iconst 1, 1) := by decide +kernel
theorem dX11_works_202 : decode cX11_works 202 = .ok (.isub, 1) := by decide +kernel
theorem dX11_works_203 : decode cX11_works 203 = .ok (.lload 7, 2) := by decide +kernel
theorem dX11_works_205 : decode cX11_works 205 = .ok (.lload 9, 2) := by decide +kernel
theorem dX11_works_207 : decode cX11_works 207 = .ok (.lmul, 1) := by decide +kernel
theorem dX11_works_208 : decode cX11_works 208 = .ok (.lastore, 1) := by decide +kernel
theorem dX11_works_209 : decode cX11_works 209 = .ok (.goto 65, 3) := by decide +kernel
theorem dX11_works_212 : decode cX11_works 212 = .ok (.iload 6, 2) := by decide +kernel
theorem dX11_works_214 : decode cX11_works 214 = .ok (.bipush 12, 2) := by decide +kernel
theorem dX11_works_216 : decode cX11_works 216 = .ok (.if_icmp .ne 30, 3) := by decide +kernel
theorem dX11_works_219 : decode cX11_works 219 = .ok (.aload_n 0, 1) := by decide +kernel
theorem dX11_works_220 : decode cX11_works 220 = .ok (.getfield 136, 3) := by decide +kernel
theorem dX11_works_223 : decode cX11_works 223 = .ok (.iload 4, 2) := by decide +kernel
theorem dX11_works_225 : decode cX11_works 225 = .ok (.iconst 1, 1) := by decide +kernel
theorem dX11_works_226 : decode cX11_works 226 = .ok (.isub, 1) := by decide +kernel
theorem dX11_works_227 : decode cX11_works 227 = .ok (.lload 7, 2) := by decide +kernel
theorem dX11_works_229 : decode cX11_works 229 = .ok (.lload 9, 2) := by decide +kernel
theorem dX11_works_231 : decode cX11_works 231 = .ok (.ladd, 1) := by decide +kernel
theorem dX11_works_232 : decode cX11_works 232 = .ok (.lconst 0, 1) := by decide +kernel
theorem dX11_works_233 : decode cX11_works 233 = .ok (.lcmp, 1) := by decide +kernel
theorem dX11_works_234 : decode cX11_works 234 = .ok (.ifCond .le 7, 3) := by decide +kernel
theorem dX11_works_237 : decode cX11_works 237 = .ok (.lconst 1, 1) := by decide +kernel
theorem dX11_works_238 : decode cX11_works 238 = .ok (.goto 4, 3) := by decide +kernel
theorem dX11_works_241 : decode cX11_works 241 = .ok (.lconst 0, 1) := by decide +kernel
theorem dX11_works_242 : decode cX11_works 242 = .ok (.lastore, 1) := by decide +kernel
theorem dX11_works_243 : decode cX11_works 243 = .ok (.goto 31, 3) := by decide +kernel
theorem dX11_works_246 : decode cX11_works 246 = .ok (.aload_n 0, 1) := by decide +kernel
theorem dX11_works_247 : decode cX11_works 247 = .ok (.getfield 136, 3) := by decide +kernel
theorem dX11_works_250 : decode cX11_works 250 = .ok (.iload 4, 2) := by decide +kernel
theorem dX11_works_252 : decode cX11_works 252 = .ok (.iconst 1, 1) := by decide +kernel
theorem dX11_works_253 : decode cX11_works 253 = .ok (.isub, 1) := by decide +kernel
theorem dX11_works_254 : decode cX11_works 254 = .ok (.iload 6, 2) := by decide +kernel
theorem dX11_works_256 : decode cX11_works 256 = .ok (.iconst 5, 1) := by decide +kernel
theorem dX11_works_257 : decode cX11_works 257 = .ok (.isub, 1) := by decide +kernel
theorem dX11_works_258 : decode cX11_works 258 = .ok (.lload 7, 2) := by decide +kernel
theorem dX11_works_260 : decode cX11_works 260 = .ok (.lload 9, 2) := by decide +kernel
theorem dX11_works_262 : decode cX11_works 262 = .ok (.invokestatic 458, 3) := by decide +kernel
theorem dX11_works_265 : decode cX11_works 265 = .ok (.ifCond .eq 7, 3) := by decide +kernel
theorem dX11_works_268 : decode cX11_works 268 = .ok (.lconst 1, 1) := by decide +kernel
theorem dX11_works_269 : decode cX11_works 269 = .ok (.goto 4, 3) := by decide +kernel
theorem dX11_works_272 : decode cX11_works 272 = .ok (.lconst 0, 1) := by decide +kernel
theorem dX11_works_273 : decode cX11_works 273 = .ok (.lastore, 1) := by decide +kernel
theorem dX11_works_274 : decode cX11_works 274 = .ok (.iinc 5 1, 3) := by decide +kernel
theorem dX11_works_277 : decode cX11_works 277 = .ok (.goto (-265), 3) := by decide +kernel
theorem dX11_works_280 : decode cX11_works 280 = .ok (.aload_n 0, 1) := by decide +kernel
theorem dX11_works_281 : decode cX11_works 281 = .ok (.getfield 136, 3) := by decide +kernel
theorem dX11_works_284 : decode cX11_works 284 = .ok (.iconst 0, 1) := by decide +kernel
theorem dX11_works_285 : decode cX11_works 285 = .ok (.laload, 1) := by decide +kernel
theorem dX11_works_286 : decode cX11_works 286 = .ok (.lreturn, 1) := by decide +kernel
theorem dX11_isInForce_0 : decode cX11_isInForce 0 = .ok (.aload_n 0, 1) := by decide +kernel
theorem dX11_isInForce_1 : decode cX11_isInForce 1 = .ok (.getfield 68, 3) := by decide +kernel
theorem dX11_isInForce_4 : decode cX11_isInForce 4 = .ok (.iload_n 1, 1) := by decide +kernel
theorem dX11_isInForce_5 : decode cX11_isInForce 5 = .ok (.iaload, 1) := by decide +kernel
theorem dX11_isInForce_6 : decode cX11_isInForce 6 = .ok (.iload_n 2, 1) := by decide +kernel
theorem dX11_isInForce_7 : decode cX11_isInForce 7 = .ok (.if_icmp .le 5, 3) := by decide +kernel
theorem dX11_isInForce_10 : decode cX11_isInForce 10 = .ok (.iconst 0, 1) := by decide +kernel
theorem dX11_isInForce_11 : decode cX11_isInForce 11 = .ok (.ireturn, 1) := by decide +kernel
theorem dX11_isInForce_12 : decode cX11_isInForce 12 = .ok (.iconst 0, 1) := by decide +kernel
theorem dX11_isInForce_13 : decode cX11_isInForce 13 = .ok (.istore_n 3, 1) := by decide +kernel
theorem dX11_isInForce_14 : decode cX11_isInForce 14 = .ok (.iload_n 3, 1) := by decide +kernel
theorem dX11_isInForce_15 : decode cX11_isInForce 15 = .ok (.aload_n 0, 1) := by decide +kernel
theorem dX11_isInForce_16 : decode cX11_isInForce 16 = .ok (.getfield 350, 3) := by decide +kernel
theorem dX11_isInForce_19 : decode cX11_isInForce 19 = .ok (.if_icmp .ge 75, 3) := by decide +kernel
theorem dX11_isInForce_22 : decode cX11_isInForce 22 = .ok (.aload_n 0, 1) := by decide +kernel
theorem dX11_isInForce_23 : decode cX11_isInForce 23 = .ok (.getfield 68, 3) := by decide +kernel
theorem dX11_isInForce_26 : decode cX11_isInForce 26 = .ok (.iload_n 3, 1) := by decide +kernel
theorem dX11_isInForce_27 : decode cX11_isInForce 27 = .ok (.iaload, 1) := by decide +kernel
theorem dX11_isInForce_28 : decode cX11_isInForce 28 = .ok (.iload_n 2, 1) := by decide +kernel
theorem dX11_isInForce_29 : decode cX11_isInForce 29 = .ok (.if_icmp .le 6, 3) := by decide +kernel
theorem dX11_isInForce_32 : decode cX11_isInForce 32 = .ok (.goto 56, 3) := by decide +kernel
theorem dX11_isInForce_35 : decode cX11_isInForce 35 = .ok (.bipush 12, 2) := by decide +kernel
theorem dX11_isInForce_37 : decode cX11_isInForce 37 = .ok (.iload_n 3, 1) := by decide +kernel
theorem dX11_isInForce_38 : decode cX11_isInForce 38 = .ok (.imul, 1) := by decide +kernel
theorem dX11_isInForce_39 : decode cX11_isInForce 39 = .ok (.istore 4, 2) := by decide +kernel
theorem dX11_isInForce_41 : decode cX11_isInForce 41 = .ok (.iload 4, 2) := by decide +kernel
theorem dX11_isInForce_43 : decode cX11_isInForce 43 = .ok (.bipush 12, 2) := by decide +kernel
theorem dX11_isInForce_45 : decode cX11_isInForce 45 = .ok (.iload_n 3, 1) := by decide +kernel
theorem dX11_isInForce_46 : decode cX11_isInForce 46 = .ok (.imul, 1) := by decide +kernel
theorem dX11_isInForce_47 : decode cX11_isInForce 47 = .ok (.aload_n 0, 1) := by decide +kernel
theorem dX11_isInForce_48 : decode cX11_isInForce 48 = .ok (.getfield 71, 3) := by decide +kernel
theorem dX11_isInForce_51 : decode cX11_isInForce 51 = .ok (.iload_n 3, 1) := by decide +kernel
theorem dX11_isInForce_52 : decode cX11_isInForce 52 = .ok (.iaload, 1) := by decide +kernel
theorem dX11_isInForce_53 : decode cX11_isInForce 53 = .ok (.iadd, 1) := by decide +kernel
theorem dX11_isInForce_54 : decode cX11_isInForce 54 = .ok (.if_icmp .ge 34, 3) := by decide +kernel
theorem dX11_isInForce_57 : decode cX11_isInForce 57 = .ok (.aload_n 0, 1) := by decide +kernel
theorem dX11_isInForce_58 : decode cX11_isInForce 58 = .ok (.getfield 74, 3) := by decide +kernel
theorem dX11_isInForce_61 : decode cX11_isInForce 61 = .ok (.iload 4, 2) := by decide +kernel
theorem dX11_isInForce_63 : decode cX11_isInForce 63 = .ok (.iaload, 1) := by decide +kernel
theorem dX11_isInForce_64 : decode cX11_isInForce 64 = .ok (.bipush 7, 2) := by decide +kernel
theorem dX11_isInForce_66 : decode cX11_isInForce 66 = .ok (.if_icmp .ne 16, 3) := by decide +kernel
theorem dX11_isInForce_69 : decode cX11_isInForce 69 = .ok (.aload_n 0, 1) := by decide +kernel
theorem dX11_isInForce_70 : decode cX11_isInForce 70 = .ok (.getfield 77, 3) := by decide +kernel
theorem dX11_isInForce_73 : decode cX11_isInForce 73 = .ok (.iload 4, 2) := by decide +kernel
theorem dX11_isInForce_75 : decode cX11_isInForce 75 = .ok (.iaload, 1) := by decide +kernel
theorem dX11_isInForce_76 : decode cX11_isInForce 76 = .ok (.iload_n 1, 1) := by decide +kernel
theorem dX11_isInForce_77 : decode cX11_isInForce 77 = .ok (.if_icmp .ne 5, 3) := by decide +kernel
theorem dX11_isInForce_80 : decode cX11_isInForce 80 = .ok (.iconst 0, 1) := by decide +kernel
theorem dX11_isInForce_81 : decode cX11_isInForce 81 = .ok (.ireturn, 1) := by decide +kernel
theorem dX11_isInForce_82 : decode cX11_isInForce 82 = .ok (.iinc 4 1, 3) := by decide +kernel
theorem dX11_isInForce_85 : decode cX11_isInForce 85 = .ok (.goto (-44), 3) := by decide +kernel
theorem dX11_isInForce_88 : decode cX11_isInForce 88 = .ok (.iinc 3 1, 3) := by decide +kernel
theorem dX11_isInForce_91 : decode cX11_isInForce 91 = .ok (.goto (-77), 3) := by decide +kernel
theorem dX11_isInForce_94 : decode cX11_isInForce 94 = .ok (.iconst 1, 1) := by decide +kernel
theorem dX11_isInForce_95 : decode cX11_isInForce 95 = .ok (.ireturn, 1) := by decide +kernel
theorem dX11_clauseOf_0 : decode cX11_clauseOf 0 = .ok (.bipush 12, 2) := by decide +kernel
theorem dX11_clauseOf_2 : decode cX11_clauseOf 2 = .ok (.iload_n 1, 1) := by decide +kernel
theorem dX11_clauseOf_3 : decode cX11_clauseOf 3 = .ok (.imul, 1) := by decide +kernel
theorem dX11_clauseOf_4 : decode cX11_clauseOf 4 = .ok (.istore_n 3, 1) := by decide +kernel
theorem dX11_clauseOf_5 : decode cX11_clauseOf 5 = .ok (.iload_n 3, 1) := by decide +kernel
theorem dX11_clauseOf_6 : decode cX11_clauseOf 6 = .ok (.bipush 12, 2) := by decide +kernel
theorem dX11_clauseOf_8 : decode cX11_clauseOf 8 = .ok (.iload_n 1, 1) := by decide +kernel
theorem dX11_clauseOf_9 : decode cX11_clauseOf 9 = .ok (.imul, 1) := by decide +kernel
theorem dX11_clauseOf_10 : decode cX11_clauseOf 10 = .ok (.aload_n 0, 1) := by decide +kernel
theorem dX11_clauseOf_11 : decode cX11_clauseOf 11 = .ok (.getfield 71, 3) := by decide +kernel
theorem dX11_clauseOf_14 : decode cX11_clauseOf 14 = .ok (.iload_n 1, 1) := by decide +kernel
theorem dX11_clauseOf_15 : decode cX11_clauseOf 15 = .ok (.iaload, 1) := by decide +kernel
theorem dX11_clauseOf_16 : decode cX11_clauseOf 16 = .ok (.iadd, 1) := by decide +kernel
theorem dX11_clauseOf_17 : decode cX11_clauseOf 17 = .ok (.if_icmp .ge 78, 3) := by decide +kernel
theorem dX11_clauseOf_20 : decode cX11_clauseOf 20 = .ok (.aload_n 0, 1) := by decide +kernel
theorem dX11_clauseOf_21 : decode cX11_clauseOf 21 = .ok (.getfield 74, 3) := by decide +kernel
theorem dX11_clauseOf_24 : decode cX11_clauseOf 24 = .ok (.iload_n 3, 1) := by decide +kernel
theorem dX11_clauseOf_25 : decode cX11_clauseOf 25 = .ok (.iaload, 1) := by decide +kernel
theorem dX11_clauseOf_26 : decode cX11_clauseOf 26 = .ok (.iload_n 2, 1) := by decide +kernel
theorem dX11_clauseOf_27 : decode cX11_clauseOf 27 = .ok (.if_icmp .eq 6, 3) := by decide +kernel
theorem dX11_clauseOf_30 : decode cX11_clauseOf 30 = .ok (.goto 59, 3) := by decide +kernel
theorem dX11_clauseOf_33 : decode cX11_clauseOf 33 = .ok (.aload_n 0, 1) := by decide +kernel
theorem dX11_clauseOf_34 : decode cX11_clauseOf 34 = .ok (.getfield 89, 3) := by decide +kernel
theorem dX11_clauseOf_37 : decode cX11_clauseOf 37 = .ok (.iload_n 3, 1) := by decide +kernel
theorem dX11_clauseOf_38 : decode cX11_clauseOf 38 = .ok (.iaload, 1) := by decide +kernel
theorem dX11_clauseOf_39 : decode cX11_clauseOf 39 = .ok (.ifCond .eq 48, 3) := by decide +kernel
theorem dX11_clauseOf_42 : decode cX11_clauseOf 42 = .ok (.aload_n 0, 1) := by decide +kernel
theorem dX11_clauseOf_43 : decode cX11_clauseOf 43 = .ok (.aload_n 0, 1) := by decide +kernel

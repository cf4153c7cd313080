theorem dX6_hasKeepers_0 : decode cX6_hasKeepers 0 = .ok (.aload_n 0, 1) := by decide +kernel
theorem dX6_hasKeepers_1 : decode cX6_hasKeepers 1 = .ok (.iload_n 1, 1) := by decide +kernel
theorem dX6_hasKeepers_2 : decode cX6_hasKeepers 2 = .ok (.invokevirtual 110, 3) := by decide +kernel
theorem dX6_hasKeepers_5 : decode cX6_hasKeepers 5 = .ok (.ifCond .eq 24, 3) := by decide +kernel
theorem dX6_hasKeepers_8 : decode cX6_hasKeepers 8 = .ok (.iload_n 3, 1) := by decide +kernel
theorem dX6_hasKeepers_9 : decode cX6_hasKeepers 9 = .ok (.ifCond .eq 16, 3) := by decide +kernel
theorem dX6_hasKeepers_12 : decode cX6_hasKeepers 12 = .ok (.iload_n 2, 1) := by decide +kernel
theorem dX6_hasKeepers_13 : decode cX6_hasKeepers 13 = .ok (.iload_n 1, 1) := by decide +kernel
theorem dX6_hasKeepers_14 : decode cX6_hasKeepers 14 = .ok (.if_icmp .eq 15, 3) := by decide +kernel
theorem dX6_hasKeepers_17 : decode cX6_hasKeepers 17 = .ok (.aload_n 0, 1) := by decide +kernel
theorem dX6_hasKeepers_18 : decode cX6_hasKeepers 18 = .ok (.iload_n 2, 1) := by decide +kernel
theorem dX6_hasKeepers_19 : decode cX6_hasKeepers 19 = .ok (.invokevirtual 110, 3) := by decide +kernel
theorem dX6_hasKeepers_22 : decode cX6_hasKeepers 22 = .ok (.ifCond .eq 7, 3) := by decide +kernel
theorem dX6_hasKeepers_25 : decode cX6_hasKeepers 25 = .ok (.iconst 1, 1) := by decide +kernel
theorem dX6_hasKeepers_26 : decode cX6_hasKeepers 26 = .ok (.goto 4, 3) := by decide +kernel
theorem dX6_hasKeepers_29 : decode cX6_hasKeepers 29 = .ok (.iconst 0, 1) := by decide +kernel
theorem dX6_hasKeepers_30 : decode cX6_hasKeepers 30 = .ok (.ireturn, 1) := by decide +kernel
theorem dX6_isFree_0 : decode cX6_isFree 0 = .ok (.aload_n 0, 1) := by decide +kernel
theorem dX6_isFree_1 : decode cX6_isFree 1 = .ok (.iload_n 1, 1) := by decide +kernel
theorem dX6_isFree_2 : decode cX6_isFree 2 = .ok (.invokevirtual 113, 3) := by decide +kernel
theorem dX6_isFree_5 : decode cX6_isFree 5 = .ok (.ifCond .ne 5, 3) := by decide +kernel
theorem dX6_isFree_8 : decode cX6_isFree 8 = .ok (.iconst 0, 1) := by decide +kernel
theorem dX6_isFree_9 : decode cX6_isFree 9 = .ok (.ireturn, 1) := by decide +kernel
theorem dX6_isFree_10 : decode cX6_isFree 10 = .ok (.iload_n 1, 1) := by decide +kernel
theorem dX6_isFree_11 : decode cX6_isFree 11 = .ok (.istore_n 2, 1) := by decide +kernel
theorem dX6_isFree_12 : decode cX6_isFree 12 = .ok (.aload_n 0, 1) := by decide +kernel
theorem dX6_isFree_13 : decode cX6_isFree 13 = .ok (.getfield 45, 3) := by decide +kernel
theorem dX6_isFree_16 : decode cX6_isFree 16 = .ok (.iload_n 2, 1) := by decide +kernel
theorem dX6_isFree_17 : decode cX6_isFree 17 = .ok (.iaload, 1) := by decide +kernel
theorem dX6_isFree_18 : decode cX6_isFree 18 = .ok (.iconst 3, 1) := by decide +kernel
theorem dX6_isFree_19 : decode cX6_isFree 19 = .ok (.if_icmp .ne 22, 3) := by decide +kernel
theorem dX6_isFree_22 : decode cX6_isFree 22 = .ok (.aload_n 0, 1) := by decide +kernel
theorem dX6_isFree_23 : decode cX6_isFree 23 = .ok (.getfield 48, 3) := by decide +kernel
theorem dX6_isFree_26 : decode cX6_isFree 26 = .ok (.iload_n 2, 1) := by decide +kernel
theorem dX6_isFree_27 : decode cX6_isFree 27 = .ok (.iaload, 1) := by decide +kernel
theorem dX6_isFree_28 : decode cX6_isFree 28 = .ok (.istore_n 2, 1) := by decide +kernel
theorem dX6_isFree_29 : decode cX6_isFree 29 = .ok (.aload_n 0, 1) := by decide +kernel
theorem dX6_isFree_30 : decode cX6_isFree 30 = .ok (.getfield 54, 3) := by decide +kernel
theorem dX6_isFree_33 : decode cX6_isFree 33 = .ok (.iload_n 2, 1) := by decide +kernel
theorem dX6_isFree_34 : decode cX6_isFree 34 = .ok (.iaload, 1) := by decide +kernel
theorem dX6_isFree_35 : decode cX6_isFree 35 = .ok (.iconst (-1), 1) := by decide +kernel
theorem dX6_isFree_36 : decode cX6_isFree 36 = .ok (.if_icmp .eq (-24), 3) := by decide +kernel
theorem dX6_isFree_39 : decode cX6_isFree 39 = .ok (.iconst 0, 1) := by decide +kernel
theorem dX6_isFree_40 : decode cX6_isFree 40 = .ok (.ireturn, 1) := by decide +kernel
theorem dX6_isFree_41 : decode cX6_isFree 41 = .ok (.iconst 1, 1) := by decide +kernel
theorem dX6_isFree_42 : decode cX6_isFree 42 = .ok (.ireturn, 1) := by decide +kernel
theorem dX6_outermost_0 : decode cX6_outermost 0 = .ok (.iload_n 1, 1) := by decide +kernel
theorem dX6_outermost_1 : decode cX6_outermost 1 = .ok (.istore_n 2, 1) := by decide +kernel
theorem dX6_outermost_2 : decode cX6_outermost 2 = .ok (.aload_n 0, 1) := by decide +kernel
theorem dX6_outermost_3 : decode cX6_outermost 3 = .ok (.getfield 45, 3) := by decide +kernel
theorem dX6_outermost_6 : decode cX6_outermost 6 = .ok (.iload_n 2, 1) := by decide +kernel
theorem dX6_outermost_7 : decode cX6_outermost 7 = .ok (.iaload, 1) := by decide +kernel
theorem dX6_outermost_8 : decode cX6_outermost 8 = .ok (.iconst 3, 1) := by decide +kernel
theorem dX6_outermost_9 : decode cX6_outermost 9 = .ok (.if_icmp .ne 13, 3) := by decide +kernel
theorem dX6_outermost_12 : decode cX6_outermost 12 = .ok (.aload_n 0, 1) := by decide +kernel
theorem dX6_outermost_13 : decode cX6_outermost 13 = .ok (.getfield 48, 3) := by decide +kernel
theorem dX6_outermost_16 : decode cX6_outermost 16 = .ok (.iload_n 2, 1) := by decide +kernel
theorem dX6_outermost_17 : decode cX6_outermost 17 = .ok (.iaload, 1) := by decide +kernel
theorem dX6_outermost_18 : decode cX6_outermost 18 = .ok (.istore_n 2, 1) := by decide +kernel
theorem dX6_outermost_19 : decode cX6_outermost 19 = .ok (.goto (-17), 3) := by decide +kernel
theorem dX6_outermost_22 : decode cX6_outermost 22 = .ok (.iload_n 2, 1) := by decide +kernel
theorem dX6_outermost_23 : decode cX6_outermost 23 = .ok (.ireturn, 1) := by decide +kernel
theorem dX6_inside_0 : decode cX6_inside 0 = .ok (.iconst 0, 1) := by decide +kernel
theorem dX6_inside_1 : decode cX6_inside 1 = .ok (.istore_n 2, 1) := by decide +kernel
theorem dX6_inside_2 : decode cX6_inside 2 = .ok (.iconst 0, 1) := by decide +kernel
theorem dX6_inside_3 : decode cX6_inside 3 = .ok (.istore_n 3, 1) := by decide +kernel
theorem dX6_inside_4 : decode cX6_inside 4 = .ok (.iload_n 3, 1) := by decide +kernel
theorem dX6_inside_5 : decode cX6_inside 5 = .ok (.aload_n 0, 1) := by decide +kernel
theorem dX6_inside_6 : decode cX6_inside 6 = .ok (.getfield 93, 3) := by decide +kernel
theorem dX6_inside_9 : decode cX6_inside 9 = .ok (.if_icmp .ge 37, 3) := by decide +kernel
theorem dX6_inside_12 : decode cX6_inside 12 = .ok (.iload_n 2, 1) := by decide +kernel
theorem dX6_inside_13 : decode cX6_inside 13 = .ok (.aload_n 0, 1) := by decide +kernel
theorem dX6_inside_14 : decode cX6_inside 14 = .ok (.getfield 45, 3) := by decide +kernel
theorem dX6_inside_17 : decode cX6_inside 17 = .ok (.iload_n 3, 1) := by decide +kernel
theorem dX6_inside_18 : decode cX6_inside 18 = .ok (.iaload, 1) := by decide +kernel
theorem dX6_inside_19 : decode cX6_inside 19 = .ok (.iconst 3, 1) := by decide +kernel
theorem dX6_inside_20 : decode cX6_inside 20 = .ok (.if_icmp .ne 17, 3) := by decide +kernel
theorem dX6_inside_23 : decode cX6_inside 23 = .ok (.aload_n 0, 1) := by decide +kernel
theorem dX6_inside_24 : decode cX6_inside 24 = .ok (.getfield 48, 3) := by decide +kernel
theorem dX6_inside_27 : decode cX6_inside 27 = .ok (.iload_n 3, 1) := by decide +kernel
theorem dX6_inside_28 : decode cX6_inside 28 = .ok (.iaload, 1) := by decide +kernel
theorem dX6_inside_29 : decode cX6_inside 29 = .ok (.iload_n 1, 1) := by decide +kernel
theorem dX6_inside_30 : decode cX6_inside 30 = .ok (.if_icmp .ne 7, 3) := by decide +kernel
theorem dX6_inside_33 : decode cX6_inside 33 = .ok (.iconst 1, 1) := by decide +kernel
theorem dX6_inside_34 : decode cX6_inside 34 = .ok (.goto 4, 3) := by decide +kernel
theorem dX6_inside_37 : decode cX6_inside 37 = .ok (.iconst 0, 1) := by decide +kernel
theorem dX6_inside_38 : decode cX6_inside 38 = .ok (.iadd, 1) := by decide +kernel
theorem dX6_inside_39 : decode cX6_inside 39 = .ok (.istore_n 2, 1) := by decide +kernel
theorem dX6_inside_40 : decode cX6_inside 40 = .ok (.iinc 3 1, 3) := by decide +kernel
theorem dX6_inside_43 : decode cX6_inside 43 = .ok (.goto (-39), 3) := by decide +kernel
theorem dX6_inside_46 : decode cX6_inside 46 = .ok (.iload_n 2, 1) := by decide +kernel
theorem dX6_inside_47 : decode cX6_inside 47 = .ok (.ireturn, 1) := by decide +kernel
theorem dX6_depth_0 : decode cX6_depth 0 = .ok (.iconst 0, 1) := by decide +kernel
theorem dX6_depth_1 : decode cX6_depth 1 = .ok (.istore_n 2, 1) := by decide +kernel
theorem dX6_depth_2 : decode cX6_depth 2 = .ok (.iload_n 1, 1) := by decide +kernel
theorem dX6_depth_3 : decode cX6_depth 3 = .ok (.istore_n 3, 1) := by decide +kernel
theorem dX6_depth_4 : decode cX6_depth 4 = .ok (.aload_n 0, 1) := by decide +kernel
theorem dX6_depth_5 : decode cX6_depth 5 = .ok (.getfield 45, 3) := by decide +kernel
theorem dX6_depth_8 : decode cX6_depth 8 = .ok (.iload_n 3, 1) := by decide +kernel
theorem dX6_depth_9 : decode cX6_depth 9 = .ok (.iaload, 1) := by decide +kernel
theorem dX6_depth_10 : decode cX6_depth 10 = .ok (.iconst 3, 1) := by decide +kernel
theorem dX6_depth_11 : decode cX6_depth 11 = .ok (.if_icmp .ne 16, 3) := by decide +kernel
theorem dX6_depth_14 : decode cX6_depth 14 = .ok (.iinc 2 1, 3) := by decide +kernel
theorem dX6_depth_17 : decode cX6_depth 17 = .ok (.aload_n 0, 1) := by decide +kernel
theorem dX6_depth_18 : decode cX6_depth 18 = .ok (.getfield 48, 3) := by decide +kernel
theorem dX6_depth_21 : decode cX6_depth 21 = .ok (.iload_n 3, 1) := by decide +kernel
theorem dX6_depth_22 : decode cX6_depth 22 = .ok (.iaload, 1) := by decide +kernel
theorem dX6_depth_23 : decode cX6_depth 23 = .ok (.istore_n 3, 1) := by decide +kernel
theorem dX6_depth_24 : decode cX6_depth 24 = .ok (.goto (-20), 3) := by decide +kernel
theorem dX6_depth_27 : decode cX6_depth 27 = .ok (.iload_n 2, 1) := by decide +kernel
theorem dX6_depth_28 : decode cX6_depth 28 = .ok (.ireturn, 1) := by decide +kernel
theorem dX6_isWithin_0 : decode cX6_isWithin 0 = .ok (.iload_n 1, 1) := by decide +kernel
theorem dX6_isWithin_1 : decode cX6_isWithin 1 = .ok (.istore_n 3, 1) := by decide +kernel
theorem dX6_isWithin_2 : decode cX6_isWithin 2 = .ok (.iload_n 3, 1) := by decide +kernel
theorem dX6_isWithin_3 : decode cX6_isWithin 3 = .ok (.iload_n 2, 1) := by decide +kernel
theorem dX6_isWithin_4 : decode cX6_isWithin 4 = .ok (.if_icmp .eq 23, 3) := by decide +kernel
theorem dX6_isWithin_7 : decode cX6_isWithin 7 = .ok (.aload_n 0, 1) := by decide +kernel
theorem dX6_isWithin_8 : decode cX6_isWithin 8 = .ok (.getfield 45, 3) := by decide +kernel
theorem dX6_isWithin_11 : decode cX6_isWithin 11 = .ok (.iload_n 3, 1) := by decide +kernel
theorem dX6_isWithin_12 : decode cX6_isWithin 12 = .ok (.iaload, 1) := by decide +kernel
theorem dX6_isWithin_13 : decode cX6_isWithin 13 = .ok (.iconst 3, 1) := by decide +kernel
theorem dX6_isWithin_14 : decode cX6_isWithin 14 = .ok (.if_icmp .ne 13, 3) := by decide +kernel
theorem dX6_isWithin_17 : decode cX6_isWithin 17 = .ok (.aload_n 0, 1) := by decide +kernel
theorem dX6_isWithin_18 : decode cX6_isWithin 18 = .ok (.getfield 48, 3) := by decide +kernel
theorem dX6_isWithin_21 : decode cX6_isWithin 21 = .ok (.iload_n 3, 1) := by decide +kernel
theorem dX6_isWithin_22 : decode cX6_isWithin 22 = .ok (.iaload, 1) := by decide +kernel
theorem dX6_isWithin_23 : decode cX6_isWithin 23 = .ok (.istore_n 3, 1) := by decide +kernel
theorem dX6_isWithin_24 : decode cX6_isWithin 24 = .ok (.goto (-22), 3) := by decide +kernel
theorem dX6_isWithin_27 : decode cX6_isWithin 27 = .ok (.iload_n 3, 1) := by decide +kernel
theorem dX6_isWithin_28 : decode cX6_isWithin 28 = .ok (.iload_n 2, 1) := by decide +kernel
theorem dX6_isWithin_29 : decode cX6_isWithin 29 = .ok (.if_icmp .ne 7, 3) := by decide +kernel
theorem dX6_isWithin_32 : decode cX6_isWithin 32 = .ok (.iconst 1, 1) := by decide +kernel
theorem dX6_isWithin_33 : decode cX6_isWithin 33 = .ok (.goto 4, 3) := by decide +kernel
theorem dX6_isWithin_36 : decode cX6_isWithin 36 = .ok (.iconst 0, 1) := by decide +kernel
theorem dX6_isWithin_37 : decode cX6_isWithin 37 = .ok (.ireturn, 1) := by decide +kernel
theorem dX6_go_0 : decode cX6_go 0 = .ok (.aload_n 0, 1) := by decide +kernel
theorem dX6_go_1 : decode cX6_go 1 = .ok (.getfield 45, 3) := by decide +kernel
theorem dX6_go_4 : decode cX6_go 4 = .ok (.iload_n 1, 1) := by decide +kernel
theorem dX6_go_5 : decode cX6_go 5 = .ok (.iload_n 2, 1) := by decide +kernel
theorem dX6_go_6 : decode cX6_go 6 = .ok (.iastore, 1) := by decide +kernel
theorem dX6_go_7 : decode cX6_go 7 = .ok (.aload_n 0, 1) := by decide +kernel
theorem dX6_go_8 : decode cX6_go 8 = .ok (.getfield 48, 3) := by decide +kernel
theorem dX6_go_11 : decode cX6_go 11 = .ok (.iload_n 1, 1) := by decide +kernel
theorem dX6_go_12 : decode cX6_go 12 = .ok (.iload_n 3, 1) := by decide +kernel
theorem dX6_go_13 : decode cX6_go 13 = .ok (.iastore, 1) := by decide +kernel
theorem dX6_go_14 : decode cX6_go 14 = .ok (.return_, 1) := by decide +kernel
theorem dX6_isDone_0 : decode cX6_isDone 0 = .ok (.aload_n 1, 1) := by decide +kernel
theorem dX6_isDone_1 : decode cX6_isDone 1 = .ok (.bipush 8, 2) := by decide +kernel
theorem dX6_isDone_3 : decode cX6_isDone 3 = .ok (.iload_n 2, 1) := by decide +kernel
theorem dX6_isDone_4 : decode cX6_isDone 4 = .ok (.imul, 1) := by decide +kernel
theorem dX6_isDone_5 : decode cX6_isDone 5 = .ok (.iconst 1, 1) := by decide +kernel
theorem dX6_isDone_6 : decode cX6_isDone 6 = .ok (.iadd, 1) := by decide +kernel
theorem dX6_isDone_7 : decode cX6_isDone 7 = .ok (.iaload, 1) := by decide +kernel
theorem dX6_isDone_8 : decode cX6_isDone 8 = .ok (.istore_n 3, 1) := by decide +kernel
theorem dX6_isDone_9 : decode cX6_isDone 9 = .ok (.aload_n 1, 1) := by decide +kernel
theorem dX6_isDone_10 : decode cX6_isDone 10 = .ok (.bipush 8, 2) := by decide +kernel
theorem dX6_isDone_12 : decode cX6_isDone 12 = .ok (.iload_n 2, 1) := by decide +kernel
theorem dX6_isDone_13 : decode cX6_isDone 13 = .ok (.imul, 1) := by decide +kernel
theorem dX6_isDone_14 : decode cX6_isDone 14 = .ok (.iconst 2, 1) := by decide +kernel
theorem dX6_isDone_15 : decode cX6_isDone 15 = .ok (.iadd, 1) := by decide +kernel
theorem dX6_isDone_16 : decode cX6_isDone 16 = .ok (.iaload, 1) := by decide +kernel
theorem dX6_isDone_17 : decode cX6_isDone 17 = .ok (.istore 4, 2) := by decide +kernel
theorem dX6_isDone_19 : decode cX6_isDone 19 = .ok (.aload_n 1, 1) := by decide +kernel
theorem dX6_isDone_20 : decode cX6_isDone 20 = .ok (.bipush 8, 2) := by decide +kernel
theorem dX6_isDone_22 : decode cX6_isDone 22 = .ok (.iload_n 2, 1) := by decide +kernel
theorem dX6_isDone_23 : decode cX6_isDone 23 = .ok (.imul, 1) := by decide +kernel
theorem dX6_isDone_24 : decode cX6_isDone 24 = .ok (.iconst 3, 1) := by decide +kernel
theorem dX6_isDone_25 : decode cX6_isDone 25 = .ok (.iadd, 1) := by decide +kernel
theorem dX6_isDone_26 : decode cX6_isDone 26 = .ok (.iaload, 1) := by decide +kernel
theorem dX6_isDone_27 : decode cX6_isDone 27 = .ok (.istore 5, 2) := by decide +kernel
theorem dX6_isDone_29 : decode cX6_isDone 29 = .ok (.aload_n 1, 1) := by decide +kernel
theorem dX6_isDone_30 : decode cX6_isDone 30 = .ok (.bipush 8, 2) := by decide +kernel
theorem dX6_isDone_32 : decode cX6_isDone 32 = .ok (.iload_n 2, 1) := by decide +kernel
theorem dX6_isDone_33 : decode cX6_isDone 33 = .ok (.imul, 1) := by decide +kernel
theorem dX6_isDone_34 : decode cX6_isDone 34 = .ok (.iconst 4, 1) := by decide +kernel
theorem dX6_isDone_35 : decode cX6_isDone 35 = .ok (.iadd, 1) := by decide +kernel
theorem dX6_isDone_36 : decode cX6_isDone 36 = .ok (.iaload, 1) := by decide +kernel
theorem dX6_isDone_37 : decode cX6_isDone 37 = .ok (.istore 6, 2) := by decide +kernel
theorem dX6_isDone_39 : decode cX6_isDone 39 = .ok (.aload_n 1, 1) := by decide +kernel
theorem dX6_isDone_40 : decode cX6_isDone 40 = .ok (.bipush 8, 2) := by decide +kernel
theorem dX6_isDone_42 : decode cX6_isDone 42 = .ok (.iload_n 2, 1) := by decide +kernel
theorem dX6_isDone_43 : decode cX6_isDone 43 = .ok (.imul, 1) := by decide +kernel
theorem dX6_isDone_44 : decode cX6_isDone 44 = .ok (.iconst 5, 1) := by decide +kernel
theorem dX6_isDone_45 : decode cX6_isDone 45 = .ok (.iadd, 1) := by decide +kernel
theorem dX6_isDone_46 : decode cX6_isDone 46 = .ok (.iaload, 1) := by decide +kernel
theorem dX6_isDone_47 : decode cX6_isDone 47 = .ok (.istore 7, 2) := by decide +kernel
theorem dX6_isDone_49 : decode cX6_isDone 49 = .ok (.iload_n 3, 1) := by decide +kernel
theorem dX6_isDone_50 : decode cX6_isDone 50 = .ok (.iconst 0, 1) := by decide +kernel
theorem dX6_isDone_51 : decode cX6_isDone 51 = .ok (.aload_n 0, 1) := by decide +kernel
theorem dX6_isDone_52 : decode cX6_isDone 52 = .ok (.getfield 93, 3) := by decide +kernel
theorem dX6_isDone_55 : decode cX6_isDone 55 = .ok (.iconst 1, 1) := by decide +kernel
theorem dX6_isDone_56 : decode cX6_isDone 56 = .ok (.isub, 1) := by decide +kernel
theorem dX6_isDone_57 : decode cX6_isDone 57 = .ok (.invokestatic 96, 3) := by decide +kernel
theorem dX6_isDone_60 : decode cX6_isDone 60 = .ok (.ifCond .ne 5, 3) := by decide +kernel
theorem dX6_isDone_63 : decode cX6_isDone 63 = .ok (.iconst 0, 1) := by decide +kernel
theorem dX6_isDone_64 : decode cX6_isDone 64 = .ok (.ireturn, 1) := by decide +kernel
theorem dX6_isDone_65 : decode cX6_isDone 65 = .ok (.aload_n 1, 1) := by decide +kernel
theorem dX6_isDone_66 : decode cX6_isDone 66 = .ok (.bipush 8, 2) := by decide +kernel
theorem dX6_isDone_68 : decode cX6_isDone 68 = .ok (.iload_n 2, 1) := by decide +kernel
theorem dX6_isDone_69 : decode cX6_isDone 69 = .ok (.imul, 1) := by decide +kernel
theorem dX6_isDone_70 : decode cX6_isDone 70 = .ok (.iaload, 1) := by decide +kernel
theorem dX6_isDone_71 : decode cX6_isDone 71 = .ok (.istore 8, 2) := by decide +kernel
theorem dX6_isDone_73 : decode cX6_isDone 73 = .ok (.iload 8, 2) := by decide +kernel
theorem dX6_isDone_75 : decode cX6_isDone 75 = .ok (.iconst 1, 1) := by decide +kernel
theorem dX6_isDone_76 : decode cX6_isDone 76 = .ok (.if_icmp .ne 17, 3) := by decide +kernel
theorem dX6_isDone_79 : decode cX6_isDone 79 = .ok (.aload_n 0, 1) := by decide +kernel
theorem dX6_isDone_80 : decode cX6_isDone 80 = .ok (.iload_n 3, 1) := by decide +kernel
theorem dX6_isDone_81 : decode cX6_isDone 81 = .ok (.iload 4, 2) := by decide +kernel
theorem dX6_isDone_83 : decode cX6_isDone 83 = .ok (.iload 5, 2) := by decide +kernel
theorem dX6_isDone_85 : decode cX6_isDone 85 = .ok (.iload 6, 2) := by decide +kernel
theorem dX6_isDone_87 : decode cX6_isDone 87 = .ok (.iload 7, 2) := by decide +kernel
theorem dX6_isDone_89 : decode cX6_isDone 89 = .ok (.invokevirtual 116, 3) := by decide +kernel
theorem dX6_isDone_92 : decode cX6_isDone 92 = .ok (.ireturn, 1) := by decide +kernel
theorem dX6_isDone_93 : decode cX6_isDone 93 = .ok (.aload_n 0, 1) := by decide +kernel
theorem dX6_isDone_94 : decode cX6_isDone 94 = .ok (.iload_n 3, 1) := by decide +kernel
theorem dX6_isDone_95 : decode cX6_isDone 95 = .ok (.invokevirtual 113, 3) := by decide +kernel
theorem dX6_isDone_98 : decode cX6_isDone 98 = .ok (.ifCond .ne 5, 3) := by decide +kernel
theorem dX6_isDone_101 : decode cX6_isDone 101 = .ok (.iconst 0, 1) := by decide +kernel
theorem dX6_isDone_102 : decode cX6_isDone 102 = .ok (.ireturn, 1) := by decide +kernel
theorem dX6_isDone_103 : decode cX6_isDone 103 = .ok (.iload 8, 2) := by decide +kernel
theorem dX6_isDone_105 : decode cX6_isDone 105 = .ok (.bipush 8, 2) := by decide +kernel
theorem dX6_isDone_107 : decode cX6_isDone 107 = .ok (.if_icmp .ge 19, 3) := by decide +kernel
theorem dX6_isDone_110 : decode cX6_isDone 110 = .ok (.aload_n 0, 1) := by decide +kernel
theorem dX6_isDone_111 : decode cX6_isDone 111 = .ok (.iload 8, 2) := by decide +kernel
theorem dX6_isDone_113 : decode cX6_isDone 113 = .ok (.iload_n 3, 1) := by decide +kernel
theorem dX6_isDone_114 : decode cX6_isDone 114 = .ok (.iload 4, 2) := by decide +kernel
theorem dX6_isDone_116 : decode cX6_isDone 116 = .ok (.iload 5, 2) := by decide +kernel
theorem dX6_isDone_118 : decode cX6_isDone 118 = .ok (.iload 6, 2) := by decide +kernel
theorem dX6_isDone_120 : decode cX6_isDone 120 = .ok (.iload 7, 2) := by decide +kernel
theorem dX6_isDone_122 : decode cX6_isDone 122 = .ok (.invokevirtual 120, 3) := by decide +kernel
theorem dX6_isDone_125 : decode cX6_isDone 125 = .ok (.ireturn, 1) := by decide +kernel
theorem dX6_isDone_126 : decode cX6_isDone 126 = .ok (.iload 8, 2) := by decide +kernel
theorem dX6_isDone_128 : decode cX6_isDone 128 = .ok (.bipush 11, 2) := by decide +kernel
theorem dX6_isDone_130 : decode cX6_isDone 130 = .ok (.if_icmp .ge 17, 3) := by decide +kernel
theorem dX6_isDone_133 : decode cX6_isDone 133 = .ok (.aload_n 0, 1) := by decide +kernel
theorem dX6_isDone_134 : decode cX6_isDone 134 = .ok (.iload 8, 2) := by decide +kernel
theorem dX6_isDone_136 : decode cX6_isDone 136 = .ok (.iload_n 3, 1) := by decide +kernel
theorem dX6_isDone_137 : decode cX6_isDone 137 = .ok (.iload 4, 2) := by decide +kernel
theorem dX6_isDone_139 : decode cX6_isDone 139 = .ok (.iload 5, 2) := by decide +kernel
theorem dX6_isDone_141 : decode cX6_isDone 141 = .ok (.iload 6, 2) := by decide +kernel
theorem dX6_isDone_143 : decode cX6_isDone 143 = .ok (.invokevirtual 124, 3) := by decide +kernel
theorem dX6_isDone_146 : decode cX6_isDone 146 = .ok (.ireturn, 1) := by decide +kernel
theorem dX6_isDone_147 : decode cX6_isDone 147 = .ok (.iload 8, 2) := by decide +kernel
theorem dX6_isDone_149 : decode cX6_isDone 149 = .ok (.bipush 14, 2) := by decide +kernel
theorem dX6_isDone_151 : decode cX6_isDone 151 = .ok (.if_icmp .ge 19, 3) := by decide +kernel
theorem dX6_isDone_154 : decode cX6_isDone 154 = .ok (.aload_n 0, 1) := by decide +kernel
theorem dX6_isDone_155 : decode cX6_isDone 155 = .ok (.iload 8, 2) := by decide +kernel
theorem dX6_isDone_157 : decode cX6_isDone 157 = .ok (.iload_n 3, 1) := by decide +kernel
theorem dX6_isDone_158 : decode cX6_isDone 158 = .ok (.iload 4, 2) := by decide +kernel
theorem dX6_isDone_160 : decode cX6_isDone 160 = .ok (.iload 5, 2) := by decide +kernel
theorem dX6_isDone_162 : decode cX6_isDone 162 = .ok (.iload 6, 2) := by decide +kernel
theorem dX6_isDone_164 : decode cX6_isDone 164 = .ok (.iload 7, 2) := by decide +kernel
theorem dX6_isDone_166 : decode cX6_isDone 166 = .ok (.invokevirtual 127, 3) := by decide +kernel
theorem dX6_isDone_169 : decode cX6_isDone 169 = .ok (.ireturn, 1) := by decide +kernel
theorem dX6_isDone_170 : decode cX6_isDone 170 = .ok (.iload 8, 2) := by decide +kernel
theorem dX6_isDone_172 : decode cX6_isDone 172 = .ok (.bipush 18, 2) := by decide +kernel
theorem dX6_isDone_174 : decode cX6_isDone 174 = .ok (.if_icmp .ge 13, 3) := by decide +kernel
theorem dX6_isDone_177 : decode cX6_isDone 177 = .ok (.aload_n 0, 1) := by decide +kernel
theorem dX6_isDone_178 : decode cX6_isDone 178 = .ok (.iload 8, 2) := by decide +kernel
theorem dX6_isDone_180 : decode cX6_isDone 180 = .ok (.iload_n 3, 1) := by decide +kernel
theorem dX6_isDone_181 : decode cX6_isDone 181 = .ok (.iload 6, 2) := by decide +kernel
theorem dX6_isDone_183 : decode cX6_isDone 183 = .ok (.invokevirtual 130, 3) := by decide +kernel
theorem dX6_isDone_186 : decode cX6_isDone 186 = .ok (.ireturn, 1) := by decide +kernel
theorem dX6_isDone_187 : decode cX6_isDone 187 = .ok (.iload 8, 2) := by decide +kernel
theorem dX6_isDone_189 : decode cX6_isDone 189 = .ok (.bipush 18, 2) := by decide +kernel
theorem dX6_isDone_191 : decode cX6_isDone 191 = .ok (.if_icmp .ne 30, 3) := by decide +kernel
theorem dX6_isDone_194 : decode cX6_isDone 194 = .ok (.aload_n 0, 1) := by decide +kernel
theorem dX6_isDone_195 : decode cX6_isDone 195 = .ok (.iload_n 3, 1) := by decide +kernel
theorem dX6_isDone_196 : decode cX6_isDone 196 = .ok (.iload 4, 2) := by decide +kernel
theorem dX6_isDone_198 : decode cX6_isDone 198 = .ok (.iload 5, 2) := by decide +kernel
theorem dX6_isDone_200 : decode cX6_isDone 200 = .ok (.iload 6, 2) := by decide +kernel
theorem dX6_isDone_202 : decode cX6_isDone 202 = .ok (.aload_n 1, 1) := by decide +kernel
theorem dX6_isDone_203 : decode cX6_isDone 203 = .ok (.bipush 8, 2) := by decide +kernel
theorem dX6_isDone_205 : decode cX6_isDone 205 = .ok (.iload_n 2, 1) := by decide +kernel
theorem dX6_isDone_206 : decode cX6_isDone 206 = .ok (.imul, 1) := by decide +kernel
theorem dX6_isDone_207 : decode cX6_isDone 207 = .ok (.bipush 6, 2) := by decide +kernel
theorem dX6_isDone_209 : decode cX6_isDone 209 = .ok (.iadd, 1) := by decide +kernel
theorem dX6_isDone_210 : decode cX6_isDone 210 = .ok (.iaload, 1) := by decide +kernel
theorem dX6_isDone_211 : decode cX6_isDone 211 = .ok (.sipush 1440, 3) := by decide +kernel
theorem dX6_isDone_214 : decode cX6_isDone 214 = .ok (.idiv, 1) := by decide +kernel
theorem dX6_isDone_215 : decode cX6_isDone 215 = .ok (.invokevirtual 133, 3) := by decide +kernel
theorem dX6_isDone_218 : decode cX6_isDone 218 = .ok (.goto 12, 3) := by decide +kernel
theorem dX6_isDone_221 : decode cX6_isDone 221 = .ok (.aload_n 0, 1) := by decide +kernel
theorem dX6_isDone_222 : decode cX6_isDone 222 = .ok (.iload_n 3, 1) := by decide +kernel
theorem dX6_isDone_223 : decode cX6_isDone 223 = .ok (.iload 6, 2) := by decide +kernel
theorem dX6_isDone_225 : decode cX6_isDone 225 = .ok (.iload 7, 2) := by decide +kernel
theorem dX6_isDone_227 : decode cX6_isDone 227 = .ok (.invokevirtual 136, 3) := by decide +kernel
theorem dX6_isDone_230 : decode cX6_isDone 230 = .ok (.ireturn, 1) := by decide +kernel
theorem dX6_comesIn_0 : decode cX6_comesIn 0 = .ok (.aload_n 0, 1) := by decide +kernel
theorem dX6_comesIn_1 : decode cX6_comesIn 1 = .ok (.getfield 72, 3) := by decide +kernel
theorem dX6_comesIn_4 : decode cX6_comesIn 4 = .ok (.iload_n 1, 1) := by decide +kernel
theorem dX6_comesIn_5 : decode cX6_comesIn 5 = .ok (.baload, 1) := by decide +kernel
theorem dX6_comesIn_6 : decode cX6_comesIn 6 = .ok (.ifCond .ne 66, 3) := by decide +kernel
theorem dX6_comesIn_9 : decode cX6_comesIn 9 = .ok (.aload_n 0, 1) := by decide +kernel
theorem dX6_comesIn_10 : decode cX6_comesIn 10 = .ok (.getfield 24, 3) := by decide +kernel
theorem dX6_comesIn_13 : decode cX6_comesIn 13 = .ok (.iload_n 1, 1) := by decide +kernel
theorem dX6_comesIn_14 : decode cX6_comesIn 14 = .ok (.iaload, 1) := by decide +kernel
theorem dX6_comesIn_15 : decode cX6_comesIn 15 = .ok (.iconst 2, 1) := by decide +kernel
theorem dX6_comesIn_16 : decode cX6_comesIn 16 = .ok (.if_icmp .eq 56, 3) := by decide +kernel
theorem dX6_comesIn_19 : decode cX6_comesIn 19 = .ok (.aload_n 0, 1) := by decide +kernel
theorem dX6_comesIn_20 : decode cX6_comesIn 20 = .ok (.getfield 24, 3) := by decide +kernel
theorem dX6_comesIn_23 : decode cX6_comesIn 23 = .ok (.iload_n 1, 1) := by decide +kernel
theorem dX6_comesIn_24 : decode cX6_comesIn 24 = .ok (.iaload, 1) := by decide +kernel
theorem dX6_comesIn_25 : decode cX6_comesIn 25 = .ok (.iconst 3, 1) := by decide +kernel
theorem dX6_comesIn_26 : decode cX6_comesIn 26 = .ok (.if_icmp .eq 46, 3) := by decide +kernel
theorem dX6_comesIn_29 : decode cX6_comesIn 29 = .ok (.aload_n 0, 1) := by decide +kernel
theorem dX6_comesIn_30 : decode cX6_comesIn 30 = .ok (.iload_n 2, 1) := by decide +kernel
theorem dX6_comesIn_31 : decode cX6_comesIn 31 = .ok (.iload_n 3, 1) := by decide +kernel
theorem dX6_comesIn_32 : decode cX6_comesIn 32 = .ok (.aload_n 0, 1) := by decide +kernel
theorem dX6_comesIn_33 : decode cX6_comesIn 33 = .ok (.getfield 24, 3) := by decide +kernel
theorem dX6_comesIn_36 : decode cX6_comesIn 36 = .ok (.iload_n 1, 1) := by decide +kernel
theorem dX6_comesIn_37 : decode cX6_comesIn 37 = .ok (.iaload, 1) := by decide +kernel
theorem dX6_comesIn_38 : decode cX6_comesIn 38 = .ok (.iconst 5, 1) := by decide +kernel
theorem dX6_comesIn_39 : decode cX6_comesIn 39 = .ok (.if_icmp .ne 7, 3) := by decide +kernel
theorem dX6_comesIn_42 : decode cX6_comesIn 42 = .ok (.iconst 1, 1) := by decide +kernel
theorem dX6_comesIn_43 : decode cX6_comesIn 43 = .ok (.goto 4, 3) := by decide +kernel
theorem dX6_comesIn_46 : decode cX6_comesIn 46 = .ok (.iconst 0, 1) := by decide +kernel
theorem dX6_comesIn_47 : decode cX6_comesIn 47 = .ok (.invokevirtual 139, 3) := by decide +kernel
theorem dX6_comesIn_50 : decode cX6_comesIn 50 = .ok (.ifCond .eq 22, 3) := by decide +kernel
theorem dX6_comesIn_53 : decode cX6_comesIn 53 = .ok (.aload_n 0, 1) := by decide +kernel
theorem dX6_comesIn_54 : decode cX6_comesIn 54 = .ok (.iload 5, 2) := by decide +kernel
theorem dX6_comesIn_56 : decode cX6_comesIn 56 = .ok (.invokevirtual 143, 3) := by decide +kernel
theorem dX6_comesIn_59 : decode cX6_comesIn 59 = .ok (.ifCond .eq 13, 3) := by decide +kernel
theorem dX6_comesIn_62 : decode cX6_comesIn 62 = .ok (.aload_n 0, 1) := by decide +kernel
theorem dX6_comesIn_63 : decode cX6_comesIn 63 = .ok (.iload_n 1, 1) := by decide +kernel
theorem dX6_comesIn_64 : decode cX6_comesIn 64 = .ok (.iload 4, 2) := by decide +kernel
theorem dX6_comesIn_66 : decode cX6_comesIn 66 = .ok (.invokevirtual 146, 3) := by decide +kernel
theorem dX6_comesIn_69 : decode cX6_comesIn 69 = .ok (.ifCond .ne 5, 3) := by decide +kernel
theorem dX6_comesIn_72 : decode cX6_comesIn 72 = .ok (.iconst 0, 1) := by decide +kernel
theorem dX6_comesIn_73 : decode cX6_comesIn 73 = .ok (.ireturn, 1) := by decide +kernel
theorem dX6_comesIn_74 : decode cX6_comesIn 74 = .ok (.aload_n 0, 1) := by decide +kernel
theorem dX6_comesIn_75 : decode cX6_comesIn 75 = .ok (.getfield 72, 3) := by decide +kernel
theorem dX6_comesIn_78 : decode cX6_comesIn 78 = .ok (.iload_n 1, 1) := by decide +kernel
theorem dX6_comesIn_79 : decode cX6_comesIn 79 = .ok (.iconst 1, 1) := by decide +kernel
theorem dX6_comesIn_80 : decode cX6_comesIn 80 = .ok (.bastore, 1) := by decide +kernel
theorem dX6_comesIn_81 : decode cX6_comesIn 81 = .ok (.aload_n 0, 1) := by decide +kernel
theorem dX6_comesIn_82 : decode cX6_comesIn 82 = .ok (.iload_n 1, 1) := by decide +kernel
theorem dX6_comesIn_83 : decode cX6_comesIn 83 = .ok (.iconst 1, 1) := by decide +kernel
theorem dX6_comesIn_84 : decode cX6_comesIn 84 = .ok (.iload 4, 2) := by decide +kernel
theorem dX6_comesIn_86 : decode cX6_comesIn 86 = .ok (.invokevirtual 150, 3) := by decide +kernel
theorem dX6_comesIn_89 : decode cX6_comesIn 89 = .ok (.iconst 1, 1) := by decide +kernel
theorem dX6_comesIn_90 : decode cX6_comesIn 90 = .ok (.ireturn, 1) := by decide +kernel
theorem dX6_moves_0 : decode cX6_moves 0 = .ok (.aload_n 0, 1) := by decide +kernel
theorem dX6_moves_1 : decode cX6_moves 1 = .ok (.getfield 24, 3) := by decide +kernel
theorem dX6_moves_4 : decode cX6_moves 4 = .ok (.iload_n 2, 1) := by decide +kernel
theorem dX6_moves_5 : decode cX6_moves 5 = .ok (.iaload, 1) := by decide +kernel
theorem dX6_moves_6 : decode cX6_moves 6 = .ok (.iconst 5, 1) := by decide +kernel
theorem dX6_moves_7 : decode cX6_moves 7 = .ok (.if_icmp .ne 7, 3) := by decide +kernel
theorem dX6_moves_10 : decode cX6_moves 10 = .ok (.iconst 1, 1) := by decide +kernel
theorem dX6_moves_11 : decode cX6_moves 11 = .ok (.goto 4, 3) := by decide +kernel
theorem dX6_moves_14 : decode cX6_moves 14 = .ok (.iconst 0, 1) := by decide +kernel
theorem dX6_moves_15 : decode cX6_moves 15 = .ok (.istore 7, 2) := by decide +kernel
theorem dX6_moves_17 : decode cX6_moves 17 = .ok (.aload_n 0, 1) := by decide +kernel
theorem dX6_moves_18 : decode cX6_moves 18 = .ok (.iload_n 3, 1) := by decide +kernel
theorem dX6_moves_19 : decode cX6_moves 19 = .ok (.iload 4, 2) := by decide +kernel
theorem dX6_moves_21 : decode cX6_moves 21 = .ok (.iload 7, 2) := by decide +kernel
theorem dX6_moves_23 : decode cX6_moves 23 = .ok (.invokevirtual 139, 3) := by decide +kernel
theorem dX6_moves_26 : decode cX6_moves 26 = .ok (.istore 8, 2) := by decide +kernel
theorem dX6_moves_28 : decode cX6_moves 28 = .ok (.iload_n 1, 1) := by decide +kernel
theorem dX6_moves_29 : decode cX6_moves 29 = .ok (.tableswitch 242 2 6 #[35, 90, 139, 194, 231], 35) := by decide +kernel
theorem dX6_moves_64 : decode cX6_moves 64 = .ok (.iload 8, 2) := by decide +kernel
theorem dX6_moves_66 : decode cX6_moves 66 = .ok (.ifCond .eq 33, 3) := by decide +kernel
theorem dX6_moves_69 : decode cX6_moves 69 = .ok (.aload_n 0, 1) := by decide +kernel
theorem dX6_moves_70 : decode cX6_moves 70 = .ok (.getfield 45, 3) := by decide +kernel
theorem dX6_moves_73 : decode cX6_moves 73 = .ok (.iload_n 2, 1) := by decide +kernel
theorem dX6_moves_74 : decode cX6_moves 74 = .ok (.iaload, 1) := by decide +kernel
theorem dX6_moves_75 : decode cX6_moves 75 = .ok (.iconst 1, 1) := by decide +kernel
theorem dX6_moves_76 : decode cX6_moves 76 = .ok (.if_icmp .ne 23, 3) := by decide +kernel
theorem dX6_moves_79 : decode cX6_moves 79 = .ok (.aload_n 0, 1) := by decide +kernel
theorem dX6_moves_80 : decode cX6_moves 80 = .ok (.iload 5, 2) := by decide +kernel
theorem dX6_moves_82 : decode cX6_moves 82 = .ok (.invokevirtual 143, 3) := by decide +kernel
theorem dX6_moves_85 : decode cX6_moves 85 = .ok (.ifCond .eq 14, 3) := by decide +kernel
theorem dX6_moves_88 : decode cX6_moves 88 = .ok (.iload 6, 2) := by decide +kernel
theorem dX6_moves_90 : decode cX6_moves 90 = .ok (.iconst 0, 1) := by decide +kernel
theorem dX6_moves_91 : decode cX6_moves 91 = .ok (.ldc 154, 2) := by decide +kernel
theorem dX6_moves_93 : decode cX6_moves 93 = .ok (.invokestatic 96, 3) := by decide +kernel
theorem dX6_moves_96 : decode cX6_moves 96 = .ok (.ifCond .ne 5, 3) := by decide +kernel
theorem dX6_moves_99 : decode cX6_moves 99 = .ok (.iconst 0, 1) := by decide +kernel
theorem dX6_moves_100 : decode cX6_moves 100 = .ok (.ireturn, 1) := by decide +kernel
theorem dX6_moves_101 : decode cX6_moves 101 = .ok (.aload_n 0, 1) := by decide +kernel
theorem dX6_moves_102 : decode cX6_moves 102 = .ok (.iload_n 2, 1) := by decide +kernel
theorem dX6_moves_103 : decode cX6_moves 103 = .ok (.iconst 2, 1) := by decide +kernel
theorem dX6_moves_104 : decode cX6_moves 104 = .ok (.iload 5, 2) := by decide +kernel
theorem dX6_moves_106 : decode cX6_moves 106 = .ok (.invokevirtual 150, 3) := by decide +kernel
theorem dX6_moves_109 : decode cX6_moves 109 = .ok (.aload_n 0, 1) := by decide +kernel
theorem dX6_moves_110 : decode cX6_moves 110 = .ok (.getfield 57, 3) := by decide +kernel
theorem dX6_moves_113 : decode cX6_moves 113 = .ok (.iload_n 2, 1) := by decide +kernel
theorem dX6_moves_114 : decode cX6_moves 114 = .ok (.iload 6, 2) := by decide +kernel
theorem dX6_moves_116 : decode cX6_moves 116 = .ok (.iastore, 1) := by decide +kernel
theorem dX6_moves_117 : decode cX6_moves 117 = .ok (.iconst 1, 1) := by decide +kernel
theorem dX6_moves_118 : decode cX6_moves 118 = .ok (.ireturn, 1) := by decide +kernel
theorem dX6_moves_119 : decode cX6_moves 119 = .ok (.aload_n 0, 1) := by decide +kernel
theorem dX6_moves_120 : decode cX6_moves 120 = .ok (.getfield 45, 3) := by decide +kernel
theorem dX6_moves_123 : decode cX6_moves 123 = .ok (.iload_n 2, 1) := by decide +kernel
theorem dX6_moves_124 : decode cX6_moves 124 = .ok (.iaload, 1) := by decide +kernel
theorem dX6_moves_125 : decode cX6_moves 125 = .ok (.iconst 2, 1) := by decide +kernel
theorem dX6_moves_126 : decode cX6_moves 126 = .ok (.if_icmp .ne 30, 3) := by decide +kernel
theorem dX6_moves_129 : decode cX6_moves 129 = .ok (.aload_n 0, 1) := by decide +kernel
theorem dX6_moves_130 : decode cX6_moves 130 = .ok (.getfield 48, 3) := by decide +kernel
theorem dX6_moves_133 : decode cX6_moves 133 = .ok (.iload_n 2, 1) := by decide +kernel
theorem dX6_moves_134 : decode cX6_moves 134 = .ok (.iaload, 1) := by decide +kernel
theorem dX6_moves_135 : decode cX6_moves 135 = .ok (.iload 5, 2) := by decide +kernel
theorem dX6_moves_137 : decode cX6_moves 137 = .ok (.if_icmp .ne 19, 3) := by decide +kernel
theorem dX6_moves_140 : decode cX6_moves 140 = .ok (.aload_n 0, 1) := by decide +kernel
theorem dX6_moves_141 : decode cX6_moves 141 = .ok (.iload 6, 2) := by decide +kernel
theorem dX6_moves_143 : decode cX6_moves 143 = .ok (.invokevirtual 143, 3) := by decide +kernel
theorem dX6_moves_146 : decode cX6_moves 146 = .ok (.ifCond .eq 10, 3) := by decide +kernel
theorem dX6_moves_149 : decode cX6_moves 149 = .ok (.iload 5, 2) := by decide +kernel
theorem dX6_moves_151 : decode cX6_moves 151 = .ok (.iload 6, 2) := by decide +kernel
theorem dX6_moves_153 : decode cX6_moves 153 = .ok (.if_icmp .ne 5, 3) := by decide +kernel
theorem dX6_moves_156 : decode cX6_moves 156 = .ok (.iconst 0, 1) := by decide +kernel
theorem dX6_moves_157 : decode cX6_moves 157 = .ok (.ireturn, 1) := by decide +kernel
theorem dX6_moves_158 : decode cX6_moves 158 = .ok (.aload_n 0, 1) := by decide +kernel
theorem dX6_moves_159 : decode cX6_moves 159 = .ok (.iload_n 2, 1) := by decide +kernel
theorem dX6_moves_160 : decode cX6_moves 160 = .ok (.iconst 2, 1) := by decide +kernel
theorem dX6_moves_161 : decode cX6_moves 161 = .ok (.iload 6, 2) := by decide +kernel
theorem dX6_moves_163 : decode cX6_moves 163 = .ok (.invokevirtual 150, 3) := by decide +kernel
theorem dX6_moves_166 : decode cX6_moves 166 = .ok (.iconst 1, 1) := by decide +kernel
theorem dX6_moves_167 : decode cX6_moves 167 = .ok (.ireturn, 1) := by decide +kernel
theorem dX6_moves_168 : decode cX6_moves 168 = .ok (.iload 8, 2) := by decide +kernel
theorem dX6_moves_170 : decode cX6_moves 170 = .ok (.ifCond .eq 34, 3) := by decide +kernel
theorem dX6_moves_173 : decode cX6_moves 173 = .ok (.aload_n 0, 1) := by decide +kernel
theorem dX6_moves_174 : decode cX6_moves 174 = .ok (.getfield 45, 3) := by decide +kernel
theorem dX6_moves_177 : decode cX6_moves 177 = .ok (.iload_n 2, 1) := by decide +kernel
theorem dX6_moves_178 : decode cX6_moves 178 = .ok (.iaload, 1) := by decide +kernel
theorem dX6_moves_179 : decode cX6_moves 179 = .ok (.iconst 2, 1) := by decide +kernel
theorem dX6_moves_180 : decode cX6_moves 180 = .ok (.if_icmp .ne 24, 3) := by decide +kernel
theorem dX6_moves_183 : decode cX6_moves 183 = .ok (.aload_n 0, 1) := by decide +kernel
theorem dX6_moves_184 : decode cX6_moves 184 = .ok (.getfield 48, 3) := by decide +kernel
theorem dX6_moves_187 : decode cX6_moves 187 = .ok (.iload_n 2, 1) := by decide +kernel
theorem dX6_moves_188 : decode cX6_moves 188 = .ok (.iaload, 1) := by decide +kernel
theorem dX6_moves_189 : decode cX6_moves 189 = .ok (.iload 6, 2) := by decide +kernel
theorem dX6_moves_191 : decode cX6_moves 191 = .ok (.if_icmp .ne 13, 3) := by decide +kernel
theorem dX6_moves_194 : decode cX6_moves 194 = .ok (.aload_n 0, 1) := by decide +kernel
theorem dX6_moves_195 : decode cX6_moves 195 = .ok (.iload_n 2, 1) := by decide +kernel
theorem dX6_moves_196 : decode cX6_moves 196 = .ok (.iload 5, 2) := by decide +kernel
theorem dX6_moves_198 : decode cX6_moves 198 = .ok (.invokevirtual 146, 3) := by decide +kernel
theorem dX6_moves_201 : decode cX6_moves 201 = .ok (.ifCond .ne 5, 3) := by decide +kernel
theorem dX6_moves_204 : decode cX6_moves 204 = .ok (.iconst 0, 1) := by decide +kernel
theorem dX6_moves_205 : decode cX6_moves 205 = .ok (.ireturn, 1) := by decide +kernel
theorem dX6_moves_206 : decode cX6_moves 206 = .ok (.aload_n 0, 1) := by decide +kernel
theorem dX6_moves_207 : decode cX6_moves 207 = .ok (.iload_n 2, 1) := by decide +kernel
theorem dX6_moves_208 : decode cX6_moves 208 = .ok (.iconst 1, 1) := by decide +kernel
theorem dX6_moves_209 : decode cX6_moves 209 = .ok (.iload 5, 2) := by decide +kernel
theorem dX6_moves_211 : decode cX6_moves 211 = .ok (.invokevirtual 150, 3) := by decide +kernel
theorem dX6_moves_214 : decode cX6_moves 214 = .ok (.aload_n 0, 1) := by decide +kernel
theorem dX6_moves_215 : decode cX6_moves 215 = .ok (.getfield 57, 3) := by decide +kernel
theorem dX6_moves_218 : decode cX6_moves 218 = .ok (.iload_n 2, 1) := by decide +kernel
theorem dX6_moves_219 : decode cX6_moves 219 = .ok (.iconst (-1), 1) := by decide +kernel
theorem dX6_moves_220 : decode cX6_moves 220 = .ok (.iastore, 1) := by decide +kernel
theorem dX6_moves_221 : decode cX6_moves 221 = .ok (.iconst 1, 1) := by decide +kernel
theorem dX6_moves_222 : decode cX6_moves 222 = .ok (.ireturn, 1) := by decide +kernel
theorem dX6_moves_223 : decode cX6_moves 223 = .ok (.iload 8, 2) := by decide +kernel
theorem dX6_moves_225 : decode cX6_moves 225 = .ok (.ifCond .eq 23, 3) := by decide +kernel
theorem dX6_moves_228 : decode cX6_moves 228 = .ok (.aload_n 0, 1) := by decide +kernel
theorem dX6_moves_229 : decode cX6_moves 229 = .ok (.getfield 45, 3) := by decide +kernel
theorem dX6_moves_232 : decode cX6_moves 232 = .ok (.iload_n 2, 1) := by decide +kernel
theorem dX6_moves_233 : decode cX6_moves 233 = .ok (.iaload, 1) := by decide +kernel
theorem dX6_moves_234 : decode cX6_moves 234 = .ok (.iconst 1, 1) := by decide +kernel
theorem dX6_moves_235 : decode cX6_moves 235 = .ok (.if_icmp .ne 13, 3) := by decide +kernel
theorem dX6_moves_238 : decode cX6_moves 238 = .ok (.aload_n 0, 1) := by decide +kernel
theorem dX6_moves_239 : decode cX6_moves 239 = .ok (.iload_n 2, 1) := by decide +kernel
theorem dX6_moves_240 : decode cX6_moves 240 = .ok (.iload 5, 2) := by decide +kernel
theorem dX6_moves_242 : decode cX6_moves 242 = .ok (.invokevirtual 146, 3) := by decide +kernel
theorem dX6_moves_245 : decode cX6_moves 245 = .ok (.ifCond .ne 5, 3) := by decide +kernel
theorem dX6_moves_248 : decode cX6_moves 248 = .ok (.iconst 0, 1) := by decide +kernel
theorem dX6_moves_249 : decode cX6_moves 249 = .ok (.ireturn, 1) := by decide +kernel
theorem dX6_moves_250 : decode cX6_moves 250 = .ok (.aload_n 0, 1) := by decide +kernel
theorem dX6_moves_251 : decode cX6_moves 251 = .ok (.iload_n 2, 1) := by decide +kernel
theorem dX6_moves_252 : decode cX6_moves 252 = .ok (.iconst 1, 1) := by decide +kernel
theorem dX6_moves_253 : decode cX6_moves 253 = .ok (.iload 5, 2) := by decide +kernel
theorem dX6_moves_255 : decode cX6_moves 255 = .ok (.invokevirtual 150, 3) := by decide +kernel
theorem dX6_moves_258 : decode cX6_moves 258 = .ok (.iconst 1, 1) := by decide +kernel
theorem dX6_moves_259 : decode cX6_moves 259 = .ok (.ireturn, 1) := by decide +kernel
theorem dX6_moves_260 : decode cX6_moves 260 = .ok (.aload_n 0, 1) := by decide +kernel
theorem dX6_moves_261 : decode cX6_moves 261 = .ok (.iload_n 2, 1) := by decide +kernel
theorem dX6_moves_262 : decode cX6_moves 262 = .ok (.iload_n 3, 1) := by decide +kernel
theorem dX6_moves_263 : decode cX6_moves 263 = .ok (.iload 4, 2) := by decide +kernel
theorem dX6_moves_265 : decode cX6_moves 265 = .ok (.iload 5, 2) := by decide +kernel
theorem dX6_moves_267 : decode cX6_moves 267 = .ok (.invokevirtual 155, 3) := by decide +kernel
theorem dX6_moves_270 : decode cX6_moves 270 = .ok (.ireturn, 1) := by decide +kernel
theorem dX6_moves_271 : decode cX6_moves 271 = .ok (.aload_n 0, 1) := by decide +kernel
theorem dX6_moves_272 : decode cX6_moves 272 = .ok (.iload_n 2, 1) := by decide +kernel
theorem dX6_moves_273 : decode cX6_moves 273 = .ok (.iload_n 3, 1) := by decide +kernel
theorem dX6_moves_274 : decode cX6_moves 274 = .ok (.iload 4, 2) := by decide +kernel
theorem dX6_moves_276 : decode cX6_moves 276 = .ok (.iload 5, 2) := by decide +kernel
theorem dX6_moves_278 : decode cX6_moves 278 = .ok (.invokevirtual 159, 3) := by decide +kernel
theorem dX6_moves_281 : decode cX6_moves 281 = .ok (.ireturn, 1) := by decide +kernel
theorem dX6_goesInto_0 : decode cX6_goesInto 0 = .ok (.aload_n 0, 1) := by decide +kernel
theorem dX6_goesInto_1 : decode cX6_goesInto 1 = .ok (.iload 4, 2) := by decide +kernel
theorem dX6_goesInto_3 : decode cX6_goesInto 3 = .ok (.invokevirtual 113, 3) := by decide +kernel
theorem dX6_goesInto_6 : decode cX6_goesInto 6 = .ok (.ifCond .eq 33, 3) := by decide +kernel
theorem dX6_goesInto_9 : decode cX6_goesInto 9 = .ok (.aload_n 0, 1) := by decide +kernel
theorem dX6_goesInto_10 : decode cX6_goesInto 10 = .ok (.iload 4, 2) := by decide +kernel
theorem dX6_goesInto_12 : decode cX6_goesInto 12 = .ok (.invokevirtual 162, 3) := by decide +kernel
theorem dX6_goesInto_15 : decode cX6_goesInto 15 = .ok (.ifCond .eq 24, 3) := by decide +kernel
theorem dX6_goesInto_18 : decode cX6_goesInto 18 = .ok (.aload_n 0, 1) := by decide +kernel
theorem dX6_goesInto_19 : decode cX6_goesInto 19 = .ok (.getfield 54, 3) := by decide +kernel
theorem dX6_goesInto_22 : decode cX6_goesInto 22 = .ok (.iload 4, 2) := by decide +kernel
theorem dX6_goesInto_24 : decode cX6_goesInto 24 = .ok (.iaload, 1) := by decide +kernel
theorem dX6_goesInto_25 : decode cX6_goesInto 25 = .ok (.iconst (-1), 1) := by decide +kernel
theorem dX6_goesInto_26 : decode cX6_goesInto 26 = .ok (.if_icmp .ne 13, 3) := by decide +kernel
theorem dX6_goesInto_29 : decode cX6_goesInto 29 = .ok (.aload_n 0, 1) := by decide +kernel
theorem dX6_goesInto_30 : decode cX6_goesInto 30 = .ok (.iload 4, 2) := by decide +kernel
theorem dX6_goesInto_32 : decode cX6_goesInto 32 = .ok (.iload_n 1, 1) := by decide +kernel
theorem dX6_goesInto_33 : decode cX6_goesInto 33 = .ok (.invokevirtual 165, 3) := by decide +kernel
theorem dX6_goesInto_36 : decode cX6_goesInto 36 = .ok (.ifCond .eq 5, 3) := by decide +kernel
theorem dX6_goesInto_39 : decode cX6_goesInto 39 = .ok (.iconst 0, 1) := by decide +kernel
theorem dX6_goesInto_40 : decode cX6_goesInto 40 = .ok (.ireturn, 1) := by decide +kernel
theorem dX6_goesInto_41 : decode cX6_goesInto 41 = .ok (.aload_n 0, 1) := by decide +kernel
theorem dX6_goesInto_42 : decode cX6_goesInto 42 = .ok (.iload_n 2, 1) := by decide +kernel
theorem dX6_goesInto_43 : decode cX6_goesInto 43 = .ok (.iload_n 3, 1) := by decide +kernel
theorem dX6_goesInto_44 : decode cX6_goesInto 44 = .ok (.aload_n 0, 1) := by decide +kernel
theorem dX6_goesInto_45 : decode cX6_goesInto 45 = .ok (.getfield 24, 3) := by decide +kernel
theorem dX6_goesInto_48 : decode cX6_goesInto 48 = .ok (.iload_n 1, 1) := by decide +kernel
theorem dX6_goesInto_49 : decode cX6_goesInto 49 = .ok (.iaload, 1) := by decide +kernel
theorem dX6_goesInto_50 : decode cX6_goesInto 50 = .ok (.iconst 5, 1) := by decide +kernel
theorem dX6_goesInto_51 : decode cX6_goesInto 51 = .ok (.if_icmp .eq 14, 3) := by decide +kernel
theorem dX6_goesInto_54 : decode cX6_goesInto 54 = .ok (.aload_n 0, 1) := by decide +kernel
theorem dX6_goesInto_55 : decode cX6_goesInto 55 = .ok (.getfield 24, 3) := by decide +kernel
theorem dX6_goesInto_58 : decode cX6_goesInto 58 = .ok (.iload 4, 2) := by decide +kernel
theorem dX6_goesInto_60 : decode cX6_goesInto 60 = .ok (.iaload, 1) := by decide +kernel
theorem dX6_goesInto_61 : decode cX6_goesInto 61 = .ok (.iconst 5, 1) := by decide +kernel
theorem dX6_goesInto_62 : decode cX6_goesInto 62 = .ok (.if_icmp .ne 7, 3) := by decide +kernel
theorem dX6_goesInto_65 : decode cX6_goesInto 65 = .ok (.iconst 1, 1) := by decide +kernel
theorem dX6_goesInto_66 : decode cX6_goesInto 66 = .ok (.goto 4, 3) := by decide +kernel
theorem dX6_goesInto_69 : decode cX6_goesInto 69 = .ok (.iconst 0, 1) := by decide +kernel
theorem dX6_goesInto_70 : decode cX6_goesInto 70 = .ok (.invokevirtual 139, 3) := by decide +kernel
theorem dX6_goesInto_73 : decode cX6_goesInto 73 = .ok (.ifCond .ne 5, 3) := by decide +kernel
theorem dX6_goesInto_76 : decode cX6_goesInto 76 = .ok (.iconst 0, 1) := by decide +kernel
theorem dX6_goesInto_77 : decode cX6_goesInto 77 = .ok (.ireturn, 1) := by decide +kernel
theorem dX6_goesInto_78 : decode cX6_goesInto 78 = .ok (.aload_n 0, 1) := by decide +kernel
theorem dX6_goesInto_79 : decode cX6_goesInto 79 = .ok (.getfield 45, 3) := by decide +kernel
theorem dX6_goesInto_82 : decode cX6_goesInto 82 = .ok (.iload_n 1, 1) := by decide +kernel
theorem dX6_goesInto_83 : decode cX6_goesInto 83 = .ok (.iaload, 1) := by decide +kernel
theorem dX6_goesInto_84 : decode cX6_goesInto 84 = .ok (.iconst 1, 1) := by decide +kernel
theorem dX6_goesInto_85 : decode cX6_goesInto 85 = .ok (.if_icmp .ne 14, 3) := by decide +kernel
theorem dX6_goesInto_88 : decode cX6_goesInto 88 = .ok (.aload_n 0, 1) := by decide +kernel
theorem dX6_goesInto_89 : decode cX6_goesInto 89 = .ok (.getfield 45, 3) := by decide +kernel
theorem dX6_goesInto_92 : decode cX6_goesInto 92 = .ok (.iload 4, 2) := by decide +kernel
theorem dX6_goesInto_94 : decode cX6_goesInto 94 = .ok (.iaload, 1) := by decide +kernel
theorem dX6_goesInto_95 : decode cX6_goesInto 95 = .ok (.iconst 1, 1) := by decide +kernel
theorem dX6_goesInto_96 : decode cX6_goesInto 96 = .ok (.if_icmp .eq 40, 3) := by decide +kernel
theorem dX6_goesInto_99 : decode cX6_goesInto 99 = .ok (.aload_n 0, 1) := by decide +kernel
theorem dX6_goesInto_100 : decode cX6_goesInto 100 = .ok (.getfield 45, 3) := by decide +kernel
theorem dX6_goesInto_103 : decode cX6_goesInto 103 = .ok (.iload_n 1, 1) := by decide +kernel
theorem dX6_goesInto_104 : decode cX6_goesInto 104 = .ok (.iaload, 1) := by decide +kernel
theorem dX6_goesInto_105 : decode cX6_goesInto 105 = .ok (.iconst 2, 1) := by decide +kernel
theorem dX6_goesInto_106 : decode cX6_goesInto 106 = .ok (.if_icmp .ne 34, 3) := by decide +kernel
theorem dX6_goesInto_109 : decode cX6_goesInto 109 = .ok (.aload_n 0, 1) := by decide +kernel
theorem dX6_goesInto_110 : decode cX6_goesInto 110 = .ok (.getfield 45, 3) := by decide +kernel
theorem dX6_goesInto_113 : decode cX6_goesInto 113 = .ok (.iload 4, 2) := by decide +kernel
theorem dX6_goesInto_115 : decode cX6_goesInto 115 = .ok (.iaload, 1) := by decide +kernel
theorem dX6_goesInto_116 : decode cX6_goesInto 116 = .ok (.iconst 2, 1) := by decide +kernel
theorem dX6_goesInto_117 : decode cX6_goesInto 117 = .ok (.if_icmp .ne 23, 3) := by decide +kernel
theorem dX6_goesInto_120 : decode cX6_goesInto 120 = .ok (.aload_n 0, 1) := by decide +kernel
theorem dX6_goesInto_121 : decode cX6_goesInto 121 = .ok (.getfield 48, 3) := by decide +kernel
theorem dX6_goesInto_124 : decode cX6_goesInto 124 = .ok (.iload_n 1, 1) := by decide +kernel
theorem dX6_goesInto_125 : decode cX6_goesInto 125 = .ok (.iaload, 1) := by decide +kernel
theorem dX6_goesInto_126 : decode cX6_goesInto 126 = .ok (.aload_n 0, 1) := by decide +kernel
theorem dX6_goesInto_127 : decode cX6_goesInto 127 = .ok (.getfield 48, 3) := by decide +kernel
theorem dX6_goesInto_130 : decode cX6_goesInto 130 = .ok (.iload 4, 2) := by decide +kernel
theorem dX6_goesInto_132 : decode cX6_goesInto 132 = .ok (.iaload, 1) := by decide +kernel
theorem dX6_goesInto_133 : decode cX6_goesInto 133 = .ok (.if_icmp .ne 7, 3) := by decide +kernel
theorem dX6_goesInto_136 : decode cX6_goesInto 136 = .ok (.iconst 1, 1) := by decide +kernel
theorem dX6_goesInto_137 : decode cX6_goesInto 137 = .ok (.goto 4, 3) := by decide +kernel
theorem dX6_goesInto_140 : decode cX6_goesInto 140 = .ok (.iconst 0, 1) := by decide +kernel
theorem dX6_goesInto_141 : decode cX6_goesInto 141 = .ok (.istore 5, 2) := by decide +kernel
theorem dX6_goesInto_143 : decode cX6_goesInto 143 = .ok (.iload 5, 2) := by decide +kernel
theorem dX6_goesInto_145 : decode cX6_goesInto 145 = .ok (.ifCond .eq 14, 3) := by decide +kernel
theorem dX6_goesInto_148 : decode cX6_goesInto 148 = .ok (.aload_n 0, 1) := by decide +kernel
theorem dX6_goesInto_149 : decode cX6_goesInto 149 = .ok (.iload 4, 2) := by decide +kernel
theorem dX6_goesInto_151 : decode cX6_goesInto 151 = .ok (.invokevirtual 168, 3) := by decide +kernel
theorem dX6_goesInto_154 : decode cX6_goesInto 154 = .ok (.bipush 7, 2) := by decide +kernel
theorem dX6_goesInto_156 : decode cX6_goesInto 156 = .ok (.if_icmp .le 5, 3) := by decide +kernel
theorem dX6_goesInto_159 : decode cX6_goesInto 159 = .ok (.iconst 0, 1) := by decide +kernel
theorem dX6_goesInto_160 : decode cX6_goesInto 160 = .ok (.ireturn, 1) := by decide +kernel
theorem dX6_goesInto_161 : decode cX6_goesInto 161 = .ok (.iconst 0, 1) := by decide +kernel
theorem dX6_goesInto_162 : decode cX6_goesInto 162 = .ok (.istore 6, 2) := by decide +kernel
theorem dX6_goesInto_164 : decode cX6_goesInto 164 = .ok (.iconst 0, 1) := by decide +kernel
theorem dX6_goesInto_165 : decode cX6_goesInto 165 = .ok (.istore 7, 2) := by decide +kernel
theorem dX6_goesInto_167 : decode cX6_goesInto 167 = .ok (.iload 7, 2) := by decide +kernel
theorem dX6_goesInto_169 : decode cX6_goesInto 169 = .ok (.aload_n 0, 1) := by decide +kernel
theorem dX6_goesInto_170 : decode cX6_goesInto 170 = .ok (.getfield 93, 3) := by decide +kernel
theorem dX6_goesInto_173 : decode cX6_goesInto 173 = .ok (.if_icmp .ge 47, 3) := by decide +kernel
theorem dX6_goesInto_176 : decode cX6_goesInto 176 = .ok (.aload_n 0, 1) := by decide +kernel
theorem dX6_goesInto_177 : decode cX6_goesInto 177 = .ok (.iload 7, 2) := by decide +kernel
theorem dX6_goesInto_179 : decode cX6_goesInto 179 = .ok (.invokevirtual 113, 3) := by decide +kernel
theorem dX6_goesInto_182 : decode cX6_goesInto 182 = .ok (.ifCond .eq 32, 3) := by decide +kernel
theorem dX6_goesInto_185 : decode cX6_goesInto 185 = .ok (.aload_n 0, 1) := by decide +kernel
theorem dX6_goesInto_186 : decode cX6_goesInto 186 = .ok (.iload 7, 2) := by decide +kernel
theorem dX6_goesInto_188 : decode cX6_goesInto 188 = .ok (.iload_n 1, 1) := by decide +kernel
theorem dX6_goesInto_189 : decode cX6_goesInto 189 = .ok (.invokevirtual 165, 3) := by decide +kernel
theorem dX6_goesInto_192 : decode cX6_goesInto 192 = .ok (.ifCond .eq 22, 3) := by decide +kernel
theorem dX6_goesInto_195 : decode cX6_goesInto 195 = .ok (.aload_n 0, 1) := by decide +kernel
theorem dX6_goesInto_196 : decode cX6_goesInto 196 = .ok (.iload 7, 2) := by decide +kernel
theorem dX6_goesInto_198 : decode cX6_goesInto 198 = .ok (.invokevirtual 172, 3) := by decide +kernel
theorem dX6_goesInto_201 : decode cX6_goesInto 201 = .ok (.iload 6, 2) := by decide +kernel
theorem dX6_goesInto_203 : decode cX6_goesInto 203 = .ok (.if_icmp .le 11, 3) := by decide +kernel
theorem dX6_goesInto_206 : decode cX6_goesInto 206 = .ok (.aload_n 0, 1) := by decide +kernel
theorem dX6_goesInto_207 : decode cX6_goesInto 207 = .ok (.iload 7, 2) := by decide +kernel
theorem dX6_goesInto_209 : decode cX6_goesInto 209 = .ok (.invokevirtual 172, 3) := by decide +kernel
theorem dX6_goesInto_212 : decode cX6_goesInto 212 = .ok (.istore 6, 2) := by decide +kernel
theorem dX6_goesInto_214 : decode cX6_goesInto 214 = .ok (.iinc 7 1, 3) := by decide +kernel
theorem dX6_goesInto_217 : decode cX6_goesInto 217 = .ok (.goto (-50), 3) := by decide +kernel
theorem dX6_goesInto_220 : decode cX6_goesInto 220 = .ok (.iload 6, 2) := by decide +kernel
theorem dX6_goesInto_222 : decode cX6_goesInto 222 = .ok (.aload_n 0, 1) := by decide +kernel
theorem dX6_goesInto_223 : decode cX6_goesInto 223 = .ok (.iload 4, 2) := by decide +kernel
theorem dX6_goesInto_225 : decode cX6_goesInto 225 = .ok (.invokevirtual 172, 3) := by decide +kernel
theorem dX6_goesInto_228 : decode cX6_goesInto 228 = .ok (.iadd, 1) := by decide +kernel
theorem dX6_goesInto_229 : decode cX6_goesInto 229 = .ok (.iconst 1, 1) := by decide +kernel
theorem dX6_goesInto_230 : decode cX6_goesInto 230 = .ok (.iadd, 1) := by decide +kernel
theorem dX6_goesInto_231 : decode cX6_goesInto 231 = .ok (.iconst 4, 1) := by decide +kernel
theorem dX6_goesInto_232 : decode cX6_goesInto 232 = .ok (.if_icmp .le 5, 3) := by decide +kernel
theorem dX6_goesInto_235 : decode cX6_goesInto 235 = .ok (.iconst 0, 1) := by decide +kernel
theorem dX6_goesInto_236 : decode cX6_goesInto 236 = .ok (.ireturn, 1) := by decide +kernel
theorem dX6_goesInto_237 : decode cX6_goesInto 237 = .ok (.aload_n 0, 1) := by decide +kernel
theorem dX6_goesInto_238 : decode cX6_goesInto 238 = .ok (.iload_n 1, 1) := by decide +kernel
theorem dX6_goesInto_239 : decode cX6_goesInto 239 = .ok (.iconst 3, 1) := by decide +kernel
theorem dX6_goesInto_240 : decode cX6_goesInto 240 = .ok (.iload 4, 2) := by decide +kernel
theorem dX6_goesInto_242 : decode cX6_goesInto 242 = .ok (.invokevirtual 150, 3) := by decide +kernel
theorem dX6_goesInto_245 : decode cX6_goesInto 245 = .ok (.iconst 1, 1) := by decide +kernel
theorem dX6_goesInto_246 : decode cX6_goesInto 246 = .ok (.ireturn, 1) := by decide +kernel
theorem dX6_goesFrom_0 : decode cX6_goesFrom 0 = .ok (.aload_n 0, 1) := by decide +kernel
theorem dX6_goesFrom_1 : decode cX6_goesFrom 1 = .ok (.getfield 45, 3) := by decide +kernel
theorem dX6_goesFrom_4 : decode cX6_goesFrom 4 = .ok (.iload_n 1, 1) := by decide +kernel
theorem dX6_goesFrom_5 : decode cX6_goesFrom 5 = .ok (.iaload, 1) := by decide +kernel
theorem dX6_goesFrom_6 : decode cX6_goesFrom 6 = .ok (.iconst 3, 1) := by decide +kernel
theorem dX6_goesFrom_7 : decode cX6_goesFrom 7 = .ok (.if_icmp .eq 5, 3) := by decide +kernel
theorem dX6_goesFrom_10 : decode cX6_goesFrom 10 = .ok (.iconst 0, 1) := by decide +kernel
theorem dX6_goesFrom_11 : decode cX6_goesFrom 11 = .ok (.ireturn, 1) := by decide +kernel
theorem dX6_goesFrom_12 : decode cX6_goesFrom 12 = .ok (.aload_n 0, 1) := by decide +kernel
theorem dX6_goesFrom_13 : decode cX6_goesFrom 13 = .ok (.getfield 48, 3) := by decide +kernel
theorem dX6_goesFrom_16 : decode cX6_goesFrom 16 = .ok (.iload_n 1, 1) := by decide +kernel
theorem dX6_goesFrom_17 : decode cX6_goesFrom 17 = .ok (.iaload, 1) := by decide +kernel
theorem dX6_goesFrom_18 : decode cX6_goesFrom 18 = .ok (.istore 5, 2) := by decide +kernel
theorem dX6_goesFrom_20 : decode cX6_goesFrom 20 = .ok (.aload_n 0, 1) := by decide +kernel
theorem dX6_goesFrom_21 : decode cX6_goesFrom 21 = .ok (.getfield 54, 3) := by decide +kernel
theorem dX6_goesFrom_24 : decode cX6_goesFrom 24 = .ok (.iload 5, 2) := by decide +kernel
theorem dX6_goesFrom_26 : decode cX6_goesFrom 26 = .ok (.iaload, 1) := by decide +kernel
theorem dX6_goesFrom_27 : decode cX6_goesFrom 27 = .ok (.iconst (-1), 1) := by decide +kernel
theorem dX6_goesFrom_28 : decode cX6_goesFrom 28 = .ok (.if_icmp .ne 49, 3) := by decide +kernel
theorem dX6_goesFrom_31 : decode cX6_goesFrom 31 = .ok (.aload_n 0, 1) := by decide +kernel
theorem dX6_goesFrom_32 : decode cX6_goesFrom 32 = .ok (.getfield 45, 3) := by decide +kernel
theorem dX6_goesFrom_35 : decode cX6_goesFrom 35 = .ok (.iload 5, 2) := by decide +kernel
theorem dX6_goesFrom_37 : decode cX6_goesFrom 37 = .ok (.iaload, 1) := by decide +kernel
theorem dX6_goesFrom_38 : decode cX6_goesFrom 38 = .ok (.iconst 3, 1) := by decide +kernel
theorem dX6_goesFrom_39 : decode cX6_goesFrom 39 = .ok (.if_icmp .eq 38, 3) := by decide +kernel
theorem dX6_goesFrom_42 : decode cX6_goesFrom 42 = .ok (.aload_n 0, 1) := by decide +kernel
theorem dX6_goesFrom_43 : decode cX6_goesFrom 43 = .ok (.iload_n 2, 1) := by decide +kernel
theorem dX6_goesFrom_44 : decode cX6_goesFrom 44 = .ok (.iload_n 3, 1) := by decide +kernel
theorem dX6_goesFrom_45 : decode cX6_goesFrom 45 = .ok (.aload_n 0, 1) := by decide +kernel
theorem dX6_goesFrom_46 : decode cX6_goesFrom 46 = .ok (.getfield 24, 3) := by decide +kernel
theorem dX6_goesFrom_49 : decode cX6_goesFrom 49 = .ok (.iload_n 1, 1) := by decide +kernel
theorem dX6_goesFrom_50 : decode cX6_goesFrom 50 = .ok (.iaload, 1) := by decide +kernel
theorem dX6_goesFrom_51 : decode cX6_goesFrom 51 = .ok (.iconst 5, 1) := by decide +kernel
theorem dX6_goesFrom_52 : decode cX6_goesFrom 52 = .ok (.if_icmp .eq 14, 3) := by decide +kernel
theorem dX6_goesFrom_55 : decode cX6_goesFrom 55 = .ok (.aload_n 0, 1) := by decide +kernel
theorem dX6_goesFrom_56 : decode cX6_goesFrom 56 = .ok (.getfield 24, 3) := by decide +kernel
theorem dX6_goesFrom_59 : decode cX6_goesFrom 59 = .ok (.iload 5, 2) := by decide +kernel
theorem dX6_goesFrom_61 : decode cX6_goesFrom 61 = .ok (.iaload, 1) := by decide +kernel
theorem dX6_goesFrom_62 : decode cX6_goesFrom 62 = .ok (.iconst 5, 1) := by decide +kernel
theorem dX6_goesFrom_63 : decode cX6_goesFrom 63 = .ok (.if_icmp .ne 7, 3) := by decide +kernel
theorem dX6_goesFrom_66 : decode cX6_goesFrom 66 = .ok (.iconst 1, 1) := by decide +kernel
theorem dX6_goesFrom_67 : decode cX6_goesFrom 67 = .ok (.goto 4, 3) := by decide +kernel
theorem dX6_goesFrom_70 : decode cX6_goesFrom 70 = .ok (.iconst 0, 1) := by decide +kernel
theorem dX6_goesFrom_71 : decode cX6_goesFrom 71 = .ok (.invokevirtual 139, 3) := by decide +kernel
theorem dX6_goesFrom_74 : decode cX6_goesFrom 74 = .ok (.ifCond .ne 5, 3) := by decide +kernel
theorem dX6_goesFrom_77 : decode cX6_goesFrom 77 = .ok (.iconst 0, 1) := by decide +kernel
theorem dX6_goesFrom_78 : decode cX6_goesFrom 78 = .ok (.ireturn, 1) := by decide +kernel
theorem dX6_goesFrom_79 : decode cX6_goesFrom 79 = .ok (.aload_n 0, 1) := by decide +kernel
theorem dX6_goesFrom_80 : decode cX6_goesFrom 80 = .ok (.getfield 45, 3) := by decide +kernel
theorem dX6_goesFrom_83 : decode cX6_goesFrom 83 = .ok (.iload 5, 2) := by decide +kernel
theorem dX6_goesFrom_85 : decode cX6_goesFrom 85 = .ok (.iaload, 1) := by decide +kernel
theorem dX6_goesFrom_86 : decode cX6_goesFrom 86 = .ok (.iconst 2, 1) := by decide +kernel
theorem dX6_goesFrom_87 : decode cX6_goesFrom 87 = .ok (.if_icmp .ne 18, 3) := by decide +kernel
theorem dX6_goesFrom_90 : decode cX6_goesFrom 90 = .ok (.aload_n 0, 1) := by decide +kernel
theorem dX6_goesFrom_91 : decode cX6_goesFrom 91 = .ok (.iload_n 1, 1) := by decide +kernel
theorem dX6_goesFrom_92 : decode cX6_goesFrom 92 = .ok (.iconst 2, 1) := by decide +kernel
theorem dX6_goesFrom_93 : decode cX6_goesFrom 93 = .ok (.aload_n 0, 1) := by decide +kernel
theorem dX6_goesFrom_94 : decode cX6_goesFrom 94 = .ok (.getfield 48, 3) := by decide +kernel
theorem dX6_goesFrom_97 : decode cX6_goesFrom 97 = .ok (.iload 5, 2) := by decide +kernel
theorem dX6_goesFrom_99 : decode cX6_goesFrom 99 = .ok (.iaload, 1) := by decide +kernel
theorem dX6_goesFrom_100 : decode cX6_goesFrom 100 = .ok (.invokevirtual 150, 3) := by decide +kernel
theorem dX6_goesFrom_103 : decode cX6_goesFrom 103 = .ok (.iconst 1, 1) := by decide +kernel
theorem dX6_goesFrom_104 : decode cX6_goesFrom 104 = .ok (.ireturn, 1) := by decide +kernel
theorem dX6_goesFrom_105 : decode cX6_goesFrom 105 = .ok (.aload_n 0, 1) := by decide +kernel
theorem dX6_goesFrom_106 : decode cX6_goesFrom 106 = .ok (.iload_n 1, 1) := by decide +kernel
theorem dX6_goesFrom_107 : decode cX6_goesFrom 107 = .ok (.iload 4, 2) := by decide +kernel
theorem dX6_goesFrom_109 : decode cX6_goesFrom 109 = .ok (.invokevirtual 146, 3) := by decide +kernel
theorem dX6_goesFrom_112 : decode cX6_goesFrom 112 = .ok (.ifCond .ne 5, 3) := by decide +kernel
theorem dX6_goesFrom_115 : decode cX6_goesFrom 115 = .ok (.iconst 0, 1) := by decide +kernel
theorem dX6_goesFrom_116 : decode cX6_goesFrom 116 = .ok (.ireturn, 1) := by decide +kernel
theorem dX6_goesFrom_117 : decode cX6_goesFrom 117 = .ok (.aload_n 0, 1) := by decide +kernel
theorem dX6_goesFrom_118 : decode cX6_goesFrom 118 = .ok (.iload_n 1, 1) := by decide +kernel
theorem dX6_goesFrom_119 : decode cX6_goesFrom 119 = .ok (.iconst 1, 1) := by decide +kernel
theorem dX6_goesFrom_120 : decode cX6_goesFrom 120 = .ok (.iload 4, 2) := by decide +kernel
theorem dX6_goesFrom_122 : decode cX6_goesFrom 122 = .ok (.invokevirtual 150, 3) := by decide +kernel
theorem dX6_goesFrom_125 : decode cX6_goesFrom 125 = .ok (.iconst 1, 1) := by decide +kernel
theorem dX6_goesFrom_126 : decode cX6_goesFrom 126 = .ok (.ireturn, 1) := by decide +kernel
theorem dX6_isSeal_0 : decode cX6_isSeal 0 = .ok (.iload_n 1, 1) := by decide +kernel
theorem dX6_isSeal_1 : decode cX6_isSeal 1 = .ok (.iconst 0, 1) := by decide +kernel
theorem dX6_isSeal_2 : decode cX6_isSeal 2 = .ok (.sipush 599, 3) := by decide +kernel
theorem dX6_isSeal_5 : decode cX6_isSeal 5 = .ok (.invokestatic 96, 3) := by decide +kernel
theorem dX6_isSeal_8 : decode cX6_isSeal 8 = .ok (.ifCond .eq 23, 3) := by decide +kernel
theorem dX6_isSeal_11 : decode cX6_isSeal 11 = .ok (.iload_n 1, 1) := by decide +kernel
theorem dX6_isSeal_12 : decode cX6_isSeal 12 = .ok (.bipush 100, 2) := by decide +kernel
theorem dX6_isSeal_14 : decode cX6_isSeal 14 = .ok (.irem, 1) := by decide +kernel
theorem dX6_isSeal_15 : decode cX6_isSeal 15 = .ok (.aload_n 0, 1) := by decide +kernel
theorem dX6_isSeal_16 : decode cX6_isSeal 16 = .ok (.getfield 20, 3) := by decide +kernel
theorem dX6_isSeal_19 : decode cX6_isSeal 19 = .ok (.iload_n 1, 1) := by decide +kernel
theorem dX6_isSeal_20 : decode cX6_isSeal 20 = .ok (.bipush 100, 2) := by decide +kernel
theorem dX6_isSeal_22 : decode cX6_isSeal 22 = .ok (.idiv, 1) := by decide +kernel
theorem dX6_isSeal_23 : decode cX6_isSeal 23 = .ok (.iaload, 1) := by decide +kernel
theorem dX6_isSeal_24 : decode cX6_isSeal 24 = .ok (.if_icmp .ge 7, 3) := by decide +kernel
theorem dX6_isSeal_27 : decode cX6_isSeal 27 = .ok (.iconst 1, 1) := by decide +kernel
theorem dX6_isSeal_28 : decode cX6_isSeal 28 = .ok (.goto 4, 3) := by decide +kernel
theorem dX6_isSeal_31 : decode cX6_isSeal 31 = .ok (.iconst 0, 1) := by decide +kernel
theorem dX6_isSeal_32 : decode cX6_isSeal 32 = .ok (.ireturn, 1) := by decide +kernel
theorem dX6_isSealing_0 : decode cX6_isSealing 0 = .ok (.aload_n 0, 1) := by decide +kernel
theorem dX6_isSealing_1 : decode cX6_isSealing 1 = .ok (.iload_n 2, 1) := by decide +kernel
theorem dX6_isSealing_2 : decode cX6_isSealing 2 = .ok (.invokevirtual 162, 3) := by decide +kernel
theorem dX6_isSealing_5 : decode cX6_isSealing 5 = .ok (.ifCond .ne 5, 3) := by decide +kernel
theorem dX6_isSealing_8 : decode cX6_isSealing 8 = .ok (.iconst 0, 1) := by decide +kernel
theorem dX6_isSealing_9 : decode cX6_isSealing 9 = .ok (.ireturn, 1) := by decide +kernel
theorem dX6_isSealing_10 : decode cX6_isSealing 10 = .ok (.iload_n 1, 1) := by decide +kernel
theorem dX6_isSealing_11 : decode cX6_isSealing 11 = .ok (.bipush 10, 2) := by decide +kernel
theorem dX6_isSealing_13 : decode cX6_isSealing 13 = .ok (.if_icmp .ne 13, 3) := by decide +kernel
theorem dX6_isSealing_16 : decode cX6_isSealing 16 = .ok (.iload 5, 2) := by decide +kernel
theorem dX6_isSealing_18 : decode cX6_isSealing 18 = .ok (.iconst (-1), 1) := by decide +kernel
theorem dX6_isSealing_19 : decode cX6_isSealing 19 = .ok (.sipush 999, 3) := by decide +kernel
theorem dX6_isSealing_22 : decode cX6_isSealing 22 = .ok (.invokestatic 96, 3) := by decide +kernel
theorem dX6_isSealing_25 : decode cX6_isSealing 25 = .ok (.ireturn, 1) := by decide +kernel
theorem dX6_isSealing_26 : decode cX6_isSealing 26 = .ok (.aload_n 0, 1) := by decide +kernel
theorem dX6_isSealing_27 : decode cX6_isSealing 27 = .ok (.getfield 24, 3) := by decide +kernel
theorem dX6_isSealing_30 : decode cX6_isSealing 30 = .ok (.iload_n 2, 1) := by decide +kernel
theorem dX6_isSealing_31 : decode cX6_isSealing 31 = .ok (.iaload, 1) := by decide +kernel
theorem dX6_isSealing_32 : decode cX6_isSealing 32 = .ok (.iconst 5, 1) := by decide +kernel
theorem dX6_isSealing_33 : decode cX6_isSealing 33 = .ok (.if_icmp .ne 16, 3) := by decide +kernel
theorem dX6_isSealing_36 : decode cX6_isSealing 36 = .ok (.aload_n 0, 1) := by decide +kernel
theorem dX6_isSealing_37 : decode cX6_isSealing 37 = .ok (.iload_n 3, 1) := by decide +kernel
theorem dX6_isSealing_38 : decode cX6_isSealing 38 = .ok (.iload 4, 2) := by decide +kernel
theorem dX6_isSealing_40 : decode cX6_isSealing 40 = .ok (.iconst 1, 1) := by decide +kernel
theorem dX6_isSealing_41 : decode cX6_isSealing 41 = .ok (.invokevirtual 139, 3) := by decide +kernel
theorem dX6_isSealing_44 : decode cX6_isSealing 44 = .ok (.ifCond .ne 5, 3) := by decide +kernel
theorem dX6_isSealing_47 : decode cX6_isSealing 47 = .ok (.iconst 0, 1) := by decide +kernel
theorem dX6_isSealing_48 : decode cX6_isSealing 48 = .ok (.ireturn, 1) := by decide +kernel
theorem dX6_isSealing_49 : decode cX6_isSealing 49 = .ok (.iload_n 1, 1) := by decide +kernel
theorem dX6_isSealing_50 : decode cX6_isSealing 50 = .ok (.bipush 9, 2) := by decide +kernel
theorem dX6_isSealing_52 : decode cX6_isSealing 52 = .ok (.if_icmp .ne 36, 3) := by decide +kernel
theorem dX6_isSealing_55 : decode cX6_isSealing 55 = .ok (.aload_n 0, 1) := by decide +kernel
theorem dX6_isSealing_56 : decode cX6_isSealing 56 = .ok (.getfield 54, 3) := by decide +kernel
theorem dX6_isSealing_59 : decode cX6_isSealing 59 = .ok (.iload_n 2, 1) := by decide +kernel
theorem dX6_isSealing_60 : decode cX6_isSealing 60 = .ok (.iaload, 1) := by decide +kernel
theorem dX6_isSealing_61 : decode cX6_isSealing 61 = .ok (.iconst (-1), 1) := by decide +kernel
theorem dX6_isSealing_62 : decode cX6_isSealing 62 = .ok (.if_icmp .eq 15, 3) := by decide +kernel
theorem dX6_isSealing_65 : decode cX6_isSealing 65 = .ok (.iload 5, 2) := by decide +kernel
theorem dX6_isSealing_67 : decode cX6_isSealing 67 = .ok (.iconst 0, 1) := by decide +kernel
theorem dX6_isSealing_68 : decode cX6_isSealing 68 = .ok (.sipush 999, 3) := by decide +kernel
theorem dX6_isSealing_71 : decode cX6_isSealing 71 = .ok (.invokestatic 96, 3) := by decide +kernel
theorem dX6_isSealing_74 : decode cX6_isSealing 74 = .ok (.ifCond .ne 5, 3) := by decide +kernel
theorem dX6_isSealing_77 : decode cX6_isSealing 77 = .ok (.iconst 0, 1) := by decide +kernel
theorem dX6_isSealing_78 : decode cX6_isSealing 78 = .ok (.ireturn, 1) := by decide +kernel
theorem dX6_isSealing_79 : decode cX6_isSealing 79 = .ok (.aload_n 0, 1) := by decide +kernel
theorem dX6_isSealing_80 : decode cX6_isSealing 80 = .ok (.getfield 54, 3) := by decide +kernel
theorem dX6_isSealing_83 : decode cX6_isSealing 83 = .ok (.iload_n 2, 1) := by decide +kernel
theorem dX6_isSealing_84 : decode cX6_isSealing 84 = .ok (.iconst (-1), 1) := by decide +kernel
theorem dX6_isSealing_85 : decode cX6_isSealing 85 = .ok (.iastore, 1) := by decide +kernel
theorem dX6_isSealing_86 : decode cX6_isSealing 86 = .ok (.iconst 1, 1) := by decide +kernel
theorem dX6_isSealing_87 : decode cX6_isSealing 87 = .ok (.ireturn, 1) := by decide +kernel
theorem dX6_isSealing_88 : decode cX6_isSealing 88 = .ok (.aload_n 0, 1) := by decide +kernel
theorem dX6_isSealing_89 : decode cX6_isSealing 89 = .ok (.getfield 54, 3) := by decide +kernel
theorem dX6_isSealing_92 : decode cX6_isSealing 92 = .ok (.iload_n 2, 1) := by decide +kernel
theorem dX6_isSealing_93 : decode cX6_isSealing 93 = .ok (.iaload, 1) := by decide +kernel
theorem dX6_isSealing_94 : decode cX6_isSealing 94 = .ok (.iconst (-1), 1) := by decide +kernel
theorem dX6_isSealing_95 : decode cX6_isSealing 95 = .ok (.if_icmp .ne 22, 3) := by decide +kernel
theorem dX6_isSealing_98 : decode cX6_isSealing 98 = .ok (.aload_n 0, 1) := by decide +kernel
theorem dX6_isSealing_99 : decode cX6_isSealing 99 = .ok (.iload 5, 2) := by decide +kernel
theorem dX6_isSealing_101 : decode cX6_isSealing 101 = .ok (.invokevirtual 175, 3) := by decide +kernel
theorem dX6_isSealing_104 : decode cX6_isSealing 104 = .ok (.ifCond .eq 13, 3) := by decide +kernel
theorem dX6_isSealing_107 : decode cX6_isSealing 107 = .ok (.aload_n 0, 1) := by decide +kernel
theorem dX6_isSealing_108 : decode cX6_isSealing 108 = .ok (.getfield 75, 3) := by decide +kernel
theorem dX6_isSealing_111 : decode cX6_isSealing 111 = .ok (.iload 5, 2) := by decide +kernel
theorem dX6_isSealing_113 : decode cX6_isSealing 113 = .ok (.baload, 1) := by decide +kernel
theorem dX6_isSealing_114 : decode cX6_isSealing 114 = .ok (.ifCond .eq 5, 3) := by decide +kernel
theorem dX6_isSealing_117 : decode cX6_isSealing 117 = .ok (.iconst 0, 1) := by decide +kernel
theorem dX6_isSealing_118 : decode cX6_isSealing 118 = .ok (.ireturn, 1) := by decide +kernel
theorem dX6_isSealing_119 : decode cX6_isSealing 119 = .ok (.aload_n 0, 1) := by decide +kernel
theorem dX6_isSealing_120 : decode cX6_isSealing 120 = .ok (.getfield 54, 3) := by decide +kernel
theorem dX6_isSealing_123 : decode cX6_isSealing 123 = .ok (.iload_n 2, 1) := by decide +kernel
theorem dX6_isSealing_124 : decode cX6_isSealing 124 = .ok (.iload 5, 2) := by decide +kernel
theorem dX6_isSealing_126 : decode cX6_isSealing 126 = .ok (.iastore, 1) := by decide +kernel
theorem dX6_isSealing_127 : decode cX6_isSealing 127 = .ok (.aload_n 0, 1) := by decide +kernel
theorem dX6_isSealing_128 : decode cX6_isSealing 128 = .ok (.getfield 75, 3) := by decide +kernel
theorem dX6_isSealing_131 : decode cX6_isSealing 131 = .ok (.iload 5, 2) := by decide +kernel
theorem dX6_isSealing_133 : decode cX6_isSealing 133 = .ok (.iconst 1, 1) := by decide +kernel
theorem dX6_isSealing_134 : decode cX6_isSealing 134 = .ok (.bastore, 1) := by decide +kernel
theorem dX6_isSealing_135 : decode cX6_isSealing 135 = .ok (.iconst 1, 1) := by decide +kernel
theorem dX6_isSealing_136 : decode cX6_isSealing 136 = .ok (.ireturn, 1) := by decide +kernel
theorem dX6_takes_0 : decode cX6_takes 0 = .ok (.aload_n 0, 1) := by decide +kernel
theorem dX6_takes_1 : decode cX6_takes 1 = .ok (.iload_n 2, 1) := by decide +kernel
theorem dX6_takes_2 : decode cX6_takes 2 = .ok (.invokevirtual 178, 3) := by decide +kernel
theorem dX6_takes_5 : decode cX6_takes 5 = .ok (.ifCond .ne 5, 3) := by decide +kernel
theorem dX6_takes_8 : decode cX6_takes 8 = .ok (.iconst 0, 1) := by decide +kernel
theorem dX6_takes_9 : decode cX6_takes 9 = .ok (.ireturn, 1) := by decide +kernel
theorem dX6_takes_10 : decode cX6_takes 10 = .ok (.iload_n 1, 1) := by decide +kernel
theorem dX6_takes_11 : decode cX6_takes 11 = .ok (.bipush 13, 2) := by decide +kernel
theorem dX6_takes_13 : decode cX6_takes 13 = .ok (.if_icmp .ne 33, 3) := by decide +kernel
theorem dX6_takes_16 : decode cX6_takes 16 = .ok (.iload 6, 2) := by decide +kernel
theorem dX6_takes_18 : decode cX6_takes 18 = .ok (.iconst 0, 1) := by decide +kernel
theorem dX6_takes_19 : decode cX6_takes 19 = .ok (.aload_n 0, 1) := by decide +kernel
theorem dX6_takes_20 : decode cX6_takes 20 = .ok (.getfield 51, 3) := by decide +kernel
theorem dX6_takes_23 : decode cX6_takes 23 = .ok (.iload_n 2, 1) := by decide +kernel
theorem dX6_takes_24 : decode cX6_takes 24 = .ok (.iaload, 1) := by decide +kernel
theorem dX6_takes_25 : decode cX6_takes 25 = .ok (.invokestatic 96, 3) := by decide +kernel
theorem dX6_takes_28 : decode cX6_takes 28 = .ok (.ifCond .ne 5, 3) := by decide +kernel
theorem dX6_takes_31 : decode cX6_takes 31 = .ok (.iconst 0, 1) := by decide +kernel
theorem dX6_takes_32 : decode cX6_takes 32 = .ok (.ireturn, 1) := by decide +kernel
theorem dX6_takes_33 : decode cX6_takes 33 = .ok (.aload_n 0, 1) := by decide +kernel
theorem dX6_takes_34 : decode cX6_takes 34 = .ok (.getfield 51, 3) := by decide +kernel
theorem dX6_takes_37 : decode cX6_takes 37 = .ok (.iload_n 2, 1) := by decide +kernel
theorem dX6_takes_38 : decode cX6_takes 38 = .ok (.dup2, 1) := by decide +kernel
theorem dX6_takes_39 : decode cX6_takes 39 = .ok (.iaload, 1) := by decide +kernel
theorem dX6_takes_40 : decode cX6_takes 40 = .ok (.iload 6, 2) := by decide +kernel
theorem dX6_takes_42 : decode cX6_takes 42 = .ok (.isub, 1) := by decide +kernel
theorem dX6_takes_43 : decode cX6_takes 43 = .ok (.iastore, 1) := by decide +kernel
theorem dX6_takes_44 : decode cX6_takes 44 = .ok (.iconst 1, 1) := by decide +kernel
theorem dX6_takes_45 : decode cX6_takes 45 = .ok (.ireturn, 1) := by decide +kernel
theorem dX6_takes_46 : decode cX6_takes 46 = .ok (.aload_n 0, 1) := by decide +kernel
theorem dX6_takes_47 : decode cX6_takes 47 = .ok (.iload_n 3, 1) := by decide +kernel
theorem dX6_takes_48 : decode cX6_takes 48 = .ok (.iload 4, 2) := by decide +kernel
theorem dX6_takes_50 : decode cX6_takes 50 = .ok (.aload_n 0, 1) := by decide +kernel
theorem dX6_takes_51 : decode cX6_takes 51 = .ok (.getfield 24, 3) := by decide +kernel
theorem dX6_takes_54 : decode cX6_takes 54 = .ok (.iload_n 2, 1) := by decide +kernel
theorem dX6_takes_55 : decode cX6_takes 55 = .ok (.iaload, 1) := by decide +kernel
theorem dX6_takes_56 : decode cX6_takes 56 = .ok (.iconst 5, 1) := by decide +kernel
theorem dX6_takes_57 : decode cX6_takes 57 = .ok (.if_icmp .ne 7, 3) := by decide +kernel
theorem dX6_takes_60 : decode cX6_takes 60 = .ok (.iconst 1, 1) := by decide +kernel
theorem dX6_takes_61 : decode cX6_takes 61 = .ok (.goto 4, 3) := by decide +kernel
theorem dX6_takes_64 : decode cX6_takes 64 = .ok (.iconst 0, 1) := by decide +kernel
theorem dX6_takes_65 : decode cX6_takes 65 = .ok (.invokevirtual 139, 3) := by decide +kernel
theorem dX6_takes_68 : decode cX6_takes 68 = .ok (.ifCond .eq 49, 3) := by decide +kernel
theorem dX6_takes_71 : decode cX6_takes 71 = .ok (.iload 5, 2) := by decide +kernel
theorem dX6_takes_73 : decode cX6_takes 73 = .ok (.iconst 0, 1) := by decide +kernel
theorem dX6_takes_74 : decode cX6_takes 74 = .ok (.aload_n 0, 1) := by decide +kernel
theorem dX6_takes_75 : decode cX6_takes 75 = .ok (.getfield 93, 3) := by decide +kernel
theorem dX6_takes_78 : decode cX6_takes 78 = .ok (.iconst 1, 1) := by decide +kernel
theorem dX6_takes_79 : decode cX6_takes 79 = .ok (.isub, 1) := by decide +kernel
theorem dX6_takes_80 : decode cX6_takes 80 = .ok (.invokestatic 96, 3) := by decide +kernel
theorem dX6_takes_83 : decode cX6_takes 83 = .ok (.ifCond .eq 34, 3) := by decide +kernel
theorem dX6_takes_86 : decode cX6_takes 86 = .ok (.aload_n 0, 1) := by decide +kernel
theorem dX6_takes_87 : decode cX6_takes 87 = .ok (.getfield 72, 3) := by decide +kernel
theorem dX6_takes_90 : decode cX6_takes 90 = .ok (.iload 5, 2) := by decide +kernel
theorem dX6_takes_92 : decode cX6_takes 92 = .ok (.baload, 1) := by decide +kernel
theorem dX6_takes_93 : decode cX6_takes 93 = .ok (.ifCond .ne 24, 3) := by decide +kernel
theorem dX6_takes_96 : decode cX6_takes 96 = .ok (.aload_n 0, 1) := by decide +kernel
theorem dX6_takes_97 : decode cX6_takes 97 = .ok (.getfield 24, 3) := by decide +kernel
theorem dX6_takes_100 : decode cX6_takes 100 = .ok (.iload 5, 2) := by decide +kernel
theorem dX6_takes_102 : decode cX6_takes 102 = .ok (.iaload, 1) := by decide +kernel
theorem dX6_takes_103 : decode cX6_takes 103 = .ok (.iload_n 1, 1) := by decide +kernel
theorem dX6_takes_104 : decode cX6_takes 104 = .ok (.bipush 11, 2) := by decide +kernel
theorem dX6_takes_106 : decode cX6_takes 106 = .ok (.if_icmp .ne 7, 3) := by decide +kernel
theorem dX6_takes_109 : decode cX6_takes 109 = .ok (.iconst 2, 1) := by decide +kernel
theorem dX6_takes_110 : decode cX6_takes 110 = .ok (.goto 4, 3) := by decide +kernel
theorem dX6_takes_113 : decode cX6_takes 113 = .ok (.iconst 3, 1) := by decide +kernel
theorem dX6_takes_114 : decode cX6_takes 114 = .ok (.if_icmp .eq 5, 3) := by decide +kernel
theorem dX6_takes_117 : decode cX6_takes 117 = .ok (.iconst 0, 1) := by decide +kernel
theorem dX6_takes_118 : decode cX6_takes 118 = .ok (.ireturn, 1) := by decide +kernel
theorem dX6_takes_119 : decode cX6_takes 119 = .ok (.iload_n 1, 1) := by decide +kernel
theorem dX6_takes_120 : decode cX6_takes 120 = .ok (.bipush 11, 2) := by decide +kernel
theorem dX6_takes_122 : decode cX6_takes 122 = .ok (.if_icmp .ne 20, 3) := by decide +kernel
theorem dX6_takes_125 : decode cX6_takes 125 = .ok (.iload 6, 2) := by decide +kernel
theorem dX6_takes_127 : decode cX6_takes 127 = .ok (.iconst 1, 1) := by decide +kernel
theorem dX6_takes_128 : decode cX6_takes 128 = .ok (.aload_n 0, 1) := by decide +kernel
theorem dX6_takes_129 : decode cX6_takes 129 = .ok (.getfield 51, 3) := by decide +kernel
theorem dX6_takes_132 : decode cX6_takes 132 = .ok (.iload_n 2, 1) := by decide +kernel
theorem dX6_takes_133 : decode cX6_takes 133 = .ok (.iaload, 1) := by decide +kernel
theorem dX6_takes_134 : decode cX6_takes 134 = .ok (.invokestatic 96, 3) := by decide +kernel
theorem dX6_takes_137 : decode cX6_takes 137 = .ok (.ifCond .ne 5, 3) := by decide +kernel
theorem dX6_takes_140 : decode cX6_takes 140 = .ok (.iconst 0, 1) := by decide +kernel
theorem dX6_takes_141 : decode cX6_takes 141 = .ok (.ireturn, 1) := by decide +kernel
theorem dX6_takes_142 : decode cX6_takes 142 = .ok (.aload_n 0, 1) := by decide +kernel
theorem dX6_takes_143 : decode cX6_takes 143 = .ok (.getfield 72, 3) := by decide +kernel
theorem dX6_takes_146 : decode cX6_takes 146 = .ok (.iload 5, 2) := by decide +kernel
theorem dX6_takes_148 : decode cX6_takes 148 = .ok (.iconst 1, 1) := by decide +kernel
theorem dX6_takes_149 : decode cX6_takes 149 = .ok (.bastore, 1) := by decide +kernel
theorem dX6_takes_150 : decode cX6_takes 150 = .ok (.aload_n 0, 1) := by decide +kernel
theorem dX6_takes_151 : decode cX6_takes 151 = .ok (.getfield 69, 3) := by decide +kernel
theorem dX6_takes_154 : decode cX6_takes 154 = .ok (.iload 5, 2) := by decide +kernel
theorem dX6_takes_156 : decode cX6_takes 156 = .ok (.iload_n 2, 1) := by decide +kernel
theorem dX6_takes_157 : decode cX6_takes 157 = .ok (.iastore, 1) := by decide +kernel
theorem dX6_takes_158 : decode cX6_takes 158 = .ok (.aload_n 0, 1) := by decide +kernel
theorem dX6_takes_159 : decode cX6_takes 159 = .ok (.iload 5, 2) := by decide +kernel
theorem dX6_takes_161 : decode cX6_takes 161 = .ok (.iconst 2, 1) := by decide +kernel
theorem dX6_takes_162 : decode cX6_takes 162 = .ok (.iload_n 3, 1) := by decide +kernel
theorem dX6_takes_163 : decode cX6_takes 163 = .ok (.invokevirtual 150, 3) := by decide +kernel
theorem dX6_takes_166 : decode cX6_takes 166 = .ok (.iload_n 1, 1) := by decide +kernel
theorem dX6_takes_167 : decode cX6_takes 167 = .ok (.bipush 11, 2) := by decide +kernel
theorem dX6_takes_169 : decode cX6_takes 169 = .ok (.if_icmp .ne 23, 3) := by decide +kernel
theorem dX6_takes_172 : decode cX6_takes 172 = .ok (.aload_n 0, 1) := by decide +kernel
theorem dX6_takes_173 : decode cX6_takes 173 = .ok (.getfield 51, 3) := by decide +kernel
theorem dX6_takes_176 : decode cX6_takes 176 = .ok (.iload 5, 2) := by decide +kernel
theorem dX6_takes_178 : decode cX6_takes 178 = .ok (.iload 6, 2) := by decide +kernel
theorem dX6_takes_180 : decode cX6_takes 180 = .ok (.iastore, 1) := by decide +kernel
theorem dX6_takes_181 : decode cX6_takes 181 = .ok (.aload_n 0, 1) := by decide +kernel
theorem dX6_takes_182 : decode cX6_takes 182 = .ok (.getfield 51, 3) := by decide +kernel
theorem dX6_takes_185 : decode cX6_takes 185 = .ok (.iload_n 2, 1) := by decide +kernel
theorem dX6_takes_186 : decode cX6_takes 186 = .ok (.dup2, 1) := by decide +kernel
theorem dX6_takes_187 : decode cX6_takes 187 = .ok (.iaload, 1) := by decide +kernel
theorem dX6_takes_188 : decode cX6_takes 188 = .ok (.iload 6, 2) := by decide +kernel
theorem dX6_takes_190 : decode cX6_takes 190 = .ok (.isub, 1) := by decide +kernel
theorem dX6_takes_191 : decode cX6_takes 191 = .ok (.iastore, 1) := by decide +kernel
theorem dX6_takes_192 : decode cX6_takes 192 = .ok (.iconst 1, 1) := by decide +kernel
theorem dX6_takes_193 : decode cX6_takes 193 = .ok (.ireturn, 1) := by decide +kernel
theorem dX6_orders_0 : decode cX6_orders 0 = .ok (.iload_n 1, 1) := by decide +kernel
theorem dX6_orders_1 : decode cX6_orders 1 = .ok (.bipush 14, 2) := by decide +kernel
theorem dX6_orders_3 : decode cX6_orders 3 = .ok (.if_icmp .ne 25, 3) := by decide +kernel
theorem dX6_orders_6 : decode cX6_orders 6 = .ok (.iload_n 3, 1) := by decide +kernel
theorem dX6_orders_7 : decode cX6_orders 7 = .ok (.iconst 0, 1) := by decide +kernel
theorem dX6_orders_8 : decode cX6_orders 8 = .ok (.ldc 154, 2) := by decide +kernel
theorem dX6_orders_10 : decode cX6_orders 10 = .ok (.invokestatic 96, 3) := by decide +kernel
theorem dX6_orders_13 : decode cX6_orders 13 = .ok (.ifCond .ne 5, 3) := by decide +kernel
theorem dX6_orders_16 : decode cX6_orders 16 = .ok (.iconst 0, 1) := by decide +kernel
theorem dX6_orders_17 : decode cX6_orders 17 = .ok (.ireturn, 1) := by decide +kernel
theorem dX6_orders_18 : decode cX6_orders 18 = .ok (.aload_n 0, 1) := by decide +kernel
theorem dX6_orders_19 : decode cX6_orders 19 = .ok (.getfield 60, 3) := by decide +kernel
theorem dX6_orders_22 : decode cX6_orders 22 = .ok (.iload_n 2, 1) := by decide +kernel
theorem dX6_orders_23 : decode cX6_orders 23 = .ok (.iload_n 3, 1) := by decide +kernel
theorem dX6_orders_24 : decode cX6_orders 24 = .ok (.iastore, 1) := by decide +kernel
theorem dX6_orders_25 : decode cX6_orders 25 = .ok (.goto 67, 3) := by decide +kernel
theorem dX6_orders_28 : decode cX6_orders 28 = .ok (.iload_n 1, 1) := by decide +kernel
theorem dX6_orders_29 : decode cX6_orders 29 = .ok (.bipush 15, 2) := by decide +kernel
theorem dX6_orders_31 : decode cX6_orders 31 = .ok (.if_icmp .ne 13, 3) := by decide +kernel
theorem dX6_orders_34 : decode cX6_orders 34 = .ok (.aload_n 0, 1) := by decide +kernel
theorem dX6_orders_35 : decode cX6_orders 35 = .ok (.getfield 63, 3) := by decide +kernel
theorem dX6_orders_38 : decode cX6_orders 38 = .ok (.iload_n 2, 1) := by decide +kernel
theorem dX6_orders_39 : decode cX6_orders 39 = .ok (.iconst 1, 1) := by decide +kernel
theorem dX6_orders_40 : decode cX6_orders 40 = .ok (.bastore, 1) := by decide +kernel
theorem dX6_orders_41 : decode cX6_orders 41 = .ok (.goto 51, 3) := by decide +kernel
theorem dX6_orders_44 : decode cX6_orders 44 = .ok (.iload_n 3, 1) := by decide +kernel
theorem dX6_orders_45 : decode cX6_orders 45 = .ok (.iconst 0, 1) := by decide +kernel
theorem dX6_orders_46 : decode cX6_orders 46 = .ok (.bipush 30, 2) := by decide +kernel
theorem dX6_orders_48 : decode cX6_orders 48 = .ok (.invokestatic 96, 3) := by decide +kernel
theorem dX6_orders_51 : decode cX6_orders 51 = .ok (.ifCond .eq 27, 3) := by decide +kernel
theorem dX6_orders_54 : decode cX6_orders 54 = .ok (.aload_n 0, 1) := by decide +kernel
theorem dX6_orders_55 : decode cX6_orders 55 = .ok (.getfield 66, 3) := by decide +kernel
theorem dX6_orders_58 : decode cX6_orders 58 = .ok (.iload_n 2, 1) := by decide +kernel
theorem dX6_orders_59 : decode cX6_orders 59 = .ok (.iaload, 1) := by decide +kernel
theorem dX6_orders_60 : decode cX6_orders 60 = .ok (.iload_n 3, 1) := by decide +kernel
theorem dX6_orders_61 : decode cX6_orders 61 = .ok (.ishr, 1) := by decide +kernel
theorem dX6_orders_62 : decode cX6_orders 62 = .ok (.iconst 1, 1) := by decide +kernel
theorem dX6_orders_63 : decode cX6_orders 63 = .ok (.iand, 1) := by decide +kernel
theorem dX6_orders_64 : decode cX6_orders 64 = .ok (.iload_n 1, 1) := by decide +kernel
theorem dX6_orders_65 : decode cX6_orders 65 = .ok (.bipush 16, 2) := by decide +kernel
theorem dX6_orders_67 : decode cX6_orders 67 = .ok (.if_icmp .ne 7, 3) := by decide +kernel
theorem dX6_orders_70 : decode cX6_orders 70 = .ok (.iconst 1, 1) := by decide +kernel
theorem dX6_orders_71 : decode cX6_orders 71 = .ok (.goto 4, 3) := by decide +kernel
theorem dX6_orders_74 : decode cX6_orders 74 = .ok (.iconst 0, 1) := by decide +kernel
theorem dX6_orders_75 : decode cX6_orders 75 = .ok (.if_icmp .ne 5, 3) := by decide +kernel
theorem dX6_orders_78 : decode cX6_orders 78 = .ok (.iconst 0, 1) := by decide +kernel
theorem dX6_orders_79 : decode cX6_orders 79 = .ok (.ireturn, 1) := by decide +kernel
theorem dX6_orders_80 : decode cX6_orders 80 = .ok (.aload_n 0, 1) := by decide +kernel
theorem dX6_orders_81 : decode cX6_orders 81 = .ok (.getfield 66, 3) := by decide +kernel
theorem dX6_orders_84 : decode cX6_orders 84 = .ok (.iload_n 2, 1) := by decide +kernel
theorem dX6_orders_85 : decode cX6_orders 85 = .ok (.dup2, 1) := by decide +kernel
theorem dX6_orders_86 : decode cX6_orders 86 = .ok (.iaload, 1) := by decide +kernel
theorem dX6_orders_87 : decode cX6_orders 87 = .ok (.iconst 1, 1) := by decide +kernel
theorem dX6_orders_88 : decode cX6_orders 88 = .ok (.iload_n 3, 1) := by decide +kernel
theorem dX6_orders_89 : decode cX6_orders 89 = .ok (.ishl, 1) := by decide +kernel
theorem dX6_orders_90 : decode cX6_orders 90 = .ok (.ixor, 1) := by decide +kernel
theorem dX6_orders_91 : decode cX6_orders 91 = .ok (.iastore, 1) := by decide +kernel
theorem dX6_orders_92 : decode cX6_orders 92 = .ok (.iconst 1, 1) := by decide +kernel
theorem dX6_orders_93 : decode cX6_orders 93 = .ok (.ireturn, 1) := by decide +kernel
theorem dX6_isOf_0 : decode cX6_isOf 0 = .ok (.iload_n 1, 1) := by decide +kernel
theorem dX6_isOf_1 : decode cX6_isOf 1 = .ok (.istore_n 3, 1) := by decide +kernel
theorem dX6_isOf_2 : decode cX6_isOf 2 = .ok (.iload_n 3, 1) := by decide +kernel
theorem dX6_isOf_3 : decode cX6_isOf 3 = .ok (.ifCond .lt 18, 3) := by decide +kernel
theorem dX6_isOf_6 : decode cX6_isOf 6 = .ok (.iload_n 3, 1) := by decide +kernel
theorem dX6_isOf_7 : decode cX6_isOf 7 = .ok (.iload_n 2, 1) := by decide +kernel
theorem dX6_isOf_8 : decode cX6_isOf 8 = .ok (.if_icmp .eq 13, 3) := by decide +kernel
theorem dX6_isOf_11 : decode cX6_isOf 11 = .ok (.aload_n 0, 1) := by decide +kernel
theorem dX6_isOf_12 : decode cX6_isOf 12 = .ok (.getfield 69, 3) := by decide +kernel
theorem dX6_isOf_15 : decode cX6_isOf 15 = .ok (.iload_n 3, 1) := by decide +kernel
theorem dX6_isOf_16 : decode cX6_isOf 16 = .ok (.iaload, 1) := by decide +kernel
theorem dX6_isOf_17 : decode cX6_isOf 17 = .ok (.istore_n 3, 1) := by decide +kernel
theorem dX6_isOf_18 : decode cX6_isOf 18 = .ok (.goto (-16), 3) := by decide +kernel
theorem dX6_isOf_21 : decode cX6_isOf 21 = .ok (.iload_n 3, 1) := by decide +kernel
theorem dX6_isOf_22 : decode cX6_isOf 22 = .ok (.iload_n 2, 1) := by decide +kernel
theorem dX6_isOf_23 : decode cX6_isOf 23 = .ok (.if_icmp .ne 7, 3) := by decide +kernel
theorem dX6_isOf_26 : decode cX6_isOf 26 = .ok (.iconst 1, 1) := by decide +kernel
theorem dX6_isOf_27 : decode cX6_isOf 27 = .ok (.goto 4, 3) := by decide +kernel
theorem dX6_isOf_30 : decode cX6_isOf 30 = .ok (.iconst 0, 1) := by decide +kernel
theorem dX6_isOf_31 : decode cX6_isOf 31 = .ok (.ireturn, 1) := by decide +kernel
theorem dX6_isDestroyed_0 : decode cX6_isDestroyed 0 = .ok (.aload_n 0, 1) := by decide +kernel
theorem dX6_isDestroyed_1 : decode cX6_isDestroyed 1 = .ok (.iload_n 2, 1) := by decide +kernel
theorem dX6_isDestroyed_2 : decode cX6_isDestroyed 2 = .ok (.iload_n 3, 1) := by decide +kernel
theorem dX6_isDestroyed_3 : decode cX6_isDestroyed 3 = .ok (.iconst 1, 1) := by decide +kernel
theorem dX6_isDestroyed_4 : decode cX6_isDestroyed 4 = .ok (.invokevirtual 139, 3) := by decide +kernel
theorem dX6_isDestroyed_7 : decode cX6_isDestroyed 7 = .ok (.ifCond .eq 24, 3) := by decide +kernel
theorem dX6_isDestroyed_10 : decode cX6_isDestroyed 10 = .ok (.aload_n 0, 1) := by decide +kernel
theorem dX6_isDestroyed_11 : decode cX6_isDestroyed 11 = .ok (.iload 4, 2) := by decide +kernel
theorem dX6_isDestroyed_13 : decode cX6_isDestroyed 13 = .ok (.invokevirtual 143, 3) := by decide +kernel
theorem dX6_isDestroyed_16 : decode cX6_isDestroyed 16 = .ok (.ifCond .eq 15, 3) := by decide +kernel
theorem dX6_isDestroyed_19 : decode cX6_isDestroyed 19 = .ok (.iload 4, 2) := by decide +kernel
theorem dX6_isDestroyed_21 : decode cX6_isDestroyed 21 = .ok (.iload_n 2, 1) := by decide +kernel
theorem dX6_isDestroyed_22 : decode cX6_isDestroyed 22 = .ok (.if_icmp .eq 9, 3) := by decide +kernel
theorem dX6_isDestroyed_25 : decode cX6_isDestroyed 25 = .ok (.iload 4, 2) := by decide +kernel
theorem dX6_isDestroyed_27 : decode cX6_isDestroyed 27 = .ok (.iload_n 3, 1) := by decide +kernel
theorem dX6_isDestroyed_28 : decode cX6_isDestroyed 28 = .ok (.if_icmp .ne 5, 3) := by decide +kernel
theorem dX6_isDestroyed_31 : decode cX6_isDestroyed 31 = .ok (.iconst 0, 1) := by decide +kernel
theorem dX6_isDestroyed_32 : decode cX6_isDestroyed 32 = .ok (.ireturn, 1) := by decide +kernel
theorem dX6_isDestroyed_33 : decode cX6_isDestroyed 33 = .ok (.aload_n 0, 1) := by decide +kernel
theorem dX6_isDestroyed_34 : decode cX6_isDestroyed 34 = .ok (.getfield 45, 3) := by decide +kernel
theorem dX6_isDestroyed_37 : decode cX6_isDestroyed 37 = .ok (.iload_n 1, 1) := by decide +kernel
theorem dX6_isDestroyed_38 : decode cX6_isDestroyed 38 = .ok (.iaload, 1) := by decide +kernel
theorem dX6_isDestroyed_39 : decode cX6_isDestroyed 39 = .ok (.iconst 1, 1) := by decide +kernel
theorem dX6_isDestroyed_40 : decode cX6_isDestroyed 40 = .ok (.if_icmp .ne 40, 3) := by decide +kernel
theorem dX6_isDestroyed_43 : decode cX6_isDestroyed 43 = .ok (.aload_n 0, 1) := by decide +kernel
theorem dX6_isDestroyed_44 : decode cX6_isDestroyed 44 = .ok (.getfield 63, 3) := by decide +kernel
theorem dX6_isDestroyed_47 : decode cX6_isDestroyed 47 = .ok (.iload_n 1, 1) := by decide +kernel
theorem dX6_isDestroyed_48 : decode cX6_isDestroyed 48 = .ok (.baload, 1) := by decide +kernel
theorem dX6_isDestroyed_49 : decode cX6_isDestroyed 49 = .ok (.ifCond .eq 31, 3) := by decide +kernel
theorem dX6_isDestroyed_52 : decode cX6_isDestroyed 52 = .ok (.aload_n 0, 1) := by decide +kernel
theorem dX6_isDestroyed_53 : decode cX6_isDestroyed 53 = .ok (.getfield 60, 3) := by decide +kernel
theorem dX6_isDestroyed_56 : decode cX6_isDestroyed 56 = .ok (.iload_n 1, 1) := by decide +kernel
theorem dX6_isDestroyed_57 : decode cX6_isDestroyed 57 = .ok (.iaload, 1) := by decide +kernel
theorem dX6_isDestroyed_58 : decode cX6_isDestroyed 58 = .ok (.iload 5, 2) := by decide +kernel
theorem dX6_isDestroyed_60 : decode cX6_isDestroyed 60 = .ok (.if_icmp .gt 20, 3) := by decide +kernel
theorem dX6_isDestroyed_63 : decode cX6_isDestroyed 63 = .ok (.aload_n 0, 1) := by decide +kernel
theorem dX6_isDestroyed_64 : decode cX6_isDestroyed 64 = .ok (.getfield 66, 3) := by decide +kernel
theorem dX6_isDestroyed_67 : decode cX6_isDestroyed 67 = .ok (.iload_n 1, 1) := by decide +kernel
theorem dX6_isDestroyed_68 : decode cX6_isDestroyed 68 = .ok (.iaload, 1) := by decide +kernel
theorem dX6_isDestroyed_69 : decode cX6_isDestroyed 69 = .ok (.ifCond .ne 11, 3) := by decide +kernel
theorem dX6_isDestroyed_72 : decode cX6_isDestroyed 72 = .ok (.aload_n 0, 1) := by decide +kernel
theorem dX6_isDestroyed_73 : decode cX6_isDestroyed 73 = .ok (.iload_n 1, 1) := by decide +kernel
theorem dX6_isDestroyed_74 : decode cX6_isDestroyed 74 = .ok (.invokevirtual 168, 3) := by decide +kernel
theorem dX6_isDestroyed_77 : decode cX6_isDestroyed 77 = .ok (.ifCond .le 5, 3) := by decide +kernel
theorem dX6_isDestroyed_80 : decode cX6_isDestroyed 80 = .ok (.iconst 0, 1) := by decide +kernel
theorem dX6_isDestroyed_81 : decode cX6_isDestroyed 81 = .ok (.ireturn, 1) := by decide +kernel
theorem dX6_isDestroyed_82 : decode cX6_isDestroyed 82 = .ok (.iconst 0, 1) := by decide +kernel
theorem dX6_isDestroyed_83 : decode cX6_isDestroyed 83 = .ok (.istore 6, 2) := by decide +kernel
theorem dX6_isDestroyed_85 : decode cX6_isDestroyed 85 = .ok (.iload 6, 2) := by decide +kernel
theorem dX6_isDestroyed_87 : decode cX6_isDestroyed 87 = .ok (.aload_n 0, 1) := by decide +kernel
theorem dX6_isDestroyed_88 : decode cX6_isDestroyed 88 = .ok (.getfield 93, 3) := by decide +kernel
theorem dX6_isDestroyed_91 : decode cX6_isDestroyed 91 = .ok (.if_icmp .ge 38, 3) := by decide +kernel
theorem dX6_isDestroyed_94 : decode cX6_isDestroyed 94 = .ok (.iload 6, 2) := by decide +kernel
theorem dX6_isDestroyed_96 : decode cX6_isDestroyed 96 = .ok (.iload_n 1, 1) := by decide +kernel
theorem dX6_isDestroyed_97 : decode cX6_isDestroyed 97 = .ok (.if_icmp .eq 26, 3) := by decide +kernel
theorem dX6_isDestroyed_100 : decode cX6_isDestroyed 100 = .ok (.aload_n 0, 1) := by decide +kernel
theorem dX6_isDestroyed_101 : decode cX6_isDestroyed 101 = .ok (.getfield 45, 3) := by decide +kernel
theorem dX6_isDestroyed_104 : decode cX6_isDestroyed 104 = .ok (.iload 6, 2) := by decide +kernel
theorem dX6_isDestroyed_106 : decode cX6_isDestroyed 106 = .ok (.iaload, 1) := by decide +kernel
theorem dX6_isDestroyed_107 : decode cX6_isDestroyed 107 = .ok (.iconst 2, 1) := by decide +kernel
theorem dX6_isDestroyed_108 : decode cX6_isDestroyed 108 = .ok (.if_icmp .ne 15, 3) := by decide +kernel
theorem dX6_isDestroyed_111 : decode cX6_isDestroyed 111 = .ok (.aload_n 0, 1) := by decide +kernel
theorem dX6_isDestroyed_112 : decode cX6_isDestroyed 112 = .ok (.iload 6, 2) := by decide +kernel
theorem dX6_isDestroyed_114 : decode cX6_isDestroyed 114 = .ok (.iload_n 1, 1) := by decide +kernel
theorem dX6_isDestroyed_115 : decode cX6_isDestroyed 115 = .ok (.invokevirtual 181, 3) := by decide +kernel
theorem dX6_isDestroyed_118 : decode cX6_isDestroyed 118 = .ok (.ifCond .eq 5, 3) := by decide +kernel
theorem dX6_isDestroyed_121 : decode cX6_isDestroyed 121 = .ok (.iconst 0, 1) := by decide +kernel
theorem dX6_isDestroyed_122 : decode cX6_isDestroyed 122 = .ok (.ireturn, 1) := by decide +kernel
theorem dX6_isDestroyed_123 : decode cX6_isDestroyed 123 = .ok (.iinc 6 1, 3) := by decide +kernel
theorem dX6_isDestroyed_126 : decode cX6_isDestroyed 126 = .ok (.goto (-41), 3) := by decide +kernel
theorem dX6_isDestroyed_129 : decode cX6_isDestroyed 129 = .ok (.aload_n 0, 1) := by decide +kernel
theorem dX6_isDestroyed_130 : decode cX6_isDestroyed 130 = .ok (.iload_n 1, 1) := by decide +kernel
theorem dX6_isDestroyed_131 : decode cX6_isDestroyed 131 = .ok (.iconst 4, 1) := by decide +kernel
theorem dX6_isDestroyed_132 : decode cX6_isDestroyed 132 = .ok (.iconst (-1), 1) := by decide +kernel
theorem dX6_isDestroyed_133 : decode cX6_isDestroyed 133 = .ok (.invokevirtual 150, 3) := by decide +kernel
theorem dX6_isDestroyed_136 : decode cX6_isDestroyed 136 = .ok (.iconst 1, 1) := by decide +kernel
theorem dX6_isDestroyed_137 : decode cX6_isDestroyed 137 = .ok (.ireturn, 1) := by decide +kernel
theorem dX6_isFound_0 : decode cX6_isFound 0 = .ok (.iload_n 2, 1) := by decide +kernel
theorem dX6_isFound_1 : decode cX6_isFound 1 = .ok (.iconst (-1), 1) := by decide +kernel
theorem dX6_isFound_2 : decode cX6_isFound 2 = .ok (.if_icmp .eq 48, 3) := by decide +kernel
theorem dX6_isFound_5 : decode cX6_isFound 5 = .ok (.iload_n 3, 1) := by decide +kernel
theorem dX6_isFound_6 : decode cX6_isFound 6 = .ok (.iconst (-1), 1) := by decide +kernel
theorem dX6_isFound_7 : decode cX6_isFound 7 = .ok (.if_icmp .ne 43, 3) := by decide +kernel
theorem dX6_isFound_10 : decode cX6_isFound 10 = .ok (.aload_n 0, 1) := by decide +kernel
theorem dX6_isFound_11 : decode cX6_isFound 11 = .ok (.getfield 45, 3) := by decide +kernel
theorem dX6_isFound_14 : decode cX6_isFound 14 = .ok (.iload_n 1, 1) := by decide +kernel
theorem dX6_isFound_15 : decode cX6_isFound 15 = .ok (.iaload, 1) := by decide +kernel
theorem dX6_isFound_16 : decode cX6_isFound 16 = .ok (.iconst 1, 1) := by decide +kernel
theorem dX6_isFound_17 : decode cX6_isFound 17 = .ok (.if_icmp .ne 13, 3) := by decide +kernel
theorem dX6_isFound_20 : decode cX6_isFound 20 = .ok (.aload_n 0, 1) := by decide +kernel
theorem dX6_isFound_21 : decode cX6_isFound 21 = .ok (.getfield 48, 3) := by decide +kernel
theorem dX6_isFound_24 : decode cX6_isFound 24 = .ok (.iload_n 1, 1) := by decide +kernel
theorem dX6_isFound_25 : decode cX6_isFound 25 = .ok (.iaload, 1) := by decide +kernel
theorem dX6_isFound_26 : decode cX6_isFound 26 = .ok (.iload_n 2, 1) := by decide +kernel
theorem dX6_isFound_27 : decode cX6_isFound 27 = .ok (.if_icmp .eq 12, 3) := by decide +kernel
theorem dX6_isFound_30 : decode cX6_isFound 30 = .ok (.aload_n 0, 1) := by decide +kernel
theorem dX6_isFound_31 : decode cX6_isFound 31 = .ok (.iload_n 1, 1) := by decide +kernel
theorem dX6_isFound_32 : decode cX6_isFound 32 = .ok (.iload_n 2, 1) := by decide +kernel
theorem dX6_isFound_33 : decode cX6_isFound 33 = .ok (.invokevirtual 146, 3) := by decide +kernel
theorem dX6_isFound_36 : decode cX6_isFound 36 = .ok (.ifCond .ne 5, 3) := by decide +kernel
theorem dX6_isFound_39 : decode cX6_isFound 39 = .ok (.iconst 0, 1) := by decide +kernel
theorem dX6_isFound_40 : decode cX6_isFound 40 = .ok (.ireturn, 1) := by decide +kernel
theorem dX6_isFound_41 : decode cX6_isFound 41 = .ok (.aload_n 0, 1) := by decide +kernel
theorem dX6_isFound_42 : decode cX6_isFound 42 = .ok (.iload_n 1, 1) := by decide +kernel
theorem dX6_isFound_43 : decode cX6_isFound 43 = .ok (.iconst 1, 1) := by decide +kernel
theorem dX6_isFound_44 : decode cX6_isFound 44 = .ok (.iload_n 2, 1) := by decide +kernel
theorem dX6_isFound_45 : decode cX6_isFound 45 = .ok (.invokevirtual 150, 3) := by decide +kernel
theorem dX6_isFound_48 : decode cX6_isFound 48 = .ok (.iconst 1, 1) := by decide +kernel
theorem dX6_isFound_49 : decode cX6_isFound 49 = .ok (.ireturn, 1) := by decide +kernel
theorem dX6_isFound_50 : decode cX6_isFound 50 = .ok (.iload_n 2, 1) := by decide +kernel
theorem dX6_isFound_51 : decode cX6_isFound 51 = .ok (.iconst (-1), 1) := by decide +kernel
theorem dX6_isFound_52 : decode cX6_isFound 52 = .ok (.if_icmp .ne 31, 3) := by decide +kernel
theorem dX6_isFound_55 : decode cX6_isFound 55 = .ok (.aload_n 0, 1) := by decide +kernel
theorem dX6_isFound_56 : decode cX6_isFound 56 = .ok (.iload_n 3, 1) := by decide +kernel
theorem dX6_isFound_57 : decode cX6_isFound 57 = .ok (.invokevirtual 143, 3) := by decide +kernel
theorem dX6_isFound_60 : decode cX6_isFound 60 = .ok (.ifCond .eq 23, 3) := by decide +kernel
theorem dX6_isFound_63 : decode cX6_isFound 63 = .ok (.aload_n 0, 1) := by decide +kernel
theorem dX6_isFound_64 : decode cX6_isFound 64 = .ok (.getfield 45, 3) := by decide +kernel
theorem dX6_isFound_67 : decode cX6_isFound 67 = .ok (.iload_n 1, 1) := by decide +kernel
theorem dX6_isFound_68 : decode cX6_isFound 68 = .ok (.iaload, 1) := by decide +kernel
theorem dX6_isFound_69 : decode cX6_isFound 69 = .ok (.iconst 2, 1) := by decide +kernel
theorem dX6_isFound_70 : decode cX6_isFound 70 = .ok (.if_icmp .ne 15, 3) := by decide +kernel
theorem dX6_isFound_73 : decode cX6_isFound 73 = .ok (.aload_n 0, 1) := by decide +kernel
theorem dX6_isFound_74 : decode cX6_isFound 74 = .ok (.getfield 48, 3) := by decide +kernel
theorem dX6_isFound_77 : decode cX6_isFound 77 = .ok (.iload_n 1, 1) := by decide +kernel
theorem dX6_isFound_78 : decode cX6_isFound 78 = .ok (.iaload, 1) := by decide +kernel
theorem dX6_isFound_79 : decode cX6_isFound 79 = .ok (.iload_n 3, 1) := by decide +kernel
theorem dX6_isFound_80 : decode cX6_isFound 80 = .ok (.if_icmp .ne 5, 3) := by decide +kernel
theorem dX6_isFound_83 : decode cX6_isFound 83 = .ok (.iconst 0, 1) := by decide +kernel
theorem dX6_isFound_84 : decode cX6_isFound 84 = .ok (.ireturn, 1) := by decide +kernel
theorem dX6_isFound_85 : decode cX6_isFound 85 = .ok (.aload_n 0, 1) := by decide +kernel
theorem dX6_isFound_86 : decode cX6_isFound 86 = .ok (.iload_n 1, 1) := by decide +kernel
theorem dX6_isFound_87 : decode cX6_isFound 87 = .ok (.iconst 2, 1) := by decide +kernel
theorem dX6_isFound_88 : decode cX6_isFound 88 = .ok (.iload_n 3, 1) := by decide +kernel
theorem dX6_isFound_89 : decode cX6_isFound 89 = .ok (.invokevirtual 150, 3) := by decide +kernel
theorem dX6_isFound_92 : decode cX6_isFound 92 = .ok (.iconst 1, 1) := by decide +kernel
theorem dX6_isFound_93 : decode cX6_isFound 93 = .ok (.ireturn, 1) := by decide +kernel
theorem dX6_sort_0 : decode cX6_sort 0 = .ok (.iconst 0, 1) := by decide +kernel
theorem dX6_sort_1 : decode cX6_sort 1 = .ok (.istore_n 3, 1) := by decide +kernel
theorem dX6_sort_2 : decode cX6_sort 2 = .ok (.iload_n 3, 1) := by decide +kernel
theorem dX6_sort_3 : decode cX6_sort 3 = .ok (.iload_n 2, 1) := by decide +kernel
theorem dX6_sort_4 : decode cX6_sort 4 = .ok (.if_icmp .ge 76, 3) := by decide +kernel
theorem dX6_sort_7 : decode cX6_sort 7 = .ok (.iload_n 3, 1) := by decide +kernel
theorem dX6_sort_8 : decode cX6_sort 8 = .ok (.istore 4, 2) := by decide +kernel
theorem dX6_sort_10 : decode cX6_sort 10 = .ok (.iload 4, 2) := by decide +kernel
theorem dX6_sort_12 : decode cX6_sort 12 = .ok (.ifCond .le 54, 3) := by decide +kernel
theorem dX6_sort_15 : decode cX6_sort 15 = .ok (.aload_n 1, 1) := by decide +kernel
theorem dX6_sort_16 : decode cX6_sort 16 = .ok (.bipush 8, 2) := by decide +kernel
theorem dX6_sort_18 : decode cX6_sort 18 = .ok (.aload_n 0, 1) := by decide +kernel
theorem dX6_sort_19 : decode cX6_sort 19 = .ok (.getfield 78, 3) := by decide +kernel
theorem dX6_sort_22 : decode cX6_sort 22 = .ok (.iload 4, 2) := by decide +kernel
theorem dX6_sort_24 : decode cX6_sort 24 = .ok (.iconst 1, 1) := by decide +kernel
theorem dX6_sort_25 : decode cX6_sort 25 = .ok (.isub, 1) := by decide +kernel
theorem dX6_sort_26 : decode cX6_sort 26 = .ok (.iaload, 1) := by decide +kernel
theorem dX6_sort_27 : decode cX6_sort 27 = .ok (.imul, 1) := by decide +kernel
theorem dX6_sort_28 : decode cX6_sort 28 = .ok (.bipush 6, 2) := by decide +kernel
theorem dX6_sort_30 : decode cX6_sort 30 = .ok (.iadd, 1) := by decide +kernel
theorem dX6_sort_31 : decode cX6_sort 31 = .ok (.iaload, 1) := by decide +kernel
theorem dX6_sort_32 : decode cX6_sort 32 = .ok (.aload_n 1, 1) := by decide +kernel
theorem dX6_sort_33 : decode cX6_sort 33 = .ok (.bipush 8, 2) := by decide +kernel
theorem dX6_sort_35 : decode cX6_sort 35 = .ok (.iload_n 3, 1) := by decide +kernel
theorem dX6_sort_36 : decode cX6_sort 36 = .ok (.imul, 1) := by decide +kernel
theorem dX6_sort_37 : decode cX6_sort 37 = .ok (.bipush 6, 2) := by decide +kernel
theorem dX6_sort_39 : decode cX6_sort 39 = .ok (.iadd, 1) := by decide +kernel
theorem dX6_sort_40 : decode cX6_sort 40 = .ok (.iaload, 1) := by decide +kernel
theorem dX6_sort_41 : decode cX6_sort 41 = .ok (.if_icmp .le 25, 3) := by decide +kernel
theorem dX6_sort_44 : decode cX6_sort 44 = .ok (.aload_n 0, 1) := by decide +kernel
theorem dX6_sort_45 : decode cX6_sort 45 = .ok (.getfield 78, 3) := by decide +kernel
theorem dX6_sort_48 : decode cX6_sort 48 = .ok (.iload 4, 2) := by decide +kernel
theorem dX6_sort_50 : decode cX6_sort 50 = .ok (.aload_n 0, 1) := by decide +kernel
theorem dX6_sort_51 : decode cX6_sort 51 = .ok (.getfield 78, 3) := by decide +kernel
theorem dX6_sort_54 : decode cX6_sort 54 = .ok (.iload 4, 2) := by decide +kernel
theorem dX6_sort_56 : decode cX6_sort 56 = .ok (.iconst 1, 1) := by decide +kernel
theorem dX6_sort_57 : decode cX6_sort 57 = .ok (.isub, 1) := by decide +kernel
theorem dX6_sort_58 : decode cX6_sort 58 = .ok (.iaload, 1) := by decide +kernel
theorem dX6_sort_59 : decode cX6_sort 59 = .ok (.iastore, 1) := by decide +kernel
theorem dX6_sort_60 : decode cX6_sort 60 = .ok (.iinc 4 (-1), 3) := by decide +kernel
theorem dX6_sort_63 : decode cX6_sort 63 = .ok (.goto (-53), 3) := by decide +kernel
theorem dX6_sort_66 : decode cX6_sort 66 = .ok (.aload_n 0, 1) := by decide +kernel
theorem dX6_sort_67 : decode cX6_sort 67 = .ok (.getfield 78, 3) := by decide +kernel
theorem dX6_sort_70 : decode cX6_sort 70 = .ok (.iload 4, 2) := by decide +kernel
theorem dX6_sort_72 : decode cX6_sort 72 = .ok (.iload_n 3, 1) := by decide +kernel
theorem dX6_sort_73 : decode cX6_sort 73 = .ok (.iastore, 1) := by decide +kernel
theorem dX6_sort_74 : decode cX6_sort 74 = .ok (.iinc 3 1, 3) := by decide +kernel
theorem dX6_sort_77 : decode cX6_sort 77 = .ok (.goto (-75), 3) := by decide +kernel
theorem dX6_sort_80 : decode cX6_sort 80 = .ok (.return_, 1) := by decide +kernel
theorem dX6_isSlip_0 : decode cX6_isSlip 0 = .ok (.aload_n 1, 1) := by decide +kernel
theorem dX6_isSlip_1 : decode cX6_isSlip 1 = .ok (.bipush 8, 2) := by decide +kernel
theorem dX6_isSlip_3 : decode cX6_isSlip 3 = .ok (.iload_n 2, 1) := by decide +kernel
theorem dX6_isSlip_4 : decode cX6_isSlip 4 = .ok (.imul, 1) := by decide +kernel
theorem dX6_isSlip_5 : decode cX6_isSlip 5 = .ok (.iaload, 1) := by decide +kernel
theorem dX6_isSlip_6 : decode cX6_isSlip 6 = .ok (.iconst 1, 1) := by decide +kernel
theorem dX6_isSlip_7 : decode cX6_isSlip 7 = .ok (.bipush 19, 2) := by decide +kernel
theorem dX6_isSlip_9 : decode cX6_isSlip 9 = .ok (.invokestatic 96, 3) := by decide +kernel
theorem dX6_isSlip_12 : decode cX6_isSlip 12 = .ok (.ifCond .eq 53, 3) := by decide +kernel
theorem dX6_isSlip_15 : decode cX6_isSlip 15 = .ok (.aload_n 1, 1) := by decide +kernel
theorem dX6_isSlip_16 : decode cX6_isSlip 16 = .ok (.bipush 8, 2) := by decide +kernel
theorem dX6_isSlip_18 : decode cX6_isSlip 18 = .ok (.iload_n 2, 1) := by decide +kernel
theorem dX6_isSlip_19 : decode cX6_isSlip 19 = .ok (.imul, 1) := by decide +kernel
theorem dX6_isSlip_20 : decode cX6_isSlip 20 = .ok (.iconst 1, 1) := by decide +kernel
theorem dX6_isSlip_21 : decode cX6_isSlip 21 = .ok (.iadd, 1) := by decide +kernel
theorem dX6_isSlip_22 : decode cX6_isSlip 22 = .ok (.iaload, 1) := by decide +kernel
theorem dX6_isSlip_23 : decode cX6_isSlip 23 = .ok (.iconst 0, 1) := by decide +kernel
theorem dX6_isSlip_24 : decode cX6_isSlip 24 = .ok (.aload_n 0, 1) := by decide +kernel
theorem dX6_isSlip_25 : decode cX6_isSlip 25 = .ok (.getfield 93, 3) := by decide +kernel
theorem dX6_isSlip_28 : decode cX6_isSlip 28 = .ok (.iconst 1, 1) := by decide +kernel
theorem dX6_isSlip_29 : decode cX6_isSlip 29 = .ok (.isub, 1) := by decide +kernel
theorem dX6_isSlip_30 : decode cX6_isSlip 30 = .ok (.invokestatic 96, 3) := by decide +kernel
theorem dX6_isSlip_33 : decode cX6_isSlip 33 = .ok (.ifCond .eq 32, 3) := by decide +kernel
theorem dX6_isSlip_36 : decode cX6_isSlip 36 = .ok (.aload_n 1, 1) := by decide +kernel
theorem dX6_isSlip_37 : decode cX6_isSlip 37 = .ok (.bipush 8, 2) := by decide +kernel
theorem dX6_isSlip_39 : decode cX6_isSlip 39 = .ok (.iload_n 2, 1) := by decide +kernel
theorem dX6_isSlip_40 : decode cX6_isSlip 40 = .ok (.imul, 1) := by decide +kernel
theorem dX6_isSlip_41 : decode cX6_isSlip 41 = .ok (.bipush 6, 2) := by decide +kernel
theorem dX6_isSlip_43 : decode cX6_isSlip 43 = .ok (.iadd, 1) := by decide +kernel
theorem dX6_isSlip_44 : decode cX6_isSlip 44 = .ok (.iaload, 1) := by decide +kernel
theorem dX6_isSlip_45 : decode cX6_isSlip 45 = .ok (.iconst 0, 1) := by decide +kernel
theorem dX6_isSlip_46 : decode cX6_isSlip 46 = .ok (.aload_n 1, 1) := by decide +kernel
theorem dX6_isSlip_47 : decode cX6_isSlip 47 = .ok (.bipush 8, 2) := by decide +kernel
theorem dX6_isSlip_49 : decode cX6_isSlip 49 = .ok (.iload_n 2, 1) := by decide +kernel
theorem dX6_isSlip_50 : decode cX6_isSlip 50 = .ok (.imul, 1) := by decide +kernel
theorem dX6_isSlip_51 : decode cX6_isSlip 51 = .ok (.bipush 7, 2) := by decide +kernel
theorem dX6_isSlip_53 : decode cX6_isSlip 53 = .ok (.iadd, 1) := by decide +kernel
theorem dX6_isSlip_54 : decode cX6_isSlip 54 = .ok (.iaload, 1) := by decide +kernel
theorem dX6_isSlip_55 : decode cX6_isSlip 55 = .ok (.invokestatic 96, 3) := by decide +kernel
theorem dX6_isSlip_58 : decode cX6_isSlip 58 = .ok (.ifCond .eq 7, 3) := by decide +kernel
theorem dX6_isSlip_61 : decode cX6_isSlip 61 = .ok (.iconst 1, 1) := by decide +kernel
theorem dX6_isSlip_62 : decode cX6_isSlip 62 = .ok (.goto 4, 3) := by decide +kernel
theorem dX6_isSlip_65 : decode cX6_isSlip 65 = .ok (.iconst 0, 1) := by decide +kernel
theorem dX6_isSlip_66 : decode cX6_isSlip 66 = .ok (.ireturn, 1) := by decide +kernel
theorem dX6_firstWrong_0 : decode cX6_firstWrong 0 = .ok (.aload_n 0, 1) := by decide +kernel
theorem dX6_firstWrong_1 : decode cX6_firstWrong 1 = .ok (.aload_n 1, 1) := by decide +kernel
theorem dX6_firstWrong_2 : decode cX6_firstWrong 2 = .ok (.iload_n 2, 1) := by decide +kernel
theorem dX6_firstWrong_3 : decode cX6_firstWrong 3 = .ok (.invokevirtual 184, 3) := by decide +kernel
theorem dX6_firstWrong_6 : decode cX6_firstWrong 6 = .ok (.aload_n 0, 1) := by decide +kernel
theorem dX6_firstWrong_7 : decode cX6_firstWrong 7 = .ok (.invokevirtual 90, 3) := by decide +kernel
theorem dX6_firstWrong_10 : decode cX6_firstWrong 10 = .ok (.iconst 0, 1) := by decide +kernel
theorem dX6_firstWrong_11 : decode cX6_firstWrong 11 = .ok (.istore_n 3, 1) := by decide +kernel
theorem dX6_firstWrong_12 : decode cX6_firstWrong 12 = .ok (.iload_n 3, 1) := by decide +kernel
theorem dX6_firstWrong_13 : decode cX6_firstWrong 13 = .ok (.iload_n 2, 1) := by decide +kernel
theorem dX6_firstWrong_14 : decode cX6_firstWrong 14 = .ok (.if_icmp .ge 44, 3) := by decide +kernel
theorem dX6_firstWrong_17 : decode cX6_firstWrong 17 = .ok (.aload_n 0, 1) := by decide +kernel
theorem dX6_firstWrong_18 : decode cX6_firstWrong 18 = .ok (.aload_n 1, 1) := by decide +kernel
theorem dX6_firstWrong_19 : decode cX6_firstWrong 19 = .ok (.aload_n 0, 1) := by decide +kernel
theorem dX6_firstWrong_20 : decode cX6_firstWrong 20 = .ok (.getfield 78, 3) := by decide +kernel
theorem dX6_firstWrong_23 : decode cX6_firstWrong 23 = .ok (.iload_n 3, 1) := by decide +kernel
theorem dX6_firstWrong_24 : decode cX6_firstWrong 24 = .ok (.iaload, 1) := by decide +kernel
theorem dX6_firstWrong_25 : decode cX6_firstWrong 25 = .ok (.invokevirtual 188, 3) := by decide +kernel
theorem dX6_firstWrong_28 : decode cX6_firstWrong 28 = .ok (.ifCond .eq 17, 3) := by decide +kernel
theorem dX6_firstWrong_31 : decode cX6_firstWrong 31 = .ok (.aload_n 0, 1) := by decide +kernel
theorem dX6_firstWrong_32 : decode cX6_firstWrong 32 = .ok (.aload_n 1, 1) := by decide +kernel
theorem dX6_firstWrong_33 : decode cX6_firstWrong 33 = .ok (.aload_n 0, 1) := by decide +kernel
theorem dX6_firstWrong_34 : decode cX6_firstWrong 34 = .ok (.getfield 78, 3) := by decide +kernel
theorem dX6_firstWrong_37 : decode cX6_firstWrong 37 = .ok (.iload_n 3, 1) := by decide +kernel
theorem dX6_firstWrong_38 : decode cX6_firstWrong 38 = .ok (.iaload, 1) := by decide +kernel
theorem dX6_firstWrong_39 : decode cX6_firstWrong 39 = .ok (.invokevirtual 192, 3) := by decide +kernel
theorem dX6_firstWrong_42 : decode cX6_firstWrong 42 = .ok (.ifCond .ne 10, 3) := by decide +kernel
theorem dX6_firstWrong_45 : decode cX6_firstWrong 45 = .ok (.aload_n 0, 1) := by decide +kernel
theorem dX6_firstWrong_46 : decode cX6_firstWrong 46 = .ok (.getfield 78, 3) := by decide +kernel
theorem dX6_firstWrong_49 : decode cX6_firstWrong 49 = .ok (.iload_n 3, 1) := by decide +kernel
theorem dX6_firstWrong_50 : decode cX6_firstWrong 50 = .ok (.iaload, 1) := by decide +kernel
theorem dX6_firstWrong_51 : decode cX6_firstWrong 51 = .ok (.ireturn, 1) := by decide +kernel
theorem dX6_firstWrong_52 : decode cX6_firstWrong 52 = .ok (.iinc 3 1, 3) := by decide +kernel
theorem dX6_firstWrong_55 : decode cX6_firstWrong 55 = .ok (.goto (-43), 3) := by decide +kernel
theorem dX6_firstWrong_58 : decode cX6_firstWrong 58 = .ok (.iconst (-1), 1) := by decide +kernel
theorem dX6_firstWrong_59 : decode cX6_firstWrong 59 = .ok (.ireturn, 1) := by decide +kernel
theorem dX6_goOver_0 : decode cX6_goOver 0 = .ok (.aload_n 0, 1) := by decide +kernel
theorem dX6_goOver_1 : decode cX6_goOver 1 = .ok (.aload_n 0, 1) := by decide +kernel
theorem dX6_goOver_2 : decode cX6_goOver 2 = .ok (.getfield 30, 3) := by decide +kernel
theorem dX6_goOver_5 : decode cX6_goOver 5 = .ok (.aload_n 0, 1) := by decide +kernel
theorem dX6_goOver_6 : decode cX6_goOver 6 = .ok (.getfield 195, 3) := by decide +kernel
theorem dX6_goOver_9 : decode cX6_goOver 9 = .ok (.invokevirtual 184, 3) := by decide +kernel
theorem dX6_goOver_12 : decode cX6_goOver 12 = .ok (.aload_n 0, 1) := by decide +kernel
theorem dX6_goOver_13 : decode cX6_goOver 13 = .ok (.invokevirtual 90, 3) := by decide +kernel
theorem dX6_goOver_16 : decode cX6_goOver 16 = .ok (.iconst 0, 1) := by decide +kernel
theorem dX6_goOver_17 : decode cX6_goOver 17 = .ok (.istore_n 3, 1) := by decide +kernel
theorem dX6_goOver_18 : decode cX6_goOver 18 = .ok (.iload_n 3, 1) := by decide +kernel
theorem dX6_goOver_19 : decode cX6_goOver 19 = .ok (.aload_n 0, 1) := by decide +kernel
theorem dX6_goOver_20 : decode cX6_goOver 20 = .ok (.getfield 195, 3) := by decide +kernel
theorem dX6_goOver_23 : decode cX6_goOver 23 = .ok (.if_icmp .ge 66, 3) := by decide +kernel
theorem dX6_goOver_26 : decode cX6_goOver 26 = .ok (.aload_n 0, 1) := by decide +kernel
theorem dX6_goOver_27 : decode cX6_goOver 27 = .ok (.getfield 30, 3) := by decide +kernel
theorem dX6_goOver_30 : decode cX6_goOver 30 = .ok (.bipush 8, 2) := by decide +kernel
theorem dX6_goOver_32 : decode cX6_goOver 32 = .ok (.aload_n 0, 1) := by decide +kernel
theorem dX6_goOver_33 : decode cX6_goOver 33 = .ok (.getfield 78, 3) := by decide +kernel
theorem dX6_goOver_36 : decode cX6_goOver 36 = .ok (.iload_n 3, 1) := by decide +kernel
theorem dX6_goOver_37 : decode cX6_goOver 37 = .ok (.iaload, 1) := by decide +kernel
theorem dX6_goOver_38 : decode cX6_goOver 38 = .ok (.imul, 1) := by decide +kernel
theorem dX6_goOver_39 : decode cX6_goOver 39 = .ok (.bipush 6, 2) := by decide +kernel
theorem dX6_goOver_41 : decode cX6_goOver 41 = .ok (.iadd, 1) := by decide +kernel
theorem dX6_goOver_42 : decode cX6_goOver 42 = .ok (.iaload, 1) := by decide +kernel
theorem dX6_goOver_43 : decode cX6_goOver 43 = .ok (.iload_n 1, 1) := by decide +kernel
theorem dX6_goOver_44 : decode cX6_goOver 44 = .ok (.if_icmp .gt 39, 3) := by decide +kernel
theorem dX6_goOver_47 : decode cX6_goOver 47 = .ok (.aload_n 0, 1) := by decide +kernel
theorem dX6_goOver_48 : decode cX6_goOver 48 = .ok (.getfield 30, 3) := by decide +kernel
theorem dX6_goOver_51 : decode cX6_goOver 51 = .ok (.bipush 8, 2) := by decide +kernel
theorem dX6_goOver_53 : decode cX6_goOver 53 = .ok (.aload_n 0, 1) := by decide +kernel
theorem dX6_goOver_54 : decode cX6_goOver 54 = .ok (.getfield 78, 3) := by decide +kernel
theorem dX6_goOver_57 : decode cX6_goOver 57 = .ok (.iload_n 3, 1) := by decide +kernel
theorem dX6_goOver_58 : decode cX6_goOver 58 = .ok (.iaload, 1) := by decide +kernel
theorem dX6_goOver_59 : decode cX6_goOver 59 = .ok (.imul, 1) := by decide +kernel
theorem dX6_goOver_60 : decode cX6_goOver 60 = .ok (.bipush 7, 2) := by decide +kernel
theorem dX6_goOver_62 : decode cX6_goOver 62 = .ok (.iadd, 1) := by decide +kernel
theorem dX6_goOver_63 : decode cX6_goOver 63 = .ok (.iaload, 1) := by decide +kernel
theorem dX6_goOver_64 : decode cX6_goOver 64 = .ok (.iload_n 2, 1) := by decide +kernel
theorem dX6_goOver_65 : decode cX6_goOver 65 = .ok (.if_icmp .gt 18, 3) := by decide +kernel
theorem dX6_goOver_68 : decode cX6_goOver 68 = .ok (.aload_n 0, 1) := by decide +kernel
theorem dX6_goOver_69 : decode cX6_goOver 69 = .ok (.aload_n 0, 1) := by decide +kernel
theorem dX6_goOver_70 : decode cX6_goOver 70 = .ok (.getfield 30, 3) := by decide +kernel
theorem dX6_goOver_73 : decode cX6_goOver 73 = .ok (.aload_n 0, 1) := by decide +kernel
theorem dX6_goOver_74 : decode cX6_goOver 74 = .ok (.getfield 78, 3) := by decide +kernel
theorem dX6_goOver_77 : decode cX6_goOver 77 = .ok (.iload_n 3, 1) := by decide +kernel
theorem dX6_goOver_78 : decode cX6_goOver 78 = .ok (.iaload, 1) := by decide +kernel
theorem dX6_goOver_79 : decode cX6_goOver 79 = .ok (.invokevirtual 192, 3) := by decide +kernel
theorem dX6_goOver_82 : decode cX6_goOver 82 = .ok (.pop, 1) := by decide +kernel
theorem dX6_goOver_83 : decode cX6_goOver 83 = .ok (.iinc 3 1, 3) := by decide +kernel
theorem dX6_goOver_86 : decode cX6_goOver 86 = .ok (.goto (-68), 3) := by decide +kernel
theorem dX6_goOver_89 : decode cX6_goOver 89 = .ok (.return_, 1) := by decide +kernel
theorem dX6_goOverAll_0 : decode cX6_goOverAll 0 = .ok (.aload_n 0, 1) := by decide +kernel
theorem dX6_goOverAll_1 : decode cX6_goOverAll 1 = .ok (.ldc 198, 2) := by decide +kernel
theorem dX6_goOverAll_3 : decode cX6_goOverAll 3 = .ok (.ldc 198, 2) := by decide +kernel
theorem dX6_goOverAll_5 : decode cX6_goOverAll 5 = .ok (.invokevirtual 199, 3) := by decide +kernel
theorem dX6_goOverAll_8 : decode cX6_goOverAll 8 = .ok (.return_, 1) := by decide +kernel
theorem dX6_hand_0 : decode cX6_hand 0 = .ok (.aload_n 0, 1) := by decide +kernel
theorem dX6_hand_1 : decode cX6_hand 1 = .ok (.getfield 100, 3) := by decide +kernel
theorem dX6_hand_4 : decode cX6_hand 4 = .ok (.bipush 20, 2) := by decide +kernel
theorem dX6_hand_6 : decode cX6_hand 6 = .ok (.if_icmp .ne 5, 3) := by decide +kernel
theorem dX6_hand_9 : decode cX6_hand 9 = .ok (.iconst (-1), 1) := by decide +kernel
theorem dX6_hand_10 : decode cX6_hand 10 = .ok (.ireturn, 1) := by decide +kernel
theorem dX6_hand_11 : decode cX6_hand 11 = .ok (.aload_n 0, 1) := by decide +kernel
theorem dX6_hand_12 : decode cX6_hand 12 = .ok (.getfield 13, 3) := by decide +kernel
theorem dX6_hand_15 : decode cX6_hand 15 = .ok (.aload_n 0, 1) := by decide +kernel
theorem dX6_hand_16 : decode cX6_hand 16 = .ok (.getfield 100, 3) := by decide +kernel
theorem dX6_hand_19 : decode cX6_hand 19 = .ok (.iload_n 1, 1) := by decide +kernel
theorem dX6_hand_20 : decode cX6_hand 20 = .ok (.bastore, 1) := by decide +kernel
theorem dX6_hand_21 : decode cX6_hand 21 = .ok (.aload_n 0, 1) := by decide +kernel
theorem dX6_hand_22 : decode cX6_hand 22 = .ok (.dup, 1) := by decide +kernel
theorem dX6_hand_23 : decode cX6_hand 23 = .ok (.getfield 100, 3) := by decide +kernel
theorem dX6_hand_26 : decode cX6_hand 26 = .ok (.iconst 1, 1) := by decide +kernel
theorem dX6_hand_27 : decode cX6_hand 27 = .ok (.iadd, 1) := by decide +kernel
theorem dX6_hand_28 : decode cX6_hand 28 = .ok (.putfield 100, 3) := by decide +kernel
theorem dX6_hand_31 : decode cX6_hand 31 = .ok (.aload_n 0, 1) := by decide +kernel
theorem dX6_hand_32 : decode cX6_hand 32 = .ok (.getfield 100, 3) := by decide +kernel
theorem dX6_hand_35 : decode cX6_hand 35 = .ok (.iconst 1, 1) := by decide +kernel
theorem dX6_hand_36 : decode cX6_hand 36 = .ok (.isub, 1) := by decide +kernel
theorem dX6_hand_37 : decode cX6_hand 37 = .ok (.ireturn, 1) := by decide +kernel
theorem dX6_shelf_0 : decode cX6_shelf 0 = .ok (.aload_n 0, 1) := by decide +kernel
theorem dX6_shelf_1 : decode cX6_shelf 1 = .ok (.getfield 103, 3) := by decide +kernel
theorem dX6_shelf_4 : decode cX6_shelf 4 = .ok (.bipush 8, 2) := by decide +kernel
theorem dX6_shelf_6 : decode cX6_shelf 6 = .ok (.if_icmp .ne 5, 3) := by decide +kernel
theorem dX6_shelf_9 : decode cX6_shelf 9 = .ok (.iconst (-1), 1) := by decide +kernel
theorem dX6_shelf_10 : decode cX6_shelf 10 = .ok (.ireturn, 1) := by decide +kernel
theorem dX6_shelf_11 : decode cX6_shelf 11 = .ok (.aload_n 0, 1) := by decide +kernel
theorem dX6_shelf_12 : decode cX6_shelf 12 = .ok (.getfield 17, 3) := by decide +kernel
theorem dX6_shelf_15 : decode cX6_shelf 15 = .ok (.aload_n 0, 1) := by decide +kernel
theorem dX6_shelf_16 : decode cX6_shelf 16 = .ok (.getfield 103, 3) := by decide +kernel
theorem dX6_shelf_19 : decode cX6_shelf 19 = .ok (.iload_n 1, 1) := by decide +kernel
theorem dX6_shelf_20 : decode cX6_shelf 20 = .ok (.bastore, 1) := by decide +kernel
theorem dX6_shelf_21 : decode cX6_shelf 21 = .ok (.aload_n 0, 1) := by decide +kernel
theorem dX6_shelf_22 : decode cX6_shelf 22 = .ok (.dup, 1) := by decide +kernel
theorem dX6_shelf_23 : decode cX6_shelf 23 = .ok (.getfield 103, 3) := by decide +kernel
theorem dX6_shelf_26 : decode cX6_shelf 26 = .ok (.iconst 1, 1) := by decide +kernel
theorem dX6_shelf_27 : decode cX6_shelf 27 = .ok (.iadd, 1) := by decide +kernel
theorem dX6_shelf_28 : decode cX6_shelf 28 = .ok (.putfield 103, 3) := by decide +kernel
theorem dX6_shelf_31 : decode cX6_shelf 31 = .ok (.aload_n 0, 1) := by decide +kernel
theorem dX6_shelf_32 : decode cX6_shelf 32 = .ok (.getfield 103, 3) := by decide +kernel
theorem dX6_shelf_35 : decode cX6_shelf 35 = .ok (.iconst 1, 1) := by decide +kernel
theorem dX6_shelf_36 : decode cX6_shelf 36 = .ok (.isub, 1) := by decide +kernel
theorem dX6_shelf_37 : decode cX6_shelf 37 = .ok (.ireturn, 1) := by decide +kernel
theorem dX6_seals_0 : decode cX6_seals 0 = .ok (.iload_n 1, 1) := by decide +kernel
theorem dX6_seals_1 : decode cX6_seals 1 = .ok (.iconst 0, 1) := by decide +kernel
theorem dX6_seals_2 : decode cX6_seals 2 = .ok (.iconst 5, 1) := by decide +kernel
theorem dX6_seals_3 : decode cX6_seals 3 = .ok (.invokestatic 96, 3) := by decide +kernel
theorem dX6_seals_6 : decode cX6_seals 6 = .ok (.ifCond .eq 13, 3) := by decide +kernel
theorem dX6_seals_9 : decode cX6_seals 9 = .ok (.iload_n 2, 1) := by decide +kernel
theorem dX6_seals_10 : decode cX6_seals 10 = .ok (.iconst (-1), 1) := by decide +kernel
theorem dX6_seals_11 : decode cX6_seals 11 = .ok (.bipush 50, 2) := by decide +kernel
theorem dX6_seals_13 : decode cX6_seals 13 = .ok (.invokestatic 96, 3) := by decide +kernel
theorem dX6_seals_16 : decode cX6_seals 16 = .ok (.ifCond .ne 5, 3) := by decide +kernel
theorem dX6_seals_19 : decode cX6_seals 19 = .ok (.iconst 0, 1) := by decide +kernel
theorem dX6_seals_20 : decode cX6_seals 20 = .ok (.ireturn, 1) := by decide +kernel
theorem dX6_seals_21 : decode cX6_seals 21 = .ok (.iconst 0, 1) := by decide +kernel
theorem dX6_seals_22 : decode cX6_seals 22 = .ok (.istore_n 3, 1) := by decide +kernel
theorem dX6_seals_23 : decode cX6_seals 23 = .ok (.iload_n 3, 1) := by decide +kernel
theorem dX6_seals_24 : decode cX6_seals 24 = .ok (.aload_n 0, 1) := by decide +kernel
theorem dX6_seals_25 : decode cX6_seals 25 = .ok (.getfield 195, 3) := by decide +kernel
theorem dX6_seals_28 : decode cX6_seals 28 = .ok (.if_icmp .ge 61, 3) := by decide +kernel
theorem dX6_seals_31 : decode cX6_seals 31 = .ok (.aload_n 0, 1) := by decide +kernel
theorem dX6_seals_32 : decode cX6_seals 32 = .ok (.getfield 30, 3) := by decide +kernel
theorem dX6_seals_35 : decode cX6_seals 35 = .ok (.bipush 8, 2) := by decide +kernel
theorem dX6_seals_37 : decode cX6_seals 37 = .ok (.iload_n 3, 1) := by decide +kernel
theorem dX6_seals_38 : decode cX6_seals 38 = .ok (.imul, 1) := by decide +kernel
theorem dX6_seals_39 : decode cX6_seals 39 = .ok (.iaload, 1) := by decide +kernel
theorem dX6_seals_40 : decode cX6_seals 40 = .ok (.bipush 8, 2) := by decide +kernel
theorem dX6_seals_42 : decode cX6_seals 42 = .ok (.if_icmp .ne 41, 3) := by decide +kernel
theorem dX6_seals_45 : decode cX6_seals 45 = .ok (.aload_n 0, 1) := by decide +kernel
theorem dX6_seals_46 : decode cX6_seals 46 = .ok (.getfield 30, 3) := by decide +kernel
theorem dX6_seals_49 : decode cX6_seals 49 = .ok (.bipush 8, 2) := by decide +kernel
theorem dX6_seals_51 : decode cX6_seals 51 = .ok (.iload_n 3, 1) := by decide +kernel
theorem dX6_seals_52 : decode cX6_seals 52 = .ok (.imul, 1) := by decide +kernel
theorem dX6_seals_53 : decode cX6_seals 53 = .ok (.iconst 4, 1) := by decide +kernel
theorem dX6_seals_54 : decode cX6_seals 54 = .ok (.iadd, 1) := by decide +kernel
theorem dX6_seals_55 : decode cX6_seals 55 = .ok (.iaload, 1) := by decide +kernel
theorem dX6_seals_56 : decode cX6_seals 56 = .ok (.bipush 100, 2) := by decide +kernel
theorem dX6_seals_58 : decode cX6_seals 58 = .ok (.idiv, 1) := by decide +kernel
theorem dX6_seals_59 : decode cX6_seals 59 = .ok (.iload_n 1, 1) := by decide +kernel
theorem dX6_seals_60 : decode cX6_seals 60 = .ok (.if_icmp .ne 23, 3) := by decide +kernel
theorem dX6_seals_63 : decode cX6_seals 63 = .ok (.aload_n 0, 1) := by decide +kernel
theorem dX6_seals_64 : decode cX6_seals 64 = .ok (.getfield 30, 3) := by decide +kernel
theorem dX6_seals_67 : decode cX6_seals 67 = .ok (.bipush 8, 2) := by decide +kernel
theorem dX6_seals_69 : decode cX6_seals 69 = .ok (.iload_n 3, 1) := by decide +kernel
theorem dX6_seals_70 : decode cX6_seals 70 = .ok (.imul, 1) := by decide +kernel
theorem dX6_seals_71 : decode cX6_seals 71 = .ok (.iconst 4, 1) := by decide +kernel
theorem dX6_seals_72 : decode cX6_seals 72 = .ok (.iadd, 1) := by decide +kernel
theorem dX6_seals_73 : decode cX6_seals 73 = .ok (.iaload, 1) := by decide +kernel
theorem dX6_seals_74 : decode cX6_seals 74 = .ok (.bipush 100, 2) := by decide +kernel
theorem dX6_seals_76 : decode cX6_seals 76 = .ok (.irem, 1) := by decide +kernel
theorem dX6_seals_77 : decode cX6_seals 77 = .ok (.iload_n 2, 1) := by decide +kernel
theorem dX6_seals_78 : decode cX6_seals 78 = .ok (.if_icmp .lt 5, 3) := by decide +kernel
theorem dX6_seals_81 : decode cX6_seals 81 = .ok (.iconst 0, 1) := by decide +kernel
theorem dX6_seals_82 : decode cX6_seals 82 = .ok (.ireturn, 1) := by decide +kernel
theorem dX6_seals_83 : decode cX6_seals 83 = .ok (.iinc 3 1, 3) := by decide +kernel
theorem dX6_seals_86 : decode cX6_seals 86 = .ok (.goto (-63), 3) := by decide +kernel
theorem dX6_seals_89 : decode cX6_seals 89 = .ok (.aload_n 0, 1) := by decide +kernel
theorem dX6_seals_90 : decode cX6_seals 90 = .ok (.getfield 20, 3) := by decide +kernel
theorem dX6_seals_93 : decode cX6_seals 93 = .ok (.iload_n 1, 1) := by decide +kernel
theorem dX6_seals_94 : decode cX6_seals 94 = .ok (.iload_n 2, 1) := by decide +kernel
theorem dX6_seals_95 : decode cX6_seals 95 = .ok (.iastore, 1) := by decide +kernel
theorem dX6_seals_96 : decode cX6_seals 96 = .ok (.iconst 1, 1) := by decide +kernel
theorem dX6_seals_97 : decode cX6_seals 97 = .ok (.ireturn, 1) := by decide +kernel
theorem dX6_thing_0 : decode cX6_thing 0 = .ok (.iload_n 1, 1) := by decide +kernel
theorem dX6_thing_1 : decode cX6_thing 1 = .ok (.iconst 0, 1) := by decide +kernel
theorem dX6_thing_2 : decode cX6_thing 2 = .ok (.iconst 5, 1) := by decide +kernel
theorem dX6_thing_3 : decode cX6_thing 3 = .ok (.invokestatic 96, 3) := by decide +kernel
theorem dX6_thing_6 : decode cX6_thing 6 = .ok (.ifCond .eq 36, 3) := by decide +kernel
theorem dX6_thing_9 : decode cX6_thing 9 = .ok (.iload_n 2, 1) := by decide +kernel
theorem dX6_thing_10 : decode cX6_thing 10 = .ok (.iconst 0, 1) := by decide +kernel
theorem dX6_thing_11 : decode cX6_thing 11 = .ok (.iload_n 1, 1) := by decide +kernel
theorem dX6_thing_12 : decode cX6_thing 12 = .ok (.iconst 2, 1) := by decide +kernel
theorem dX6_thing_13 : decode cX6_thing 13 = .ok (.if_icmp .eq 8, 3) := by decide +kernel
theorem dX6_thing_16 : decode cX6_thing 16 = .ok (.iload_n 1, 1) := by decide +kernel
theorem dX6_thing_17 : decode cX6_thing 17 = .ok (.iconst 3, 1) := by decide +kernel
theorem dX6_thing_18 : decode cX6_thing 18 = .ok (.if_icmp .ne 7, 3) := by decide +kernel
theorem dX6_thing_21 : decode cX6_thing 21 = .ok (.iconst 0, 1) := by decide +kernel
theorem dX6_thing_22 : decode cX6_thing 22 = .ok (.goto 5, 3) := by decide +kernel
theorem dX6_thing_25 : decode cX6_thing 25 = .ok (.ldc 203, 2) := by decide +kernel
theorem dX6_thing_27 : decode cX6_thing 27 = .ok (.invokestatic 96, 3) := by decide +kernel
theorem dX6_thing_30 : decode cX6_thing 30 = .ok (.ifCond .eq 12, 3) := by decide +kernel
theorem dX6_thing_33 : decode cX6_thing 33 = .ok (.aload_n 0, 1) := by decide +kernel
theorem dX6_thing_34 : decode cX6_thing 34 = .ok (.getfield 93, 3) := by decide +kernel
theorem dX6_thing_37 : decode cX6_thing 37 = .ok (.bipush 60, 2) := by decide +kernel
theorem dX6_thing_39 : decode cX6_thing 39 = .ok (.if_icmp .ne 5, 3) := by decide +kernel
theorem dX6_thing_42 : decode cX6_thing 42 = .ok (.iconst (-1), 1) := by decide +kernel
theorem dX6_thing_43 : decode cX6_thing 43 = .ok (.ireturn, 1) := by decide +kernel
theorem dX6_thing_44 : decode cX6_thing 44 = .ok (.aload_n 0, 1) := by decide +kernel
theorem dX6_thing_45 : decode cX6_thing 45 = .ok (.getfield 24, 3) := by decide +kernel
theorem dX6_thing_48 : decode cX6_thing 48 = .ok (.aload_n 0, 1) := by decide +kernel
theorem dX6_thing_49 : decode cX6_thing 49 = .ok (.getfield 93, 3) := by decide +kernel
theorem dX6_thing_52 : decode cX6_thing 52 = .ok (.iload_n 1, 1) := by decide +kernel
theorem dX6_thing_53 : decode cX6_thing 53 = .ok (.iastore, 1) := by decide +kernel
theorem dX6_thing_54 : decode cX6_thing 54 = .ok (.aload_n 0, 1) := by decide +kernel
theorem dX6_thing_55 : decode cX6_thing 55 = .ok (.getfield 27, 3) := by decide +kernel
theorem dX6_thing_58 : decode cX6_thing 58 = .ok (.aload_n 0, 1) := by decide +kernel
theorem dX6_thing_59 : decode cX6_thing 59 = .ok (.getfield 93, 3) := by decide +kernel
theorem dX6_thing_62 : decode cX6_thing 62 = .ok (.iload_n 2, 1) := by decide +kernel
theorem dX6_thing_63 : decode cX6_thing 63 = .ok (.iastore, 1) := by decide +kernel
theorem dX6_thing_64 : decode cX6_thing 64 = .ok (.aload_n 0, 1) := by decide +kernel
theorem dX6_thing_65 : decode cX6_thing 65 = .ok (.dup, 1) := by decide +kernel
theorem dX6_thing_66 : decode cX6_thing 66 = .ok (.getfield 93, 3) := by decide +kernel
theorem dX6_thing_69 : decode cX6_thing 69 = .ok (.iconst 1, 1) := by decide +kernel
theorem dX6_thing_70 : decode cX6_thing 70 = .ok (.iadd, 1) := by decide +kernel
theorem dX6_thing_71 : decode cX6_thing 71 = .ok (.putfield 93, 3) := by decide +kernel
theorem dX6_thing_74 : decode cX6_thing 74 = .ok (.aload_n 0, 1) := by decide +kernel
theorem dX6_thing_75 : decode cX6_thing 75 = .ok (.getfield 93, 3) := by decide +kernel
theorem dX6_thing_78 : decode cX6_thing 78 = .ok (.iconst 1, 1) := by decide +kernel
theorem dX6_thing_79 : decode cX6_thing 79 = .ok (.isub, 1) := by decide +kernel
theorem dX6_thing_80 : decode cX6_thing 80 = .ok (.ireturn, 1) := by decide +kernel
theorem dX6_pass_0 : decode cX6_pass 0 = .ok (.iload_n 1, 1) := by decide +kernel
theorem dX6_pass_1 : decode cX6_pass 1 = .ok (.iconst 0, 1) := by decide +kernel
theorem dX6_pass_2 : decode cX6_pass 2 = .ok (.ldc 154, 2) := by decide +kernel
theorem dX6_pass_4 : decode cX6_pass 4 = .ok (.invokestatic 96, 3) := by decide +kernel
theorem dX6_pass_7 : decode cX6_pass 7 = .ok (.ifCond .eq 14, 3) := by decide +kernel
theorem dX6_pass_10 : decode cX6_pass 10 = .ok (.aload_n 0, 1) := by decide +kernel
theorem dX6_pass_11 : decode cX6_pass 11 = .ok (.getfield 204, 3) := by decide +kernel
theorem dX6_pass_14 : decode cX6_pass 14 = .ok (.iload_n 1, 1) := by decide +kernel
theorem dX6_pass_15 : decode cX6_pass 15 = .ok (.iadd, 1) := by decide +kernel
theorem dX6_pass_16 : decode cX6_pass 16 = .ok (.ldc 207, 2) := by decide +kernel
theorem dX6_pass_18 : decode cX6_pass 18 = .ok (.if_icmp .le 5, 3) := by decide +kernel
theorem dX6_pass_21 : decode cX6_pass 21 = .ok (.iconst (-1), 1) := by decide +kernel
theorem dX6_pass_22 : decode cX6_pass 22 = .ok (.ireturn, 1) := by decide +kernel
theorem dX6_pass_23 : decode cX6_pass 23 = .ok (.aload_n 0, 1) := by decide +kernel
theorem dX6_pass_24 : decode cX6_pass 24 = .ok (.dup, 1) := by decide +kernel
theorem dX6_pass_25 : decode cX6_pass 25 = .ok (.getfield 204, 3) := by decide +kernel
theorem dX6_pass_28 : decode cX6_pass 28 = .ok (.iload_n 1, 1) := by decide +kernel
theorem dX6_pass_29 : decode cX6_pass 29 = .ok (.iadd, 1) := by decide +kernel
theorem dX6_pass_30 : decode cX6_pass 30 = .ok (.putfield 204, 3) := by decide +kernel
theorem dX6_pass_33 : decode cX6_pass 33 = .ok (.aload_n 0, 1) := by decide +kernel
theorem dX6_pass_34 : decode cX6_pass 34 = .ok (.getfield 204, 3) := by decide +kernel
theorem dX6_pass_37 : decode cX6_pass 37 = .ok (.ireturn, 1) := by decide +kernel
theorem dX6_written_0 : decode cX6_written 0 = .ok (.bipush 8, 2) := by decide +kernel
theorem dX6_written_2 : decode cX6_written 2 = .ok (.aload_n 0, 1) := by decide +kernel
theorem dX6_written_3 : decode cX6_written 3 = .ok (.getfield 195, 3) := by decide +kernel
theorem dX6_written_6 : decode cX6_written 6 = .ok (.imul, 1) := by decide +kernel
theorem dX6_written_7 : decode cX6_written 7 = .ok (.istore 8, 2) := by decide +kernel
theorem dX6_written_9 : decode cX6_written 9 = .ok (.aload_n 0, 1) := by decide +kernel
theorem dX6_written_10 : decode cX6_written 10 = .ok (.getfield 30, 3) := by decide +kernel
theorem dX6_written_13 : decode cX6_written 13 = .ok (.iload 8, 2) := by decide +kernel
theorem dX6_written_15 : decode cX6_written 15 = .ok (.iload_n 1, 1) := by decide +kernel
theorem dX6_written_16 : decode cX6_written 16 = .ok (.iastore, 1) := by decide +kernel
theorem dX6_written_17 : decode cX6_written 17 = .ok (.aload_n 0, 1) := by decide +kernel
theorem dX6_written_18 : decode cX6_written 18 = .ok (.getfield 30, 3) := by decide +kernel
theorem dX6_written_21 : decode cX6_written 21 = .ok (.iload 8, 2) := by decide +kernel
theorem dX6_written_23 : decode cX6_written 23 = .ok (.iconst 1, 1) := by decide +kernel
theorem dX6_written_24 : decode cX6_written 24 = .ok (.iadd, 1) := by decide +kernel
theorem dX6_written_25 : decode cX6_written 25 = .ok (.iload_n 2, 1) := by decide +kernel
theorem dX6_written_26 : decode cX6_written 26 = .ok (.iastore, 1) := by decide +kernel
theorem dX6_written_27 : decode cX6_written 27 = .ok (.aload_n 0, 1) := by decide +kernel
theorem dX6_written_28 : decode cX6_written 28 = .ok (.getfield 30, 3) := by decide +kernel
theorem dX6_written_31 : decode cX6_written 31 = .ok (.iload 8, 2) := by decide +kernel
theorem dX6_written_33 : decode cX6_written 33 = .ok (.iconst 2, 1) := by decide +kernel
theorem dX6_written_34 : decode cX6_written 34 = .ok (.iadd, 1) := by decide +kernel
theorem dX6_written_35 : decode cX6_written 35 = .ok (.iload_n 3, 1) := by decide +kernel
theorem dX6_written_36 : decode cX6_written 36 = .ok (.iastore, 1) := by decide +kernel
theorem dX6_written_37 : decode cX6_written 37 = .ok (.aload_n 0, 1) := by decide +kernel
theorem dX6_written_38 : decode cX6_written 38 = .ok (.getfield 30, 3) := by decide +kernel
theorem dX6_written_41 : decode cX6_written 41 = .ok (.iload 8, 2) := by decide +kernel
theorem dX6_written_43 : decode cX6_written 43 = .ok (.iconst 3, 1) := by decide +kernel
theorem dX6_written_44 : decode cX6_written 44 = .ok (.iadd, 1) := by decide +kernel
theorem dX6_written_45 : decode cX6_written 45 = .ok (.iload 4, 2) := by decide +kernel
theorem dX6_written_47 : decode cX6_written 47 = .ok (.iastore, 1) := by decide +kernel
theorem dX6_written_48 : decode cX6_written 48 = .ok (.aload_n 0, 1) := by decide +kernel
theorem dX6_written_49 : decode cX6_written 49 = .ok (.getfield 30, 3) := by decide +kernel
theorem dX6_written_52 : decode cX6_written 52 = .ok (.iload 8, 2) := by decide +kernel
theorem dX6_written_54 : decode cX6_written 54 = .ok (.iconst 4, 1) := by decide +kernel
theorem dX6_written_55 : decode cX6_written 55 = .ok (.iadd, 1) := by decide +kernel
theorem dX6_written_56 : decode cX6_written 56 = .ok (.iload 5, 2) := by decide +kernel
theorem dX6_written_58 : decode cX6_written 58 = .ok (.iastore, 1) := by decide +kernel
theorem dX6_written_59 : decode cX6_written 59 = .ok (.aload_n 0, 1) := by decide +kernel
theorem dX6_written_60 : decode cX6_written 60 = .ok (.getfield 30, 3) := by decide +kernel
theorem dX6_written_63 : decode cX6_written 63 = .ok (.iload 8, 2) := by decide +kernel
theorem dX6_written_65 : decode cX6_written 65 = .ok (.iconst 5, 1) := by decide +kernel
theorem dX6_written_66 : decode cX6_written 66 = .ok (.iadd, 1) := by decide +kernel
theorem dX6_written_67 : decode cX6_written 67 = .ok (.iload 6, 2) := by decide +kernel
theorem dX6_written_69 : decode cX6_written 69 = .ok (.iastore, 1) := by decide +kernel
theorem dX6_written_70 : decode cX6_written 70 = .ok (.aload_n 0, 1) := by decide +kernel
theorem dX6_written_71 : decode cX6_written 71 = .ok (.getfield 30, 3) := by decide +kernel
theorem dX6_written_74 : decode cX6_written 74 = .ok (.iload 8, 2) := by decide +kernel
theorem dX6_written_76 : decode cX6_written 76 = .ok (.bipush 6, 2) := by decide +kernel
theorem dX6_written_78 : decode cX6_written 78 = .ok (.iadd, 1) := by decide +kernel
theorem dX6_written_79 : decode cX6_written 79 = .ok (.iload 7, 2) := by decide +kernel
theorem dX6_written_81 : decode cX6_written 81 = .ok (.iastore, 1) := by decide +kernel
theorem dX6_written_82 : decode cX6_written 82 = .ok (.aload_n 0, 1) := by decide +kernel
theorem dX6_written_83 : decode cX6_written 83 = .ok (.getfield 30, 3) := by decide +kernel
theorem dX6_written_86 : decode cX6_written 86 = .ok (.iload 8, 2) := by decide +kernel
theorem dX6_written_88 : decode cX6_written 88 = .ok (.bipush 7, 2) := by decide +kernel
theorem dX6_written_90 : decode cX6_written 90 = .ok (.iadd, 1) := by decide +kernel
theorem dX6_written_91 : decode cX6_written 91 = .ok (.aload_n 0, 1) := by decide +kernel
theorem dX6_written_92 : decode cX6_written 92 = .ok (.getfield 204, 3) := by decide +kernel
theorem dX6_written_95 : decode cX6_written 95 = .ok (.iastore, 1) := by decide +kernel
theorem dX6_written_96 : decode cX6_written 96 = .ok (.aload_n 0, 1) := by decide +kernel
theorem dX6_written_97 : decode cX6_written 97 = .ok (.aload_n 0, 1) := by decide +kernel
theorem dX6_written_98 : decode cX6_written 98 = .ok (.aload_n 0, 1) := by decide +kernel
theorem dX6_written_99 : decode cX6_written 99 = .ok (.getfield 30, 3) := by decide +kernel
theorem dX6_written_102 : decode cX6_written 102 = .ok (.aload_n 0, 1) := by decide +kernel
theorem dX6_written_103 : decode cX6_written 103 = .ok (.getfield 195, 3) := by decide +kernel
theorem dX6_written_106 : decode cX6_written 106 = .ok (.iconst 1, 1) := by decide +kernel
theorem dX6_written_107 : decode cX6_written 107 = .ok (.iadd, 1) := by decide +kernel
theorem dX6_written_108 : decode cX6_written 108 = .ok (.invokevirtual 208, 3) := by decide +kernel
theorem dX6_written_111 : decode cX6_written 111 = .ok (.putfield 42, 3) := by decide +kernel
theorem dX6_written_114 : decode cX6_written 114 = .ok (.aload_n 0, 1) := by decide +kernel
theorem dX6_written_115 : decode cX6_written 115 = .ok (.getfield 42, 3) := by decide +kernel
theorem dX6_written_118 : decode cX6_written 118 = .ok (.iconst (-1), 1) := by decide +kernel
theorem dX6_written_119 : decode cX6_written 119 = .ok (.if_icmp .eq 10, 3) := by decide +kernel
theorem dX6_written_122 : decode cX6_written 122 = .ok (.aload_n 0, 1) := by decide +kernel
theorem dX6_written_123 : decode cX6_written 123 = .ok (.iconst 5, 1) := by decide +kernel
theorem dX6_written_124 : decode cX6_written 124 = .ok (.putfield 39, 3) := by decide +kernel
theorem dX6_written_127 : decode cX6_written 127 = .ok (.iconst (-1), 1) := by decide +kernel
theorem dX6_written_128 : decode cX6_written 128 = .ok (.ireturn, 1) := by decide +kernel
theorem dX6_written_129 : decode cX6_written 129 = .ok (.aload_n 0, 1) := by decide +kernel
theorem dX6_written_130 : decode cX6_written 130 = .ok (.dup, 1) := by decide +kernel
theorem dX6_written_131 : decode cX6_written 131 = .ok (.getfield 195, 3) := by decide +kernel
theorem dX6_written_134 : decode cX6_written 134 = .ok (.iconst 1, 1) := by decide +kernel
theorem dX6_written_135 : decode cX6_written 135 = .ok (.iadd, 1) := by decide +kernel
theorem dX6_written_136 : decode cX6_written 136 = .ok (.putfield 195, 3) := by decide +kernel
theorem dX6_written_139 : decode cX6_written 139 = .ok (.aload_n 0, 1) := by decide +kernel
theorem dX6_written_140 : decode cX6_written 140 = .ok (.getfield 195, 3) := by decide +kernel
theorem dX6_written_143 : decode cX6_written 143 = .ok (.iconst 1, 1) := by decide +kernel
theorem dX6_written_144 : decode cX6_written 144 = .ok (.isub, 1) := by decide +kernel
theorem dX6_written_145 : decode cX6_written 145 = .ok (.ireturn, 1) := by decide +kernel
theorem dX6_slip_0 : decode cX6_slip 0 = .ok (.aload_n 0, 1) := by decide +kernel
theorem dX6_slip_1 : decode cX6_slip 1 = .ok (.iconst (-1), 1) := by decide +kernel
theorem dX6_slip_2 : decode cX6_slip 2 = .ok (.putfield 42, 3) := by decide +kernel
theorem dX6_slip_5 : decode cX6_slip 5 = .ok (.aload_n 0, 1) := by decide +kernel
theorem dX6_slip_6 : decode cX6_slip 6 = .ok (.aload_n 0, 1) := by decide +kernel
theorem dX6_slip_7 : decode cX6_slip 7 = .ok (.getfield 195, 3) := by decide +kernel
theorem dX6_slip_10 : decode cX6_slip 10 = .ok (.sipush 400, 3) := by decide +kernel
theorem dX6_slip_13 : decode cX6_slip 13 = .ok (.if_icmp .ne 7, 3) := by decide +kernel
theorem dX6_slip_16 : decode cX6_slip 16 = .ok (.iconst 1, 1) := by decide +kernel
theorem dX6_slip_17 : decode cX6_slip 17 = .ok (.goto 53, 3) := by decide +kernel
theorem dX6_slip_20 : decode cX6_slip 20 = .ok (.iload_n 1, 1) := by decide +kernel
theorem dX6_slip_21 : decode cX6_slip 21 = .ok (.iconst 1, 1) := by decide +kernel
theorem dX6_slip_22 : decode cX6_slip 22 = .ok (.bipush 19, 2) := by decide +kernel
theorem dX6_slip_24 : decode cX6_slip 24 = .ok (.invokestatic 96, 3) := by decide +kernel
theorem dX6_slip_27 : decode cX6_slip 27 = .ok (.ifCond .ne 7, 3) := by decide +kernel
theorem dX6_slip_30 : decode cX6_slip 30 = .ok (.iconst 2, 1) := by decide +kernel
theorem dX6_slip_31 : decode cX6_slip 31 = .ok (.goto 39, 3) := by decide +kernel
theorem dX6_slip_34 : decode cX6_slip 34 = .ok (.iload_n 2, 1) := by decide +kernel
theorem dX6_slip_35 : decode cX6_slip 35 = .ok (.iconst 0, 1) := by decide +kernel
theorem dX6_slip_36 : decode cX6_slip 36 = .ok (.aload_n 0, 1) := by decide +kernel
theorem dX6_slip_37 : decode cX6_slip 37 = .ok (.getfield 93, 3) := by decide +kernel
theorem dX6_slip_40 : decode cX6_slip 40 = .ok (.iconst 1, 1) := by decide +kernel
theorem dX6_slip_41 : decode cX6_slip 41 = .ok (.isub, 1) := by decide +kernel
theorem dX6_slip_42 : decode cX6_slip 42 = .ok (.invokestatic 96, 3) := by decide +kernel
theorem dX6_slip_45 : decode cX6_slip 45 = .ok (.ifCond .ne 7, 3) := by decide +kernel
theorem dX6_slip_48 : decode cX6_slip 48 = .ok (.iconst 3, 1) := by decide +kernel
theorem dX6_slip_49 : decode cX6_slip 49 = .ok (.goto 21, 3) := by decide +kernel
theorem dX6_slip_52 : decode cX6_slip 52 = .ok (.iload 7, 2) := by decide +kernel
theorem dX6_slip_54 : decode cX6_slip 54 = .ok (.iconst 0, 1) := by decide +kernel
theorem dX6_slip_55 : decode cX6_slip 55 = .ok (.aload_n 0, 1) := by decide +kernel
theorem dX6_slip_56 : decode cX6_slip 56 = .ok (.getfield 204, 3) := by decide +kernel
theorem dX6_slip_59 : decode cX6_slip 59 = .ok (.invokestatic 96, 3) := by decide +kernel
theorem dX6_slip_62 : decode cX6_slip 62 = .ok (.ifCond .ne 7, 3) := by decide +kernel
theorem dX6_slip_65 : decode cX6_slip 65 = .ok (.iconst 4, 1) := by decide +kernel
theorem dX6_slip_66 : decode cX6_slip 66 = .ok (.goto 4, 3) := by decide +kernel
theorem dX6_slip_69 : decode cX6_slip 69 = .ok (.iconst 0, 1) := by decide +kernel
theorem dX6_slip_70 : decode cX6_slip 70 = .ok (.putfield 39, 3) := by decide +kernel
theorem dX6_slip_73 : decode cX6_slip 73 = .ok (.aload_n 0, 1) := by decide +kernel
theorem dX6_slip_74 : decode cX6_slip 74 = .ok (.getfield 39, 3) := by decide +kernel
theorem dX6_slip_77 : decode cX6_slip 77 = .ok (.ifCond .eq 7, 3) := by decide +kernel
theorem dX6_slip_80 : decode cX6_slip 80 = .ok (.iconst (-1), 1) := by decide +kernel
theorem dX6_slip_81 : decode cX6_slip 81 = .ok (.goto 18, 3) := by decide +kernel
theorem dX6_slip_84 : decode cX6_slip 84 = .ok (.aload_n 0, 1) := by decide +kernel
theorem dX6_slip_85 : decode cX6_slip 85 = .ok (.iload_n 1, 1) := by decide +kernel
theorem dX6_slip_86 : decode cX6_slip 86 = .ok (.iload_n 2, 1) := by decide +kernel
theorem dX6_slip_87 : decode cX6_slip 87 = .ok (.iload_n 3, 1) := by decide +kernel
theorem dX6_slip_88 : decode cX6_slip 88 = .ok (.iload 4, 2) := by decide +kernel
theorem dX6_slip_90 : decode cX6_slip 90 = .ok (.iload 5, 2) := by decide +kernel
theorem dX6_slip_92 : decode cX6_slip 92 = .ok (.iload 6, 2) := by decide +kernel
theorem dX6_slip_94 : decode cX6_slip 94 = .ok (.iload 7, 2) := by decide +kernel
theorem dX6_slip_96 : decode cX6_slip 96 = .ok (.invokevirtual 212, 3) := by decide +kernel
theorem dX6_slip_99 : decode cX6_slip 99 = .ok (.ireturn, 1) := by decide +kernel
theorem dX6_fault_0 : decode cX6_fault 0 = .ok (.iload_n 1, 1) := by decide +kernel
theorem dX6_fault_1 : decode cX6_fault 1 = .ok (.ifCond .ne 10, 3) := by decide +kernel
theorem dX6_fault_4 : decode cX6_fault 4 = .ok (.aload_n 0, 1) := by decide +kernel
theorem dX6_fault_5 : decode cX6_fault 5 = .ok (.getfield 39, 3) := by decide +kernel
theorem dX6_fault_8 : decode cX6_fault 8 = .ok (.goto 16, 3) := by decide +kernel
theorem dX6_fault_11 : decode cX6_fault 11 = .ok (.iload_n 1, 1) := by decide +kernel
theorem dX6_fault_12 : decode cX6_fault 12 = .ok (.iconst 1, 1) := by decide +kernel
theorem dX6_fault_13 : decode cX6_fault 13 = .ok (.if_icmp .ne 10, 3) := by decide +kernel
theorem dX6_fault_16 : decode cX6_fault 16 = .ok (.aload_n 0, 1) := by decide +kernel
theorem dX6_fault_17 : decode cX6_fault 17 = .ok (.getfield 42, 3) := by decide +kernel
theorem dX6_fault_20 : decode cX6_fault 20 = .ok (.goto 4, 3) := by decide +kernel
theorem dX6_fault_23 : decode cX6_fault 23 = .ok (.iconst (-1), 1) := by decide +kernel
theorem dX6_fault_24 : decode cX6_fault 24 = .ok (.ireturn, 1) := by decide +kernel
theorem dX6_handing_0 : decode cX6_handing 0 = .ok (.iload_n 1, 1) := by decide +kernel
theorem dX6_handing_1 : decode cX6_handing 1 = .ok (.iconst 0, 1) := by decide +kernel
theorem dX6_handing_2 : decode cX6_handing 2 = .ok (.aload_n 0, 1) := by decide +kernel
theorem dX6_handing_3 : decode cX6_handing 3 = .ok (.getfield 93, 3) := by decide +kernel
theorem dX6_handing_6 : decode cX6_handing 6 = .ok (.iconst 1, 1) := by decide +kernel
theorem dX6_handing_7 : decode cX6_handing 7 = .ok (.isub, 1) := by decide +kernel
theorem dX6_handing_8 : decode cX6_handing 8 = .ok (.invokestatic 96, 3) := by decide +kernel
theorem dX6_handing_11 : decode cX6_handing 11 = .ok (.ifCond .eq 46, 3) := by decide +kernel
theorem dX6_handing_14 : decode cX6_handing 14 = .ok (.aload_n 0, 1) := by decide +kernel
theorem dX6_handing_15 : decode cX6_handing 15 = .ok (.iload_n 2, 1) := by decide +kernel
theorem dX6_handing_16 : decode cX6_handing 16 = .ok (.invokevirtual 143, 3) := by decide +kernel
theorem dX6_handing_19 : decode cX6_handing 19 = .ok (.ifCond .eq 38, 3) := by decide +kernel
theorem dX6_handing_22 : decode cX6_handing 22 = .ok (.aload_n 0, 1) := by decide +kernel
theorem dX6_handing_23 : decode cX6_handing 23 = .ok (.iload_n 3, 1) := by decide +kernel
theorem dX6_handing_24 : decode cX6_handing 24 = .ok (.invokevirtual 143, 3) := by decide +kernel
theorem dX6_handing_27 : decode cX6_handing 27 = .ok (.ifCond .eq 30, 3) := by decide +kernel
theorem dX6_handing_30 : decode cX6_handing 30 = .ok (.iload_n 2, 1) := by decide +kernel
theorem dX6_handing_31 : decode cX6_handing 31 = .ok (.iload_n 3, 1) := by decide +kernel
theorem dX6_handing_32 : decode cX6_handing 32 = .ok (.if_icmp .eq 25, 3) := by decide +kernel
theorem dX6_handing_35 : decode cX6_handing 35 = .ok (.iload 4, 2) := by decide +kernel
theorem dX6_handing_37 : decode cX6_handing 37 = .ok (.iconst 0, 1) := by decide +kernel
theorem dX6_handing_38 : decode cX6_handing 38 = .ok (.aload_n 0, 1) := by decide +kernel
theorem dX6_handing_39 : decode cX6_handing 39 = .ok (.getfield 204, 3) := by decide +kernel
theorem dX6_handing_42 : decode cX6_handing 42 = .ok (.invokestatic 96, 3) := by decide +kernel
theorem dX6_handing_45 : decode cX6_handing 45 = .ok (.ifCond .eq 12, 3) := by decide +kernel
theorem dX6_handing_48 : decode cX6_handing 48 = .ok (.aload_n 0, 1) := by decide +kernel
theorem dX6_handing_49 : decode cX6_handing 49 = .ok (.getfield 216, 3) := by decide +kernel
theorem dX6_handing_52 : decode cX6_handing 52 = .ok (.bipush 60, 2) := by decide +kernel
theorem dX6_handing_54 : decode cX6_handing 54 = .ok (.if_icmp .ne 5, 3) := by decide +kernel
theorem dX6_handing_57 : decode cX6_handing 57 = .ok (.iconst (-1), 1) := by decide +kernel
theorem dX6_handing_58 : decode cX6_handing 58 = .ok (.ireturn, 1) := by decide +kernel
theorem dX6_handing_59 : decode cX6_handing 59 = .ok (.bipush 7, 2) := by decide +kernel
theorem dX6_handing_61 : decode cX6_handing 61 = .ok (.aload_n 0, 1) := by decide +kernel
theorem dX6_handing_62 : decode cX6_handing 62 = .ok (.getfield 216, 3) := by decide +kernel
theorem dX6_handing_65 : decode cX6_handing 65 = .ok (.imul, 1) := by decide +kernel
theorem dX6_handing_66 : decode cX6_handing 66 = .ok (.istore 5, 2) := by decide +kernel
theorem dX6_handing_68 : decode cX6_handing 68 = .ok (.aload_n 0, 1) := by decide +kernel
theorem dX6_handing_69 : decode cX6_handing 69 = .ok (.getfield 36, 3) := by decide +kernel
theorem dX6_handing_72 : decode cX6_handing 72 = .ok (.iload 5, 2) := by decide +kernel
theorem dX6_handing_74 : decode cX6_handing 74 = .ok (.iload_n 1, 1) := by decide +kernel
theorem dX6_handing_75 : decode cX6_handing 75 = .ok (.iastore, 1) := by decide +kernel
theorem dX6_handing_76 : decode cX6_handing 76 = .ok (.aload_n 0, 1) := by decide +kernel
theorem dX6_handing_77 : decode cX6_handing 77 = .ok (.getfield 36, 3) := by decide +kernel
theorem dX6_handing_80 : decode cX6_handing 80 = .ok (.iload 5, 2) := by decide +kernel
theorem dX6_handing_82 : decode cX6_handing 82 = .ok (.iconst 1, 1) := by decide +kernel
theorem dX6_handing_83 : decode cX6_handing 83 = .ok (.iadd, 1) := by decide +kernel
theorem dX6_handing_84 : decode cX6_handing 84 = .ok (.iload_n 2, 1) := by decide +kernel
theorem dX6_handing_85 : decode cX6_handing 85 = .ok (.iastore, 1) := by decide +kernel
theorem dX6_handing_86 : decode cX6_handing 86 = .ok (.aload_n 0, 1) := by decide +kernel
theorem dX6_handing_87 : decode cX6_handing 87 = .ok (.getfield 36, 3) := by decide +kernel
theorem dX6_handing_90 : decode cX6_handing 90 = .ok (.iload 5, 2) := by decide +kernel
theorem dX6_handing_92 : decode cX6_handing 92 = .ok (.iconst 2, 1) := by decide +kernel
theorem dX6_handing_93 : decode cX6_handing 93 = .ok (.iadd, 1) := by decide +kernel
theorem dX6_handing_94 : decode cX6_handing 94 = .ok (.iload_n 3, 1) := by decide +kernel
theorem dX6_handing_95 : decode cX6_handing 95 = .ok (.iastore, 1) := by decide +kernel
theorem dX6_handing_96 : decode cX6_handing 96 = .ok (.aload_n 0, 1) := by decide +kernel
theorem dX6_handing_97 : decode cX6_handing 97 = .ok (.getfield 36, 3) := by decide +kernel
theorem dX6_handing_100 : decode cX6_handing 100 = .ok (.iload 5, 2) := by decide +kernel
theorem dX6_handing_102 : decode cX6_handing 102 = .ok (.iconst 3, 1) := by decide +kernel
theorem dX6_handing_103 : decode cX6_handing 103 = .ok (.iadd, 1) := by decide +kernel
theorem dX6_handing_104 : decode cX6_handing 104 = .ok (.iload 4, 2) := by decide +kernel
theorem dX6_handing_106 : decode cX6_handing 106 = .ok (.iastore, 1) := by decide +kernel
theorem dX6_handing_107 : decode cX6_handing 107 = .ok (.aload_n 0, 1) := by decide +kernel
theorem dX6_handing_108 : decode cX6_handing 108 = .ok (.getfield 36, 3) := by decide +kernel
theorem dX6_handing_111 : decode cX6_handing 111 = .ok (.iload 5, 2) := by decide +kernel
theorem dX6_handing_113 : decode cX6_handing 113 = .ok (.iconst 4, 1) := by decide +kernel
theorem dX6_handing_114 : decode cX6_handing 114 = .ok (.iadd, 1) := by decide +kernel
theorem dX6_handing_115 : decode cX6_handing 115 = .ok (.iconst (-1), 1) := by decide +kernel
theorem dX6_handing_116 : decode cX6_handing 116 = .ok (.iastore, 1) := by decide +kernel
theorem dX6_handing_117 : decode cX6_handing 117 = .ok (.aload_n 0, 1) := by decide +kernel
theorem dX6_handing_118 : decode cX6_handing 118 = .ok (.getfield 36, 3) := by decide +kernel
theorem dX6_handing_121 : decode cX6_handing 121 = .ok (.iload 5, 2) := by decide +kernel
theorem dX6_handing_123 : decode cX6_handing 123 = .ok (.iconst 5, 1) := by decide +kernel
theorem dX6_handing_124 : decode cX6_handing 124 = .ok (.iadd, 1) := by decide +kernel
theorem dX6_handing_125 : decode cX6_handing 125 = .ok (.iconst (-1), 1) := by decide +kernel
theorem dX6_handing_126 : decode cX6_handing 126 = .ok (.iastore, 1) := by decide +kernel
theorem dX6_handing_127 : decode cX6_handing 127 = .ok (.aload_n 0, 1) := by decide +kernel
theorem dX6_handing_128 : decode cX6_handing 128 = .ok (.getfield 36, 3) := by decide +kernel
theorem dX6_handing_131 : decode cX6_handing 131 = .ok (.iload 5, 2) := by decide +kernel
theorem dX6_handing_133 : decode cX6_handing 133 = .ok (.bipush 6, 2) := by decide +kernel
theorem dX6_handing_135 : decode cX6_handing 135 = .ok (.iadd, 1) := by decide +kernel
theorem dX6_handing_136 : decode cX6_handing 136 = .ok (.iconst 0, 1) := by decide +kernel
theorem dX6_handing_137 : decode cX6_handing 137 = .ok (.iastore, 1) := by decide +kernel
theorem dX6_handing_138 : decode cX6_handing 138 = .ok (.aload_n 0, 1) := by decide +kernel
theorem dX6_handing_139 : decode cX6_handing 139 = .ok (.dup, 1) := by decide +kernel
theorem dX6_handing_140 : decode cX6_handing 140 = .ok (.getfield 216, 3) := by decide +kernel
theorem dX6_handing_143 : decode cX6_handing 143 = .ok (.iconst 1, 1) := by decide +kernel
theorem dX6_handing_144 : decode cX6_handing 144 = .ok (.iadd, 1) := by decide +kernel
theorem dX6_handing_145 : decode cX6_handing 145 = .ok (.putfield 216, 3) := by decide +kernel
theorem dX6_handing_148 : decode cX6_handing 148 = .ok (.aload_n 0, 1) := by decide +kernel
theorem dX6_handing_149 : decode cX6_handing 149 = .ok (.getfield 216, 3) := by decide +kernel
theorem dX6_handing_152 : decode cX6_handing 152 = .ok (.iconst 1, 1) := by decide +kernel
theorem dX6_handing_153 : decode cX6_handing 153 = .ok (.isub, 1) := by decide +kernel
theorem dX6_handing_154 : decode cX6_handing 154 = .ok (.ireturn, 1) := by decide +kernel

theorem dX0_init_0 : decode cX0_init 0 = .ok (.aload_n 0, 1) := by decide +kernel
theorem dX0_init_1 : decode cX0_init 1 = .ok (.invokespecial 3, 3) := by decide +kernel
theorem dX0_init_4 : decode cX0_init 4 = .ok (.aload_n 0, 1) := by decide +kernel
theorem dX0_init_5 : decode cX0_init 5 = .ok (.iconst (-1), 1) := by decide +kernel
theorem dX0_init_6 : decode cX0_init 6 = .ok (.putfield 9, 3) := by decide +kernel
theorem dX0_init_9 : decode cX0_init 9 = .ok (.aload_n 0, 1) := by decide +kernel
theorem dX0_init_10 : decode cX0_init 10 = .ok (.iconst (-1), 1) := by decide +kernel
theorem dX0_init_11 : decode cX0_init 11 = .ok (.putfield 15, 3) := by decide +kernel
theorem dX0_init_14 : decode cX0_init 14 = .ok (.aload_n 0, 1) := by decide +kernel
theorem dX0_init_15 : decode cX0_init 15 = .ok (.iload_n 1, 1) := by decide +kernel
theorem dX0_init_16 : decode cX0_init 16 = .ok (.putfield 18, 3) := by decide +kernel
theorem dX0_init_19 : decode cX0_init 19 = .ok (.aload_n 0, 1) := by decide +kernel
theorem dX0_init_20 : decode cX0_init 20 = .ok (.iload_n 2, 1) := by decide +kernel
theorem dX0_init_21 : decode cX0_init 21 = .ok (.putfield 21, 3) := by decide +kernel
theorem dX0_init_24 : decode cX0_init 24 = .ok (.aload_n 0, 1) := by decide +kernel
theorem dX0_init_25 : decode cX0_init 25 = .ok (.iload_n 3, 1) := by decide +kernel
theorem dX0_init_26 : decode cX0_init 26 = .ok (.putfield 24, 3) := by decide +kernel
theorem dX0_init_29 : decode cX0_init 29 = .ok (.aload_n 0, 1) := by decide +kernel
theorem dX0_init_30 : decode cX0_init 30 = .ok (.iload 4, 2) := by decide +kernel
theorem dX0_init_32 : decode cX0_init 32 = .ok (.putfield 27, 3) := by decide +kernel
theorem dX0_init_35 : decode cX0_init 35 = .ok (.return_, 1) := by decide +kernel
theorem dX0_isBetween_0 : decode cX0_isBetween 0 = .ok (.iload_n 1, 1) := by decide +kernel
theorem dX0_isBetween_1 : decode cX0_isBetween 1 = .ok (.aload_n 0, 1) := by decide +kernel
theorem dX0_isBetween_2 : decode cX0_isBetween 2 = .ok (.getfield 21, 3) := by decide +kernel
theorem dX0_isBetween_5 : decode cX0_isBetween 5 = .ok (.if_icmp .eq 11, 3) := by decide +kernel
theorem dX0_isBetween_8 : decode cX0_isBetween 8 = .ok (.iload_n 1, 1) := by decide +kernel
theorem dX0_isBetween_9 : decode cX0_isBetween 9 = .ok (.aload_n 0, 1) := by decide +kernel
theorem dX0_isBetween_10 : decode cX0_isBetween 10 = .ok (.getfield 24, 3) := by decide +kernel
theorem dX0_isBetween_13 : decode cX0_isBetween 13 = .ok (.if_icmp .ne 7, 3) := by decide +kernel
theorem dX0_isBetween_16 : decode cX0_isBetween 16 = .ok (.iconst 1, 1) := by decide +kernel
theorem dX0_isBetween_17 : decode cX0_isBetween 17 = .ok (.goto 4, 3) := by decide +kernel
theorem dX0_isBetween_20 : decode cX0_isBetween 20 = .ok (.iconst 0, 1) := by decide +kernel
theorem dX0_isBetween_21 : decode cX0_isBetween 21 = .ok (.ireturn, 1) := by decide +kernel
theorem dX0_awaits_0 : decode cX0_awaits 0 = .ok (.aload_n 0, 1) := by decide +kernel
theorem dX0_awaits_1 : decode cX0_awaits 1 = .ok (.getfield 30, 3) := by decide +kernel
theorem dX0_awaits_4 : decode cX0_awaits 4 = .ok (.ifCond .ne 39, 3) := by decide +kernel
theorem dX0_awaits_7 : decode cX0_awaits 7 = .ok (.iload_n 1, 1) := by decide +kernel
theorem dX0_awaits_8 : decode cX0_awaits 8 = .ok (.aload_n 0, 1) := by decide +kernel
theorem dX0_awaits_9 : decode cX0_awaits 9 = .ok (.getfield 21, 3) := by decide +kernel
theorem dX0_awaits_12 : decode cX0_awaits 12 = .ok (.if_icmp .ne 11, 3) := by decide +kernel
theorem dX0_awaits_15 : decode cX0_awaits 15 = .ok (.aload_n 0, 1) := by decide +kernel
theorem dX0_awaits_16 : decode cX0_awaits 16 = .ok (.getfield 9, 3) := by decide +kernel
theorem dX0_awaits_19 : decode cX0_awaits 19 = .ok (.iconst (-1), 1) := by decide +kernel
theorem dX0_awaits_20 : decode cX0_awaits 20 = .ok (.if_icmp .eq 19, 3) := by decide +kernel
theorem dX0_awaits_23 : decode cX0_awaits 23 = .ok (.iload_n 1, 1) := by decide +kernel
theorem dX0_awaits_24 : decode cX0_awaits 24 = .ok (.aload_n 0, 1) := by decide +kernel
theorem dX0_awaits_25 : decode cX0_awaits 25 = .ok (.getfield 24, 3) := by decide +kernel
theorem dX0_awaits_28 : decode cX0_awaits 28 = .ok (.if_icmp .ne 15, 3) := by decide +kernel
theorem dX0_awaits_31 : decode cX0_awaits 31 = .ok (.aload_n 0, 1) := by decide +kernel
theorem dX0_awaits_32 : decode cX0_awaits 32 = .ok (.getfield 15, 3) := by decide +kernel
theorem dX0_awaits_35 : decode cX0_awaits 35 = .ok (.iconst (-1), 1) := by decide +kernel
theorem dX0_awaits_36 : decode cX0_awaits 36 = .ok (.if_icmp .ne 7, 3) := by decide +kernel
theorem dX0_awaits_39 : decode cX0_awaits 39 = .ok (.iconst 1, 1) := by decide +kernel
theorem dX0_awaits_40 : decode cX0_awaits 40 = .ok (.goto 4, 3) := by decide +kernel
theorem dX0_awaits_43 : decode cX0_awaits 43 = .ok (.iconst 0, 1) := by decide +kernel
theorem dX0_awaits_44 : decode cX0_awaits 44 = .ok (.ireturn, 1) := by decide +kernel
theorem dX0_setYes_0 : decode cX0_setYes 0 = .ok (.iload_n 1, 1) := by decide +kernel
theorem dX0_setYes_1 : decode cX0_setYes 1 = .ok (.aload_n 0, 1) := by decide +kernel
theorem dX0_setYes_2 : decode cX0_setYes 2 = .ok (.getfield 21, 3) := by decide +kernel
theorem dX0_setYes_5 : decode cX0_setYes 5 = .ok (.if_icmp .ne 11, 3) := by decide +kernel
theorem dX0_setYes_8 : decode cX0_setYes 8 = .ok (.aload_n 0, 1) := by decide +kernel
theorem dX0_setYes_9 : decode cX0_setYes 9 = .ok (.iload_n 2, 1) := by decide +kernel
theorem dX0_setYes_10 : decode cX0_setYes 10 = .ok (.putfield 9, 3) := by decide +kernel
theorem dX0_setYes_13 : decode cX0_setYes 13 = .ok (.goto 8, 3) := by decide +kernel
theorem dX0_setYes_16 : decode cX0_setYes 16 = .ok (.aload_n 0, 1) := by decide +kernel
theorem dX0_setYes_17 : decode cX0_setYes 17 = .ok (.iload_n 2, 1) := by decide +kernel
theorem dX0_setYes_18 : decode cX0_setYes 18 = .ok (.putfield 15, 3) := by decide +kernel
theorem dX0_setYes_21 : decode cX0_setYes 21 = .ok (.return_, 1) := by decide +kernel
theorem dX0_isAgreed_0 : decode cX0_isAgreed 0 = .ok (.aload_n 0, 1) := by decide +kernel
theorem dX0_isAgreed_1 : decode cX0_isAgreed 1 = .ok (.getfield 9, 3) := by decide +kernel
theorem dX0_isAgreed_4 : decode cX0_isAgreed 4 = .ok (.iconst (-1), 1) := by decide +kernel
theorem dX0_isAgreed_5 : decode cX0_isAgreed 5 = .ok (.if_icmp .eq 15, 3) := by decide +kernel
theorem dX0_isAgreed_8 : decode cX0_isAgreed 8 = .ok (.aload_n 0, 1) := by decide +kernel
theorem dX0_isAgreed_9 : decode cX0_isAgreed 9 = .ok (.getfield 15, 3) := by decide +kernel
theorem dX0_isAgreed_12 : decode cX0_isAgreed 12 = .ok (.iconst (-1), 1) := by decide +kernel
theorem dX0_isAgreed_13 : decode cX0_isAgreed 13 = .ok (.if_icmp .eq 7, 3) := by decide +kernel
theorem dX0_isAgreed_16 : decode cX0_isAgreed 16 = .ok (.iconst 1, 1) := by decide +kernel
theorem dX0_isAgreed_17 : decode cX0_isAgreed 17 = .ok (.goto 4, 3) := by decide +kernel
theorem dX0_isAgreed_20 : decode cX0_isAgreed 20 = .ok (.iconst 0, 1) := by decide +kernel
theorem dX0_isAgreed_21 : decode cX0_isAgreed 21 = .ok (.ireturn, 1) := by decide +kernel
theorem dX0_laterYes_0 : decode cX0_laterYes 0 = .ok (.aload_n 0, 1) := by decide +kernel
theorem dX0_laterYes_1 : decode cX0_laterYes 1 = .ok (.getfield 9, 3) := by decide +kernel
theorem dX0_laterYes_4 : decode cX0_laterYes 4 = .ok (.aload_n 0, 1) := by decide +kernel
theorem dX0_laterYes_5 : decode cX0_laterYes 5 = .ok (.getfield 15, 3) := by decide +kernel
theorem dX0_laterYes_8 : decode cX0_laterYes 8 = .ok (.invokestatic 34, 3) := by decide +kernel
theorem dX0_laterYes_11 : decode cX0_laterYes 11 = .ok (.ireturn, 1) := by decide +kernel
theorem dX0_isLate_0 : decode cX0_isLate 0 = .ok (.aload_n 0, 1) := by decide +kernel
theorem dX0_isLate_1 : decode cX0_isLate 1 = .ok (.invokevirtual 40, 3) := by decide +kernel
theorem dX0_isLate_4 : decode cX0_isLate 4 = .ok (.aload_n 0, 1) := by decide +kernel
theorem dX0_isLate_5 : decode cX0_isLate 5 = .ok (.getfield 27, 3) := by decide +kernel
theorem dX0_isLate_8 : decode cX0_isLate 8 = .ok (.isub, 1) := by decide +kernel
theorem dX0_isLate_9 : decode cX0_isLate 9 = .ok (.bipush 30, 2) := by decide +kernel
theorem dX0_isLate_11 : decode cX0_isLate 11 = .ok (.if_icmp .le 7, 3) := by decide +kernel
theorem dX0_isLate_14 : decode cX0_isLate 14 = .ok (.iconst 1, 1) := by decide +kernel
theorem dX0_isLate_15 : decode cX0_isLate 15 = .ok (.goto 4, 3) := by decide +kernel
theorem dX0_isLate_18 : decode cX0_isLate 18 = .ok (.iconst 0, 1) := by decide +kernel
theorem dX0_isLate_19 : decode cX0_isLate 19 = .ok (.ireturn, 1) := by decide +kernel
theorem dX1_init_0 : decode cX1_init 0 = .ok (.aload_n 0, 1) := by decide +kernel
theorem dX1_init_1 : decode cX1_init 1 = .ok (.invokespecial 3, 3) := by decide +kernel
theorem dX1_init_4 : decode cX1_init 4 = .ok (.aload_n 0, 1) := by decide +kernel
theorem dX1_init_5 : decode cX1_init 5 = .ok (.sipush 400, 3) := by decide +kernel
theorem dX1_init_8 : decode cX1_init 8 = .ok (.newarray .int, 2) := by decide +kernel
theorem dX1_init_10 : decode cX1_init 10 = .ok (.putfield 9, 3) := by decide +kernel
theorem dX1_init_13 : decode cX1_init 13 = .ok (.aload_n 0, 1) := by decide +kernel
theorem dX1_init_14 : decode cX1_init 14 = .ok (.aload_n 1, 1) := by decide +kernel
theorem dX1_init_15 : decode cX1_init 15 = .ok (.putfield 15, 3) := by decide +kernel
theorem dX1_init_18 : decode cX1_init 18 = .ok (.return_, 1) := by decide +kernel
theorem dX1_follow_0 : decode cX1_follow 0 = .ok (.aload_n 0, 1) := by decide +kernel
theorem dX1_follow_1 : decode cX1_follow 1 = .ok (.iconst 0, 1) := by decide +kernel
theorem dX1_follow_2 : decode cX1_follow 2 = .ok (.putfield 19, 3) := by decide +kernel
theorem dX1_follow_5 : decode cX1_follow 5 = .ok (.iload_n 1, 1) := by decide +kernel
theorem dX1_follow_6 : decode cX1_follow 6 = .ok (.istore_n 2, 1) := by decide +kernel
theorem dX1_follow_7 : decode cX1_follow 7 = .ok (.aload_n 0, 1) := by decide +kernel
theorem dX1_follow_8 : decode cX1_follow 8 = .ok (.getfield 15, 3) := by decide +kernel
theorem dX1_follow_11 : decode cX1_follow 11 = .ok (.getfield 23, 3) := by decide +kernel
theorem dX1_follow_14 : decode cX1_follow 14 = .ok (.iconst 1, 1) := by decide +kernel
theorem dX1_follow_15 : decode cX1_follow 15 = .ok (.isub, 1) := by decide +kernel
theorem dX1_follow_16 : decode cX1_follow 16 = .ok (.istore_n 3, 1) := by decide +kernel
theorem dX1_follow_17 : decode cX1_follow 17 = .ok (.iload_n 3, 1) := by decide +kernel
theorem dX1_follow_18 : decode cX1_follow 18 = .ok (.ifCond .lt 71, 3) := by decide +kernel
theorem dX1_follow_21 : decode cX1_follow 21 = .ok (.aload_n 0, 1) := by decide +kernel
theorem dX1_follow_22 : decode cX1_follow 22 = .ok (.getfield 15, 3) := by decide +kernel
theorem dX1_follow_25 : decode cX1_follow 25 = .ok (.iload_n 3, 1) := by decide +kernel
theorem dX1_follow_26 : decode cX1_follow 26 = .ok (.invokevirtual 28, 3) := by decide +kernel
theorem dX1_follow_29 : decode cX1_follow 29 = .ok (.istore 4, 2) := by decide +kernel
theorem dX1_follow_31 : decode cX1_follow 31 = .ok (.aload_n 0, 1) := by decide +kernel
theorem dX1_follow_32 : decode cX1_follow 32 = .ok (.getfield 15, 3) := by decide +kernel
theorem dX1_follow_35 : decode cX1_follow 35 = .ok (.iload 4, 2) := by decide +kernel
theorem dX1_follow_37 : decode cX1_follow 37 = .ok (.iload_n 2, 1) := by decide +kernel
theorem dX1_follow_38 : decode cX1_follow 38 = .ok (.invokevirtual 32, 3) := by decide +kernel
theorem dX1_follow_41 : decode cX1_follow 41 = .ok (.ifCond .eq 23, 3) := by decide +kernel
theorem dX1_follow_44 : decode cX1_follow 44 = .ok (.aload_n 0, 1) := by decide +kernel
theorem dX1_follow_45 : decode cX1_follow 45 = .ok (.iload 4, 2) := by decide +kernel
theorem dX1_follow_47 : decode cX1_follow 47 = .ok (.invokevirtual 36, 3) := by decide +kernel
theorem dX1_follow_50 : decode cX1_follow 50 = .ok (.aload_n 0, 1) := by decide +kernel
theorem dX1_follow_51 : decode cX1_follow 51 = .ok (.getfield 15, 3) := by decide +kernel
theorem dX1_follow_54 : decode cX1_follow 54 = .ok (.iload 4, 2) := by decide +kernel
theorem dX1_follow_56 : decode cX1_follow 56 = .ok (.iconst 1, 1) := by decide +kernel
theorem dX1_follow_57 : decode cX1_follow 57 = .ok (.invokevirtual 40, 3) := by decide +kernel
theorem dX1_follow_60 : decode cX1_follow 60 = .ok (.istore_n 2, 1) := by decide +kernel
theorem dX1_follow_61 : decode cX1_follow 61 = .ok (.goto 22, 3) := by decide +kernel
theorem dX1_follow_64 : decode cX1_follow 64 = .ok (.aload_n 0, 1) := by decide +kernel
theorem dX1_follow_65 : decode cX1_follow 65 = .ok (.getfield 15, 3) := by decide +kernel
theorem dX1_follow_68 : decode cX1_follow 68 = .ok (.iload 4, 2) := by decide +kernel
theorem dX1_follow_70 : decode cX1_follow 70 = .ok (.iload_n 2, 1) := by decide +kernel
theorem dX1_follow_71 : decode cX1_follow 71 = .ok (.invokevirtual 44, 3) := by decide +kernel
theorem dX1_follow_74 : decode cX1_follow 74 = .ok (.ifCond .eq 9, 3) := by decide +kernel
theorem dX1_follow_77 : decode cX1_follow 77 = .ok (.aload_n 0, 1) := by decide +kernel
theorem dX1_follow_78 : decode cX1_follow 78 = .ok (.iload 4, 2) := by decide +kernel
theorem dX1_follow_80 : decode cX1_follow 80 = .ok (.invokevirtual 36, 3) := by decide +kernel
theorem dX1_follow_83 : decode cX1_follow 83 = .ok (.iinc 3 (-1), 3) := by decide +kernel
theorem dX1_follow_86 : decode cX1_follow 86 = .ok (.goto (-69), 3) := by decide +kernel
theorem dX1_follow_89 : decode cX1_follow 89 = .ok (.return_, 1) := by decide +kernel
theorem dX1_append_0 : decode cX1_append 0 = .ok (.aload_n 0, 1) := by decide +kernel
theorem dX1_append_1 : decode cX1_append 1 = .ok (.getfield 19, 3) := by decide +kernel
theorem dX1_append_4 : decode cX1_append 4 = .ok (.sipush 400, 3) := by decide +kernel
theorem dX1_append_7 : decode cX1_append 7 = .ok (.if_icmp .ge 23, 3) := by decide +kernel
theorem dX1_append_10 : decode cX1_append 10 = .ok (.aload_n 0, 1) := by decide +kernel
theorem dX1_append_11 : decode cX1_append 11 = .ok (.getfield 9, 3) := by decide +kernel
theorem dX1_append_14 : decode cX1_append 14 = .ok (.aload_n 0, 1) := by decide +kernel
theorem dX1_append_15 : decode cX1_append 15 = .ok (.getfield 19, 3) := by decide +kernel
theorem dX1_append_18 : decode cX1_append 18 = .ok (.iload_n 1, 1) := by decide +kernel
theorem dX1_append_19 : decode cX1_append 19 = .ok (.iastore, 1) := by decide +kernel
theorem dX1_append_20 : decode cX1_append 20 = .ok (.aload_n 0, 1) := by decide +kernel
theorem dX1_append_21 : decode cX1_append 21 = .ok (.dup, 1) := by decide +kernel
theorem dX1_append_22 : decode cX1_append 22 = .ok (.getfield 19, 3) := by decide +kernel
theorem dX1_append_25 : decode cX1_append 25 = .ok (.iconst 1, 1) := by decide +kernel
theorem dX1_append_26 : decode cX1_append 26 = .ok (.iadd, 1) := by decide +kernel
theorem dX1_append_27 : decode cX1_append 27 = .ok (.putfield 19, 3) := by decide +kernel
theorem dX1_append_30 : decode cX1_append 30 = .ok (.return_, 1) := by decide +kernel
theorem dX1_link_0 : decode cX1_link 0 = .ok (.iload_n 1, 1) := by decide +kernel
theorem dX1_link_1 : decode cX1_link 1 = .ok (.ifCond .lt 27, 3) := by decide +kernel
theorem dX1_link_4 : decode cX1_link 4 = .ok (.iload_n 1, 1) := by decide +kernel
theorem dX1_link_5 : decode cX1_link 5 = .ok (.aload_n 0, 1) := by decide +kernel
theorem dX1_link_6 : decode cX1_link 6 = .ok (.getfield 19, 3) := by decide +kernel
theorem dX1_link_9 : decode cX1_link 9 = .ok (.if_icmp .ge 19, 3) := by decide +kernel
theorem dX1_link_12 : decode cX1_link 12 = .ok (.aload_n 0, 1) := by decide +kernel
theorem dX1_link_13 : decode cX1_link 13 = .ok (.getfield 9, 3) := by decide +kernel
theorem dX1_link_16 : decode cX1_link 16 = .ok (.aload_n 0, 1) := by decide +kernel
theorem dX1_link_17 : decode cX1_link 17 = .ok (.getfield 19, 3) := by decide +kernel
theorem dX1_link_20 : decode cX1_link 20 = .ok (.iconst 1, 1) := by decide +kernel
theorem dX1_link_21 : decode cX1_link 21 = .ok (.isub, 1) := by decide +kernel
theorem dX1_link_22 : decode cX1_link 22 = .ok (.iload_n 1, 1) := by decide +kernel
theorem dX1_link_23 : decode cX1_link 23 = .ok (.isub, 1) := by decide +kernel
theorem dX1_link_24 : decode cX1_link 24 = .ok (.iaload, 1) := by decide +kernel
theorem dX1_link_25 : decode cX1_link 25 = .ok (.goto 4, 3) := by decide +kernel
theorem dX1_link_28 : decode cX1_link 28 = .ok (.iconst (-1), 1) := by decide +kernel
theorem dX1_link_29 : decode cX1_link 29 = .ok (.ireturn, 1) := by decide +kernel
theorem dX1_endOfGap_0 : decode cX1_endOfGap 0 = .ok (.iload_n 1, 1) := by decide +kernel
theorem dX1_endOfGap_1 : decode cX1_endOfGap 1 = .ok (.istore_n 2, 1) := by decide +kernel
theorem dX1_endOfGap_2 : decode cX1_endOfGap 2 = .ok (.iconst 1, 1) := by decide +kernel
theorem dX1_endOfGap_3 : decode cX1_endOfGap 3 = .ok (.istore_n 3, 1) := by decide +kernel
theorem dX1_endOfGap_4 : decode cX1_endOfGap 4 = .ok (.iload_n 3, 1) := by decide +kernel
theorem dX1_endOfGap_5 : decode cX1_endOfGap 5 = .ok (.aload_n 0, 1) := by decide +kernel
theorem dX1_endOfGap_6 : decode cX1_endOfGap 6 = .ok (.getfield 19, 3) := by decide +kernel
theorem dX1_endOfGap_9 : decode cX1_endOfGap 9 = .ok (.if_icmp .ge 40, 3) := by decide +kernel
theorem dX1_endOfGap_12 : decode cX1_endOfGap 12 = .ok (.iload_n 2, 1) := by decide +kernel
theorem dX1_endOfGap_13 : decode cX1_endOfGap 13 = .ok (.ifCond .lt 36, 3) := by decide +kernel
theorem dX1_endOfGap_16 : decode cX1_endOfGap 16 = .ok (.aload_n 0, 1) := by decide +kernel
theorem dX1_endOfGap_17 : decode cX1_endOfGap 17 = .ok (.getfield 15, 3) := by decide +kernel
theorem dX1_endOfGap_20 : decode cX1_endOfGap 20 = .ok (.aload_n 0, 1) := by decide +kernel
theorem dX1_endOfGap_21 : decode cX1_endOfGap 21 = .ok (.iload_n 3, 1) := by decide +kernel
theorem dX1_endOfGap_22 : decode cX1_endOfGap 22 = .ok (.invokevirtual 47, 3) := by decide +kernel
theorem dX1_endOfGap_25 : decode cX1_endOfGap 25 = .ok (.iconst 0, 1) := by decide +kernel
theorem dX1_endOfGap_26 : decode cX1_endOfGap 26 = .ok (.invokevirtual 40, 3) := by decide +kernel
theorem dX1_endOfGap_29 : decode cX1_endOfGap 29 = .ok (.bipush 19, 2) := by decide +kernel
theorem dX1_endOfGap_31 : decode cX1_endOfGap 31 = .ok (.if_icmp .ne 12, 3) := by decide +kernel
theorem dX1_endOfGap_34 : decode cX1_endOfGap 34 = .ok (.iload_n 2, 1) := by decide +kernel
theorem dX1_endOfGap_35 : decode cX1_endOfGap 35 = .ok (.ifCond .ne 5, 3) := by decide +kernel
theorem dX1_endOfGap_38 : decode cX1_endOfGap 38 = .ok (.iload_n 3, 1) := by decide +kernel
theorem dX1_endOfGap_39 : decode cX1_endOfGap 39 = .ok (.ireturn, 1) := by decide +kernel
theorem dX1_endOfGap_40 : decode cX1_endOfGap 40 = .ok (.iinc 2 (-1), 3) := by decide +kernel
theorem dX1_endOfGap_43 : decode cX1_endOfGap 43 = .ok (.iinc 3 1, 3) := by decide +kernel
theorem dX1_endOfGap_46 : decode cX1_endOfGap 46 = .ok (.goto (-42), 3) := by decide +kernel
theorem dX1_endOfGap_49 : decode cX1_endOfGap 49 = .ok (.iconst (-1), 1) := by decide +kernel
theorem dX1_endOfGap_50 : decode cX1_endOfGap 50 = .ok (.ireturn, 1) := by decide +kernel
theorem dX2_init_0 : decode cX2_init 0 = .ok (.aload_n 0, 1) := by decide +kernel
theorem dX2_init_1 : decode cX2_init 1 = .ok (.invokespecial 3, 3) := by decide +kernel
theorem dX2_init_4 : decode cX2_init 4 = .ok (.aload_n 0, 1) := by decide +kernel
theorem dX2_init_5 : decode cX2_init 5 = .ok (.sipush 3200, 3) := by decide +kernel
theorem dX2_init_8 : decode cX2_init 8 = .ok (.newarray .int, 2) := by decide +kernel
theorem dX2_init_10 : decode cX2_init 10 = .ok (.putfield 9, 3) := by decide +kernel
theorem dX2_init_13 : decode cX2_init 13 = .ok (.aload_n 0, 1) := by decide +kernel
theorem dX2_init_14 : decode cX2_init 14 = .ok (.sipush 400, 3) := by decide +kernel
theorem dX2_init_17 : decode cX2_init 17 = .ok (.newarray .int, 2) := by decide +kernel
theorem dX2_init_19 : decode cX2_init 19 = .ok (.putfield 15, 3) := by decide +kernel
theorem dX2_init_22 : decode cX2_init 22 = .ok (.return_, 1) := by decide +kernel
theorem dX2_has_0 : decode cX2_has 0 = .ok (.iload_n 1, 1) := by decide +kernel
theorem dX2_has_1 : decode cX2_has 1 = .ok (.ifCond .lt 15, 3) := by decide +kernel
theorem dX2_has_4 : decode cX2_has 4 = .ok (.iload_n 1, 1) := by decide +kernel
theorem dX2_has_5 : decode cX2_has 5 = .ok (.aload_n 0, 1) := by decide +kernel
theorem dX2_has_6 : decode cX2_has 6 = .ok (.getfield 18, 3) := by decide +kernel
theorem dX2_has_9 : decode cX2_has 9 = .ok (.if_icmp .ge 7, 3) := by decide +kernel
theorem dX2_has_12 : decode cX2_has 12 = .ok (.iconst 1, 1) := by decide +kernel
theorem dX2_has_13 : decode cX2_has 13 = .ok (.goto 4, 3) := by decide +kernel
theorem dX2_has_16 : decode cX2_has 16 = .ok (.iconst 0, 1) := by decide +kernel
theorem dX2_has_17 : decode cX2_has 17 = .ok (.ireturn, 1) := by decide +kernel
theorem dX2_cell_0 : decode cX2_cell 0 = .ok (.aload_n 0, 1) := by decide +kernel
theorem dX2_cell_1 : decode cX2_cell 1 = .ok (.iload_n 1, 1) := by decide +kernel
theorem dX2_cell_2 : decode cX2_cell 2 = .ok (.invokevirtual 22, 3) := by decide +kernel
theorem dX2_cell_5 : decode cX2_cell 5 = .ok (.ifCond .eq 13, 3) := by decide +kernel
theorem dX2_cell_8 : decode cX2_cell 8 = .ok (.iload_n 2, 1) := by decide +kernel
theorem dX2_cell_9 : decode cX2_cell 9 = .ok (.ifCond .lt 9, 3) := by decide +kernel
theorem dX2_cell_12 : decode cX2_cell 12 = .ok (.iload_n 2, 1) := by decide +kernel
theorem dX2_cell_13 : decode cX2_cell 13 = .ok (.bipush 8, 2) := by decide +kernel
theorem dX2_cell_15 : decode cX2_cell 15 = .ok (.if_icmp .lt 5, 3) := by decide +kernel
theorem dX2_cell_18 : decode cX2_cell 18 = .ok (.iconst (-1), 1) := by decide +kernel
theorem dX2_cell_19 : decode cX2_cell 19 = .ok (.ireturn, 1) := by decide +kernel
theorem dX2_cell_20 : decode cX2_cell 20 = .ok (.aload_n 0, 1) := by decide +kernel
theorem dX2_cell_21 : decode cX2_cell 21 = .ok (.getfield 9, 3) := by decide +kernel
theorem dX2_cell_24 : decode cX2_cell 24 = .ok (.iload_n 1, 1) := by decide +kernel
theorem dX2_cell_25 : decode cX2_cell 25 = .ok (.bipush 8, 2) := by decide +kernel
theorem dX2_cell_27 : decode cX2_cell 27 = .ok (.imul, 1) := by decide +kernel
theorem dX2_cell_28 : decode cX2_cell 28 = .ok (.iload_n 2, 1) := by decide +kernel
theorem dX2_cell_29 : decode cX2_cell 29 = .ok (.iadd, 1) := by decide +kernel
theorem dX2_cell_30 : decode cX2_cell 30 = .ok (.iaload, 1) := by decide +kernel
theorem dX2_cell_31 : decode cX2_cell 31 = .ok (.ireturn, 1) := by decide +kernel
theorem dX2_inOrder_0 : decode cX2_inOrder 0 = .ok (.aload_n 0, 1) := by decide +kernel
theorem dX2_inOrder_1 : decode cX2_inOrder 1 = .ok (.iload_n 1, 1) := by decide +kernel
theorem dX2_inOrder_2 : decode cX2_inOrder 2 = .ok (.invokevirtual 22, 3) := by decide +kernel
theorem dX2_inOrder_5 : decode cX2_inOrder 5 = .ok (.ifCond .eq 12, 3) := by decide +kernel
theorem dX2_inOrder_8 : decode cX2_inOrder 8 = .ok (.aload_n 0, 1) := by decide +kernel
theorem dX2_inOrder_9 : decode cX2_inOrder 9 = .ok (.getfield 15, 3) := by decide +kernel
theorem dX2_inOrder_12 : decode cX2_inOrder 12 = .ok (.iload_n 1, 1) := by decide +kernel
theorem dX2_inOrder_13 : decode cX2_inOrder 13 = .ok (.iaload, 1) := by decide +kernel
theorem dX2_inOrder_14 : decode cX2_inOrder 14 = .ok (.goto 4, 3) := by decide +kernel
theorem dX2_inOrder_17 : decode cX2_inOrder 17 = .ok (.iconst (-1), 1) := by decide +kernel
theorem dX2_inOrder_18 : decode cX2_inOrder 18 = .ok (.ireturn, 1) := by decide +kernel
theorem dX2_add_0 : decode cX2_add 0 = .ok (.aload_n 0, 1) := by decide +kernel
theorem dX2_add_1 : decode cX2_add 1 = .ok (.getfield 18, 3) := by decide +kernel
theorem dX2_add_4 : decode cX2_add 4 = .ok (.sipush 400, 3) := by decide +kernel
theorem dX2_add_7 : decode cX2_add 7 = .ok (.if_icmp .ge 10, 3) := by decide +kernel
theorem dX2_add_10 : decode cX2_add 10 = .ok (.aload_n 1, 1) := by decide +kernel
theorem dX2_add_11 : decode cX2_add 11 = .ok (.arraylength, 1) := by decide +kernel
theorem dX2_add_12 : decode cX2_add 12 = .ok (.bipush 8, 2) := by decide +kernel
theorem dX2_add_14 : decode cX2_add 14 = .ok (.if_icmp .ge 4, 3) := by decide +kernel
theorem dX2_add_17 : decode cX2_add 17 = .ok (.return_, 1) := by decide +kernel
theorem dX2_add_18 : decode cX2_add 18 = .ok (.aload_n 1, 1) := by decide +kernel
theorem dX2_add_19 : decode cX2_add 19 = .ok (.iconst 0, 1) := by decide +kernel
theorem dX2_add_20 : decode cX2_add 20 = .ok (.aload_n 0, 1) := by decide +kernel
theorem dX2_add_21 : decode cX2_add 21 = .ok (.getfield 9, 3) := by decide +kernel
theorem dX2_add_24 : decode cX2_add 24 = .ok (.aload_n 0, 1) := by decide +kernel
theorem dX2_add_25 : decode cX2_add 25 = .ok (.getfield 18, 3) := by decide +kernel
theorem dX2_add_28 : decode cX2_add 28 = .ok (.bipush 8, 2) := by decide +kernel
theorem dX2_add_30 : decode cX2_add 30 = .ok (.imul, 1) := by decide +kernel
theorem dX2_add_31 : decode cX2_add 31 = .ok (.bipush 8, 2) := by decide +kernel
theorem dX2_add_33 : decode cX2_add 33 = .ok (.invokestatic 26, 3) := by decide +kernel
theorem dX2_add_36 : decode cX2_add 36 = .ok (.aload_n 0, 1) := by decide +kernel
theorem dX2_add_37 : decode cX2_add 37 = .ok (.dup, 1) := by decide +kernel
theorem dX2_add_38 : decode cX2_add 38 = .ok (.getfield 18, 3) := by decide +kernel
theorem dX2_add_41 : decode cX2_add 41 = .ok (.iconst 1, 1) := by decide +kernel
theorem dX2_add_42 : decode cX2_add 42 = .ok (.iadd, 1) := by decide +kernel
theorem dX2_add_43 : decode cX2_add 43 = .ok (.putfield 18, 3) := by decide +kernel
theorem dX2_add_46 : decode cX2_add 46 = .ok (.aload_n 0, 1) := by decide +kernel
theorem dX2_add_47 : decode cX2_add 47 = .ok (.aload_n 0, 1) := by decide +kernel
theorem dX2_add_48 : decode cX2_add 48 = .ok (.getfield 18, 3) := by decide +kernel
theorem dX2_add_51 : decode cX2_add 51 = .ok (.iconst 1, 1) := by decide +kernel
theorem dX2_add_52 : decode cX2_add 52 = .ok (.isub, 1) := by decide +kernel
theorem dX2_add_53 : decode cX2_add 53 = .ok (.invokevirtual 32, 3) := by decide +kernel
theorem dX2_add_56 : decode cX2_add 56 = .ok (.return_, 1) := by decide +kernel
theorem dX2_dropLast_0 : decode cX2_dropLast 0 = .ok (.aload_n 0, 1) := by decide +kernel
theorem dX2_dropLast_1 : decode cX2_dropLast 1 = .ok (.getfield 18, 3) := by decide +kernel
theorem dX2_dropLast_4 : decode cX2_dropLast 4 = .ok (.ifCond .gt 4, 3) := by decide +kernel
theorem dX2_dropLast_7 : decode cX2_dropLast 7 = .ok (.return_, 1) := by decide +kernel
theorem dX2_dropLast_8 : decode cX2_dropLast 8 = .ok (.aload_n 0, 1) := by decide +kernel
theorem dX2_dropLast_9 : decode cX2_dropLast 9 = .ok (.dup, 1) := by decide +kernel
theorem dX2_dropLast_10 : decode cX2_dropLast 10 = .ok (.getfield 18, 3) := by decide +kernel
theorem dX2_dropLast_13 : decode cX2_dropLast 13 = .ok (.iconst 1, 1) := by decide +kernel
theorem dX2_dropLast_14 : decode cX2_dropLast 14 = .ok (.isub, 1) := by decide +kernel
theorem dX2_dropLast_15 : decode cX2_dropLast 15 = .ok (.putfield 18, 3) := by decide +kernel
theorem dX2_dropLast_18 : decode cX2_dropLast 18 = .ok (.iconst 0, 1) := by decide +kernel
theorem dX2_dropLast_19 : decode cX2_dropLast 19 = .ok (.istore_n 1, 1) := by decide +kernel
theorem dX2_dropLast_20 : decode cX2_dropLast 20 = .ok (.iconst 0, 1) := by decide +kernel
theorem dX2_dropLast_21 : decode cX2_dropLast 21 = .ok (.istore_n 2, 1) := by decide +kernel
theorem dX2_dropLast_22 : decode cX2_dropLast 22 = .ok (.iload_n 2, 1) := by decide +kernel
theorem dX2_dropLast_23 : decode cX2_dropLast 23 = .ok (.aload_n 0, 1) := by decide +kernel
theorem dX2_dropLast_24 : decode cX2_dropLast 24 = .ok (.getfield 18, 3) := by decide +kernel
theorem dX2_dropLast_27 : decode cX2_dropLast 27 = .ok (.if_icmp .ge 50, 3) := by decide +kernel
theorem dX2_dropLast_30 : decode cX2_dropLast 30 = .ok (.iload_n 1, 1) := by decide +kernel
theorem dX2_dropLast_31 : decode cX2_dropLast 31 = .ok (.ifCond .ne 16, 3) := by decide +kernel
theorem dX2_dropLast_34 : decode cX2_dropLast 34 = .ok (.aload_n 0, 1) := by decide +kernel
theorem dX2_dropLast_35 : decode cX2_dropLast 35 = .ok (.getfield 15, 3) := by decide +kernel
theorem dX2_dropLast_38 : decode cX2_dropLast 38 = .ok (.iload_n 2, 1) := by decide +kernel
theorem dX2_dropLast_39 : decode cX2_dropLast 39 = .ok (.iaload, 1) := by decide +kernel
theorem dX2_dropLast_40 : decode cX2_dropLast 40 = .ok (.aload_n 0, 1) := by decide +kernel
theorem dX2_dropLast_41 : decode cX2_dropLast 41 = .ok (.getfield 18, 3) := by decide +kernel
theorem dX2_dropLast_44 : decode cX2_dropLast 44 = .ok (.if_icmp .ne 7, 3) := by decide +kernel
theorem dX2_dropLast_47 : decode cX2_dropLast 47 = .ok (.iconst 1, 1) := by decide +kernel
theorem dX2_dropLast_48 : decode cX2_dropLast 48 = .ok (.goto 4, 3) := by decide +kernel
theorem dX2_dropLast_51 : decode cX2_dropLast 51 = .ok (.iconst 0, 1) := by decide +kernel
theorem dX2_dropLast_52 : decode cX2_dropLast 52 = .ok (.istore_n 1, 1) := by decide +kernel
theorem dX2_dropLast_53 : decode cX2_dropLast 53 = .ok (.iload_n 1, 1) := by decide +kernel
theorem dX2_dropLast_54 : decode cX2_dropLast 54 = .ok (.ifCond .eq 17, 3) := by decide +kernel
theorem dX2_dropLast_57 : decode cX2_dropLast 57 = .ok (.aload_n 0, 1) := by decide +kernel
theorem dX2_dropLast_58 : decode cX2_dropLast 58 = .ok (.getfield 15, 3) := by decide +kernel
theorem dX2_dropLast_61 : decode cX2_dropLast 61 = .ok (.iload_n 2, 1) := by decide +kernel
theorem dX2_dropLast_62 : decode cX2_dropLast 62 = .ok (.aload_n 0, 1) := by decide +kernel
theorem dX2_dropLast_63 : decode cX2_dropLast 63 = .ok (.getfield 15, 3) := by decide +kernel
theorem dX2_dropLast_66 : decode cX2_dropLast 66 = .ok (.iload_n 2, 1) := by decide +kernel
theorem dX2_dropLast_67 : decode cX2_dropLast 67 = .ok (.iconst 1, 1) := by decide +kernel
theorem dX2_dropLast_68 : decode cX2_dropLast 68 = .ok (.iadd, 1) := by decide +kernel
theorem dX2_dropLast_69 : decode cX2_dropLast 69 = .ok (.iaload, 1) := by decide +kernel
theorem dX2_dropLast_70 : decode cX2_dropLast 70 = .ok (.iastore, 1) := by decide +kernel
theorem dX2_dropLast_71 : decode cX2_dropLast 71 = .ok (.iinc 2 1, 3) := by decide +kernel
theorem dX2_dropLast_74 : decode cX2_dropLast 74 = .ok (.goto (-52), 3) := by decide +kernel
theorem dX2_dropLast_77 : decode cX2_dropLast 77 = .ok (.return_, 1) := by decide +kernel
theorem dX2_putInOrder_0 : decode cX2_putInOrder 0 = .ok (.aload_n 0, 1) := by decide +kernel
theorem dX2_putInOrder_1 : decode cX2_putInOrder 1 = .ok (.iload_n 1, 1) := by decide +kernel
theorem dX2_putInOrder_2 : decode cX2_putInOrder 2 = .ok (.invokevirtual 22, 3) := by decide +kernel
theorem dX2_putInOrder_5 : decode cX2_putInOrder 5 = .ok (.ifCond .ne 4, 3) := by decide +kernel
theorem dX2_putInOrder_8 : decode cX2_putInOrder 8 = .ok (.return_, 1) := by decide +kernel
theorem dX2_putInOrder_9 : decode cX2_putInOrder 9 = .ok (.aload_n 0, 1) := by decide +kernel
theorem dX2_putInOrder_10 : decode cX2_putInOrder 10 = .ok (.iload_n 1, 1) := by decide +kernel
theorem dX2_putInOrder_11 : decode cX2_putInOrder 11 = .ok (.bipush 6, 2) := by decide +kernel
theorem dX2_putInOrder_13 : decode cX2_putInOrder 13 = .ok (.invokevirtual 36, 3) := by decide +kernel
theorem dX2_putInOrder_16 : decode cX2_putInOrder 16 = .ok (.istore_n 2, 1) := by decide +kernel
theorem dX2_putInOrder_17 : decode cX2_putInOrder 17 = .ok (.iload_n 1, 1) := by decide +kernel
theorem dX2_putInOrder_18 : decode cX2_putInOrder 18 = .ok (.istore_n 3, 1) := by decide +kernel
theorem dX2_putInOrder_19 : decode cX2_putInOrder 19 = .ok (.iload_n 3, 1) := by decide +kernel
theorem dX2_putInOrder_20 : decode cX2_putInOrder 20 = .ok (.ifCond .le 41, 3) := by decide +kernel
theorem dX2_putInOrder_23 : decode cX2_putInOrder 23 = .ok (.aload_n 0, 1) := by decide +kernel
theorem dX2_putInOrder_24 : decode cX2_putInOrder 24 = .ok (.aload_n 0, 1) := by decide +kernel
theorem dX2_putInOrder_25 : decode cX2_putInOrder 25 = .ok (.getfield 15, 3) := by decide +kernel
theorem dX2_putInOrder_28 : decode cX2_putInOrder 28 = .ok (.iload_n 3, 1) := by decide +kernel
theorem dX2_putInOrder_29 : decode cX2_putInOrder 29 = .ok (.iconst 1, 1) := by decide +kernel
theorem dX2_putInOrder_30 : decode cX2_putInOrder 30 = .ok (.isub, 1) := by decide +kernel
theorem dX2_putInOrder_31 : decode cX2_putInOrder 31 = .ok (.iaload, 1) := by decide +kernel
theorem dX2_putInOrder_32 : decode cX2_putInOrder 32 = .ok (.bipush 6, 2) := by decide +kernel
theorem dX2_putInOrder_34 : decode cX2_putInOrder 34 = .ok (.invokevirtual 36, 3) := by decide +kernel
theorem dX2_putInOrder_37 : decode cX2_putInOrder 37 = .ok (.iload_n 2, 1) := by decide +kernel
theorem dX2_putInOrder_38 : decode cX2_putInOrder 38 = .ok (.if_icmp .le 23, 3) := by decide +kernel
theorem dX2_putInOrder_41 : decode cX2_putInOrder 41 = .ok (.aload_n 0, 1) := by decide +kernel
theorem dX2_putInOrder_42 : decode cX2_putInOrder 42 = .ok (.getfield 15, 3) := by decide +kernel
theorem dX2_putInOrder_45 : decode cX2_putInOrder 45 = .ok (.iload_n 3, 1) := by decide +kernel
theorem dX2_putInOrder_46 : decode cX2_putInOrder 46 = .ok (.aload_n 0, 1) := by decide +kernel
theorem dX2_putInOrder_47 : decode cX2_putInOrder 47 = .ok (.getfield 15, 3) := by decide +kernel
theorem dX2_putInOrder_50 : decode cX2_putInOrder 50 = .ok (.iload_n 3, 1) := by decide +kernel
theorem dX2_putInOrder_51 : decode cX2_putInOrder 51 = .ok (.iconst 1, 1) := by decide +kernel
theorem dX2_putInOrder_52 : decode cX2_putInOrder 52 = .ok (.isub, 1) := by decide +kernel
theorem dX2_putInOrder_53 : decode cX2_putInOrder 53 = .ok (.iaload, 1) := by decide +kernel
theorem dX2_putInOrder_54 : decode cX2_putInOrder 54 = .ok (.iastore, 1) := by decide +kernel
theorem dX2_putInOrder_55 : decode cX2_putInOrder 55 = .ok (.iinc 3 (-1), 3) := by decide +kernel
theorem dX2_putInOrder_58 : decode cX2_putInOrder 58 = .ok (.goto (-39), 3) := by decide +kernel
theorem dX2_putInOrder_61 : decode cX2_putInOrder 61 = .ok (.aload_n 0, 1) := by decide +kernel
theorem dX2_putInOrder_62 : decode cX2_putInOrder 62 = .ok (.getfield 15, 3) := by decide +kernel
theorem dX2_putInOrder_65 : decode cX2_putInOrder 65 = .ok (.iload_n 3, 1) := by decide +kernel
theorem dX2_putInOrder_66 : decode cX2_putInOrder 66 = .ok (.iload_n 1, 1) := by decide +kernel
theorem dX2_putInOrder_67 : decode cX2_putInOrder 67 = .ok (.iastore, 1) := by decide +kernel
theorem dX2_putInOrder_68 : decode cX2_putInOrder 68 = .ok (.return_, 1) := by decide +kernel
theorem dX2_alterCell_0 : decode cX2_alterCell 0 = .ok (.aload_n 0, 1) := by decide +kernel
theorem dX2_alterCell_1 : decode cX2_alterCell 1 = .ok (.iload_n 1, 1) := by decide +kernel
theorem dX2_alterCell_2 : decode cX2_alterCell 2 = .ok (.invokevirtual 22, 3) := by decide +kernel
theorem dX2_alterCell_5 : decode cX2_alterCell 5 = .ok (.ifCond .eq 13, 3) := by decide +kernel
theorem dX2_alterCell_8 : decode cX2_alterCell 8 = .ok (.iload_n 2, 1) := by decide +kernel
theorem dX2_alterCell_9 : decode cX2_alterCell 9 = .ok (.ifCond .lt 9, 3) := by decide +kernel
theorem dX2_alterCell_12 : decode cX2_alterCell 12 = .ok (.iload_n 2, 1) := by decide +kernel
theorem dX2_alterCell_13 : decode cX2_alterCell 13 = .ok (.bipush 8, 2) := by decide +kernel
theorem dX2_alterCell_15 : decode cX2_alterCell 15 = .ok (.if_icmp .lt 4, 3) := by decide +kernel
theorem dX2_alterCell_18 : decode cX2_alterCell 18 = .ok (.return_, 1) := by decide +kernel
theorem dX2_alterCell_19 : decode cX2_alterCell 19 = .ok (.aload_n 0, 1) := by decide +kernel
theorem dX2_alterCell_20 : decode cX2_alterCell 20 = .ok (.getfield 9, 3) := by decide +kernel
theorem dX2_alterCell_23 : decode cX2_alterCell 23 = .ok (.iload_n 1, 1) := by decide +kernel
theorem dX2_alterCell_24 : decode cX2_alterCell 24 = .ok (.bipush 8, 2) := by decide +kernel
theorem dX2_alterCell_26 : decode cX2_alterCell 26 = .ok (.imul, 1) := by decide +kernel
theorem dX2_alterCell_27 : decode cX2_alterCell 27 = .ok (.iload_n 2, 1) := by decide +kernel
theorem dX2_alterCell_28 : decode cX2_alterCell 28 = .ok (.iadd, 1) := by decide +kernel
theorem dX2_alterCell_29 : decode cX2_alterCell 29 = .ok (.iload_n 3, 1) := by decide +kernel
theorem dX2_alterCell_30 : decode cX2_alterCell 30 = .ok (.iastore, 1) := by decide +kernel
theorem dX2_alterCell_31 : decode cX2_alterCell 31 = .ok (.iload_n 2, 1) := by decide +kernel
theorem dX2_alterCell_32 : decode cX2_alterCell 32 = .ok (.bipush 6, 2) := by decide +kernel
theorem dX2_alterCell_34 : decode cX2_alterCell 34 = .ok (.if_icmp .ne 27, 3) := by decide +kernel
theorem dX2_alterCell_37 : decode cX2_alterCell 37 = .ok (.iconst 0, 1) := by decide +kernel
theorem dX2_alterCell_38 : decode cX2_alterCell 38 = .ok (.istore 4, 2) := by decide +kernel
theorem dX2_alterCell_40 : decode cX2_alterCell 40 = .ok (.iload 4, 2) := by decide +kernel
theorem dX2_alterCell_42 : decode cX2_alterCell 42 = .ok (.aload_n 0, 1) := by decide +kernel
theorem dX2_alterCell_43 : decode cX2_alterCell 43 = .ok (.getfield 18, 3) := by decide +kernel
theorem dX2_alterCell_46 : decode cX2_alterCell 46 = .ok (.if_icmp .ge 15, 3) := by decide +kernel
theorem dX2_alterCell_49 : decode cX2_alterCell 49 = .ok (.aload_n 0, 1) := by decide +kernel
theorem dX2_alterCell_50 : decode cX2_alterCell 50 = .ok (.iload 4, 2) := by decide +kernel
theorem dX2_alterCell_52 : decode cX2_alterCell 52 = .ok (.invokevirtual 32, 3) := by decide +kernel
theorem dX2_alterCell_55 : decode cX2_alterCell 55 = .ok (.iinc 4 1, 3) := by decide +kernel
theorem dX2_alterCell_58 : decode cX2_alterCell 58 = .ok (.goto (-18), 3) := by decide +kernel
theorem dX2_alterCell_61 : decode cX2_alterCell 61 = .ok (.return_, 1) := by decide +kernel
theorem dX2_copyFrom_0 : decode cX2_copyFrom 0 = .ok (.aload_n 0, 1) := by decide +kernel
theorem dX2_copyFrom_1 : decode cX2_copyFrom 1 = .ok (.aload_n 1, 1) := by decide +kernel
theorem dX2_copyFrom_2 : decode cX2_copyFrom 2 = .ok (.getfield 18, 3) := by decide +kernel
theorem dX2_copyFrom_5 : decode cX2_copyFrom 5 = .ok (.putfield 18, 3) := by decide +kernel
theorem dX2_copyFrom_8 : decode cX2_copyFrom 8 = .ok (.aload_n 1, 1) := by decide +kernel
theorem dX2_copyFrom_9 : decode cX2_copyFrom 9 = .ok (.getfield 9, 3) := by decide +kernel
theorem dX2_copyFrom_12 : decode cX2_copyFrom 12 = .ok (.iconst 0, 1) := by decide +kernel
theorem dX2_copyFrom_13 : decode cX2_copyFrom 13 = .ok (.aload_n 0, 1) := by decide +kernel
theorem dX2_copyFrom_14 : decode cX2_copyFrom 14 = .ok (.getfield 9, 3) := by decide +kernel
theorem dX2_copyFrom_17 : decode cX2_copyFrom 17 = .ok (.iconst 0, 1) := by decide +kernel
theorem dX2_copyFrom_18 : decode cX2_copyFrom 18 = .ok (.aload_n 0, 1) := by decide +kernel
theorem dX2_copyFrom_19 : decode cX2_copyFrom 19 = .ok (.getfield 18, 3) := by decide +kernel
theorem dX2_copyFrom_22 : decode cX2_copyFrom 22 = .ok (.bipush 8, 2) := by decide +kernel
theorem dX2_copyFrom_24 : decode cX2_copyFrom 24 = .ok (.imul, 1) := by decide +kernel
theorem dX2_copyFrom_25 : decode cX2_copyFrom 25 = .ok (.invokestatic 26, 3) := by decide +kernel
theorem dX2_copyFrom_28 : decode cX2_copyFrom 28 = .ok (.aload_n 1, 1) := by decide +kernel
theorem dX2_copyFrom_29 : decode cX2_copyFrom 29 = .ok (.getfield 15, 3) := by decide +kernel
theorem dX2_copyFrom_32 : decode cX2_copyFrom 32 = .ok (.iconst 0, 1) := by decide +kernel
theorem dX2_copyFrom_33 : decode cX2_copyFrom 33 = .ok (.aload_n 0, 1) := by decide +kernel
theorem dX2_copyFrom_34 : decode cX2_copyFrom 34 = .ok (.getfield 15, 3) := by decide +kernel
theorem dX2_copyFrom_37 : decode cX2_copyFrom 37 = .ok (.iconst 0, 1) := by decide +kernel
theorem dX2_copyFrom_38 : decode cX2_copyFrom 38 = .ok (.aload_n 0, 1) := by decide +kernel
theorem dX2_copyFrom_39 : decode cX2_copyFrom 39 = .ok (.getfield 18, 3) := by decide +kernel
theorem dX2_copyFrom_42 : decode cX2_copyFrom 42 = .ok (.invokestatic 26, 3) := by decide +kernel
theorem dX2_copyFrom_45 : decode cX2_copyFrom 45 = .ok (.return_, 1) := by decide +kernel
theorem dX2_isLate_0 : decode cX2_isLate 0 = .ok (.iconst 0, 1) := by decide +kernel
theorem dX2_isLate_1 : decode cX2_isLate 1 = .ok (.istore_n 2, 1) := by decide +kernel
theorem dX2_isLate_2 : decode cX2_isLate 2 = .ok (.iload_n 2, 1) := by decide +kernel
theorem dX2_isLate_3 : decode cX2_isLate 3 = .ok (.iload_n 1, 1) := by decide +kernel
theorem dX2_isLate_4 : decode cX2_isLate 4 = .ok (.if_icmp .ge 28, 3) := by decide +kernel
theorem dX2_isLate_7 : decode cX2_isLate 7 = .ok (.aload_n 0, 1) := by decide +kernel
theorem dX2_isLate_8 : decode cX2_isLate 8 = .ok (.iload_n 2, 1) := by decide +kernel
theorem dX2_isLate_9 : decode cX2_isLate 9 = .ok (.bipush 6, 2) := by decide +kernel
theorem dX2_isLate_11 : decode cX2_isLate 11 = .ok (.invokevirtual 36, 3) := by decide +kernel
theorem dX2_isLate_14 : decode cX2_isLate 14 = .ok (.aload_n 0, 1) := by decide +kernel
theorem dX2_isLate_15 : decode cX2_isLate 15 = .ok (.iload_n 1, 1) := by decide +kernel
theorem dX2_isLate_16 : decode cX2_isLate 16 = .ok (.bipush 6, 2) := by decide +kernel
theorem dX2_isLate_18 : decode cX2_isLate 18 = .ok (.invokevirtual 36, 3) := by decide +kernel
theorem dX2_isLate_21 : decode cX2_isLate 21 = .ok (.if_icmp .le 5, 3) := by decide +kernel
theorem dX2_isLate_24 : decode cX2_isLate 24 = .ok (.iconst 1, 1) := by decide +kernel
theorem dX2_isLate_25 : decode cX2_isLate 25 = .ok (.ireturn, 1) := by decide +kernel
theorem dX2_isLate_26 : decode cX2_isLate 26 = .ok (.iinc 2 1, 3) := by decide +kernel
theorem dX2_isLate_29 : decode cX2_isLate 29 = .ok (.goto (-27), 3) := by decide +kernel
theorem dX2_isLate_32 : decode cX2_isLate 32 = .ok (.iconst 0, 1) := by decide +kernel
theorem dX2_isLate_33 : decode cX2_isLate 33 = .ok (.ireturn, 1) := by decide +kernel
theorem dX2_useSealBeyond_0 : decode cX2_useSealBeyond 0 = .ok (.iconst 0, 1) := by decide +kernel
theorem dX2_useSealBeyond_1 : decode cX2_useSealBeyond 1 = .ok (.istore_n 3, 1) := by decide +kernel
theorem dX2_useSealBeyond_2 : decode cX2_useSealBeyond 2 = .ok (.iload_n 3, 1) := by decide +kernel
theorem dX2_useSealBeyond_3 : decode cX2_useSealBeyond 3 = .ok (.aload_n 0, 1) := by decide +kernel
theorem dX2_useSealBeyond_4 : decode cX2_useSealBeyond 4 = .ok (.getfield 18, 3) := by decide +kernel
theorem dX2_useSealBeyond_7 : decode cX2_useSealBeyond 7 = .ok (.if_icmp .ge 60, 3) := by decide +kernel
theorem dX2_useSealBeyond_10 : decode cX2_useSealBeyond 10 = .ok (.aload_n 0, 1) := by decide +kernel
theorem dX2_useSealBeyond_11 : decode cX2_useSealBeyond 11 = .ok (.iload_n 3, 1) := by decide +kernel
theorem dX2_useSealBeyond_12 : decode cX2_useSealBeyond 12 = .ok (.iconst 4, 1) := by decide +kernel
theorem dX2_useSealBeyond_13 : decode cX2_useSealBeyond 13 = .ok (.invokevirtual 36, 3) := by decide +kernel
theorem dX2_useSealBeyond_16 : decode cX2_useSealBeyond 16 = .ok (.istore 4, 2) := by decide +kernel
theorem dX2_useSealBeyond_18 : decode cX2_useSealBeyond 18 = .ok (.aload_n 0, 1) := by decide +kernel
theorem dX2_useSealBeyond_19 : decode cX2_useSealBeyond 19 = .ok (.iload_n 3, 1) := by decide +kernel
theorem dX2_useSealBeyond_20 : decode cX2_useSealBeyond 20 = .ok (.iconst 0, 1) := by decide +kernel
theorem dX2_useSealBeyond_21 : decode cX2_useSealBeyond 21 = .ok (.invokevirtual 36, 3) := by decide +kernel
theorem dX2_useSealBeyond_24 : decode cX2_useSealBeyond 24 = .ok (.bipush 8, 2) := by decide +kernel
theorem dX2_useSealBeyond_26 : decode cX2_useSealBeyond 26 = .ok (.if_icmp .ne 16, 3) := by decide +kernel
theorem dX2_useSealBeyond_29 : decode cX2_useSealBeyond 29 = .ok (.iload 4, 2) := by decide +kernel
theorem dX2_useSealBeyond_31 : decode cX2_useSealBeyond 31 = .ok (.bipush 100, 2) := by decide +kernel
theorem dX2_useSealBeyond_33 : decode cX2_useSealBeyond 33 = .ok (.idiv, 1) := by decide +kernel
theorem dX2_useSealBeyond_34 : decode cX2_useSealBeyond 34 = .ok (.iload_n 1, 1) := by decide +kernel
theorem dX2_useSealBeyond_35 : decode cX2_useSealBeyond 35 = .ok (.if_icmp .ne 7, 3) := by decide +kernel
theorem dX2_useSealBeyond_38 : decode cX2_useSealBeyond 38 = .ok (.iconst 1, 1) := by decide +kernel
theorem dX2_useSealBeyond_39 : decode cX2_useSealBeyond 39 = .ok (.goto 4, 3) := by decide +kernel
theorem dX2_useSealBeyond_42 : decode cX2_useSealBeyond 42 = .ok (.iconst 0, 1) := by decide +kernel
theorem dX2_useSealBeyond_43 : decode cX2_useSealBeyond 43 = .ok (.istore 5, 2) := by decide +kernel
theorem dX2_useSealBeyond_45 : decode cX2_useSealBeyond 45 = .ok (.iload 5, 2) := by decide +kernel
theorem dX2_useSealBeyond_47 : decode cX2_useSealBeyond 47 = .ok (.ifCond .eq 14, 3) := by decide +kernel
theorem dX2_useSealBeyond_50 : decode cX2_useSealBeyond 50 = .ok (.iload 4, 2) := by decide +kernel
theorem dX2_useSealBeyond_52 : decode cX2_useSealBeyond 52 = .ok (.bipush 100, 2) := by decide +kernel
theorem dX2_useSealBeyond_54 : decode cX2_useSealBeyond 54 = .ok (.irem, 1) := by decide +kernel
theorem dX2_useSealBeyond_55 : decode cX2_useSealBeyond 55 = .ok (.iload_n 2, 1) := by decide +kernel
theorem dX2_useSealBeyond_56 : decode cX2_useSealBeyond 56 = .ok (.if_icmp .lt 5, 3) := by decide +kernel
theorem dX2_useSealBeyond_59 : decode cX2_useSealBeyond 59 = .ok (.iconst 1, 1) := by decide +kernel
theorem dX2_useSealBeyond_60 : decode cX2_useSealBeyond 60 = .ok (.ireturn, 1) := by decide +kernel
theorem dX2_useSealBeyond_61 : decode cX2_useSealBeyond 61 = .ok (.iinc 3 1, 3) := by decide +kernel
theorem dX2_useSealBeyond_64 : decode cX2_useSealBeyond 64 = .ok (.goto (-62), 3) := by decide +kernel
theorem dX2_useSealBeyond_67 : decode cX2_useSealBeyond 67 = .ok (.iconst 0, 1) := by decide +kernel
theorem dX2_useSealBeyond_68 : decode cX2_useSealBeyond 68 = .ok (.ireturn, 1) := by decide +kernel
theorem dX2_firstBreak_0 : decode cX2_firstBreak 0 = .ok (.iconst (-1), 1) := by decide +kernel
theorem dX2_firstBreak_1 : decode cX2_firstBreak 1 = .ok (.istore_n 2, 1) := by decide +kernel
theorem dX2_firstBreak_2 : decode cX2_firstBreak 2 = .ok (.iconst 0, 1) := by decide +kernel
theorem dX2_firstBreak_3 : decode cX2_firstBreak 3 = .ok (.istore_n 3, 1) := by decide +kernel
theorem dX2_firstBreak_4 : decode cX2_firstBreak 4 = .ok (.iload_n 3, 1) := by decide +kernel
theorem dX2_firstBreak_5 : decode cX2_firstBreak 5 = .ok (.aload_n 0, 1) := by decide +kernel
theorem dX2_firstBreak_6 : decode cX2_firstBreak 6 = .ok (.getfield 18, 3) := by decide +kernel
theorem dX2_firstBreak_9 : decode cX2_firstBreak 9 = .ok (.if_icmp .ge 94, 3) := by decide +kernel
theorem dX2_firstBreak_12 : decode cX2_firstBreak 12 = .ok (.aload_n 0, 1) := by decide +kernel
theorem dX2_firstBreak_13 : decode cX2_firstBreak 13 = .ok (.getfield 15, 3) := by decide +kernel
theorem dX2_firstBreak_16 : decode cX2_firstBreak 16 = .ok (.iload_n 3, 1) := by decide +kernel
theorem dX2_firstBreak_17 : decode cX2_firstBreak 17 = .ok (.iaload, 1) := by decide +kernel
theorem dX2_firstBreak_18 : decode cX2_firstBreak 18 = .ok (.istore 4, 2) := by decide +kernel
theorem dX2_firstBreak_20 : decode cX2_firstBreak 20 = .ok (.aload_n 0, 1) := by decide +kernel
theorem dX2_firstBreak_21 : decode cX2_firstBreak 21 = .ok (.iload 4, 2) := by decide +kernel
theorem dX2_firstBreak_23 : decode cX2_firstBreak 23 = .ok (.iconst 1, 1) := by decide +kernel
theorem dX2_firstBreak_24 : decode cX2_firstBreak 24 = .ok (.invokevirtual 36, 3) := by decide +kernel
theorem dX2_firstBreak_27 : decode cX2_firstBreak 27 = .ok (.iload_n 1, 1) := by decide +kernel
theorem dX2_firstBreak_28 : decode cX2_firstBreak 28 = .ok (.if_icmp .eq 6, 3) := by decide +kernel
theorem dX2_firstBreak_31 : decode cX2_firstBreak 31 = .ok (.goto 66, 3) := by decide +kernel
theorem dX2_firstBreak_34 : decode cX2_firstBreak 34 = .ok (.aload_n 0, 1) := by decide +kernel
theorem dX2_firstBreak_35 : decode cX2_firstBreak 35 = .ok (.iload 4, 2) := by decide +kernel
theorem dX2_firstBreak_37 : decode cX2_firstBreak 37 = .ok (.iconst 0, 1) := by decide +kernel
theorem dX2_firstBreak_38 : decode cX2_firstBreak 38 = .ok (.invokevirtual 36, 3) := by decide +kernel
theorem dX2_firstBreak_41 : decode cX2_firstBreak 41 = .ok (.istore 5, 2) := by decide +kernel
theorem dX2_firstBreak_43 : decode cX2_firstBreak 43 = .ok (.aload_n 0, 1) := by decide +kernel
theorem dX2_firstBreak_44 : decode cX2_firstBreak 44 = .ok (.iload 4, 2) := by decide +kernel
theorem dX2_firstBreak_46 : decode cX2_firstBreak 46 = .ok (.iconst 4, 1) := by decide +kernel
theorem dX2_firstBreak_47 : decode cX2_firstBreak 47 = .ok (.invokevirtual 36, 3) := by decide +kernel
theorem dX2_firstBreak_50 : decode cX2_firstBreak 50 = .ok (.istore 6, 2) := by decide +kernel
theorem dX2_firstBreak_52 : decode cX2_firstBreak 52 = .ok (.iload 5, 2) := by decide +kernel
theorem dX2_firstBreak_54 : decode cX2_firstBreak 54 = .ok (.bipush 9, 2) := by decide +kernel
theorem dX2_firstBreak_56 : decode cX2_firstBreak 56 = .ok (.if_icmp .eq 10, 3) := by decide +kernel
theorem dX2_firstBreak_59 : decode cX2_firstBreak 59 = .ok (.iload 5, 2) := by decide +kernel
theorem dX2_firstBreak_61 : decode cX2_firstBreak 61 = .ok (.bipush 10, 2) := by decide +kernel
theorem dX2_firstBreak_63 : decode cX2_firstBreak 63 = .ok (.if_icmp .ne 12, 3) := by decide +kernel
theorem dX2_firstBreak_66 : decode cX2_firstBreak 66 = .ok (.iload 6, 2) := by decide +kernel
theorem dX2_firstBreak_68 : decode cX2_firstBreak 68 = .ok (.iload_n 2, 1) := by decide +kernel
theorem dX2_firstBreak_69 : decode cX2_firstBreak 69 = .ok (.if_icmp .eq 6, 3) := by decide +kernel
theorem dX2_firstBreak_72 : decode cX2_firstBreak 72 = .ok (.iload 4, 2) := by decide +kernel
theorem dX2_firstBreak_74 : decode cX2_firstBreak 74 = .ok (.ireturn, 1) := by decide +kernel
theorem dX2_firstBreak_75 : decode cX2_firstBreak 75 = .ok (.iload 5, 2) := by decide +kernel
theorem dX2_firstBreak_77 : decode cX2_firstBreak 77 = .ok (.bipush 8, 2) := by decide +kernel
theorem dX2_firstBreak_79 : decode cX2_firstBreak 79 = .ok (.if_icmp .ne 9, 3) := by decide +kernel
theorem dX2_firstBreak_82 : decode cX2_firstBreak 82 = .ok (.iload 6, 2) := by decide +kernel
theorem dX2_firstBreak_84 : decode cX2_firstBreak 84 = .ok (.istore_n 2, 1) := by decide +kernel
theorem dX2_firstBreak_85 : decode cX2_firstBreak 85 = .ok (.goto 12, 3) := by decide +kernel
theorem dX2_firstBreak_88 : decode cX2_firstBreak 88 = .ok (.iload 5, 2) := by decide +kernel
theorem dX2_firstBreak_90 : decode cX2_firstBreak 90 = .ok (.bipush 9, 2) := by decide +kernel
theorem dX2_firstBreak_92 : decode cX2_firstBreak 92 = .ok (.if_icmp .ne 5, 3) := by decide +kernel
theorem dX2_firstBreak_95 : decode cX2_firstBreak 95 = .ok (.iconst (-1), 1) := by decide +kernel
theorem dX2_firstBreak_96 : decode cX2_firstBreak 96 = .ok (.istore_n 2, 1) := by decide +kernel
theorem dX2_firstBreak_97 : decode cX2_firstBreak 97 = .ok (.iinc 3 1, 3) := by decide +kernel
theorem dX2_firstBreak_100 : decode cX2_firstBreak 100 = .ok (.goto (-96), 3) := by decide +kernel
theorem dX2_firstBreak_103 : decode cX2_firstBreak 103 = .ok (.iconst (-1), 1) := by decide +kernel
theorem dX2_firstBreak_104 : decode cX2_firstBreak 104 = .ok (.ireturn, 1) := by decide +kernel
theorem dX2_isBirth_0 : decode cX2_isBirth 0 = .ok (.aload_n 0, 1) := by decide +kernel
theorem dX2_isBirth_1 : decode cX2_isBirth 1 = .ok (.iload_n 1, 1) := by decide +kernel
theorem dX2_isBirth_2 : decode cX2_isBirth 2 = .ok (.iconst 0, 1) := by decide +kernel
theorem dX2_isBirth_3 : decode cX2_isBirth 3 = .ok (.invokevirtual 36, 3) := by decide +kernel
theorem dX2_isBirth_6 : decode cX2_isBirth 6 = .ok (.istore_n 3, 1) := by decide +kernel
theorem dX2_isBirth_7 : decode cX2_isBirth 7 = .ok (.iload_n 3, 1) := by decide +kernel
theorem dX2_isBirth_8 : decode cX2_isBirth 8 = .ok (.bipush 11, 2) := by decide +kernel
theorem dX2_isBirth_10 : decode cX2_isBirth 10 = .ok (.if_icmp .eq 9, 3) := by decide +kernel
theorem dX2_isBirth_13 : decode cX2_isBirth 13 = .ok (.iload_n 3, 1) := by decide +kernel
theorem dX2_isBirth_14 : decode cX2_isBirth 14 = .ok (.bipush 12, 2) := by decide +kernel
theorem dX2_isBirth_16 : decode cX2_isBirth 16 = .ok (.if_icmp .ne 17, 3) := by decide +kernel
theorem dX2_isBirth_19 : decode cX2_isBirth 19 = .ok (.aload_n 0, 1) := by decide +kernel
theorem dX2_isBirth_20 : decode cX2_isBirth 20 = .ok (.iload_n 1, 1) := by decide +kernel
theorem dX2_isBirth_21 : decode cX2_isBirth 21 = .ok (.iconst 4, 1) := by decide +kernel
theorem dX2_isBirth_22 : decode cX2_isBirth 22 = .ok (.invokevirtual 36, 3) := by decide +kernel
theorem dX2_isBirth_25 : decode cX2_isBirth 25 = .ok (.iload_n 2, 1) := by decide +kernel
theorem dX2_isBirth_26 : decode cX2_isBirth 26 = .ok (.if_icmp .ne 7, 3) := by decide +kernel
theorem dX2_isBirth_29 : decode cX2_isBirth 29 = .ok (.iconst 1, 1) := by decide +kernel
theorem dX2_isBirth_30 : decode cX2_isBirth 30 = .ok (.goto 4, 3) := by decide +kernel
theorem dX2_isBirth_33 : decode cX2_isBirth 33 = .ok (.iconst 0, 1) := by decide +kernel
theorem dX2_isBirth_34 : decode cX2_isBirth 34 = .ok (.ireturn, 1) := by decide +kernel
theorem dX2_isMoveOf_0 : decode cX2_isMoveOf 0 = .ok (.aload_n 0, 1) := by decide +kernel
theorem dX2_isMoveOf_1 : decode cX2_isMoveOf 1 = .ok (.iload_n 1, 1) := by decide +kernel
theorem dX2_isMoveOf_2 : decode cX2_isMoveOf 2 = .ok (.iconst 0, 1) := by decide +kernel
theorem dX2_isMoveOf_3 : decode cX2_isMoveOf 3 = .ok (.invokevirtual 36, 3) := by decide +kernel
theorem dX2_isMoveOf_6 : decode cX2_isMoveOf 6 = .ok (.istore_n 3, 1) := by decide +kernel
theorem dX2_isMoveOf_7 : decode cX2_isMoveOf 7 = .ok (.iload_n 3, 1) := by decide +kernel
theorem dX2_isMoveOf_8 : decode cX2_isMoveOf 8 = .ok (.iconst 1, 1) := by decide +kernel
theorem dX2_isMoveOf_9 : decode cX2_isMoveOf 9 = .ok (.if_icmp .lt 9, 3) := by decide +kernel
theorem dX2_isMoveOf_12 : decode cX2_isMoveOf 12 = .ok (.iload_n 3, 1) := by decide +kernel
theorem dX2_isMoveOf_13 : decode cX2_isMoveOf 13 = .ok (.bipush 7, 2) := by decide +kernel
theorem dX2_isMoveOf_15 : decode cX2_isMoveOf 15 = .ok (.if_icmp .le 15, 3) := by decide +kernel
theorem dX2_isMoveOf_18 : decode cX2_isMoveOf 18 = .ok (.iload_n 3, 1) := by decide +kernel
theorem dX2_isMoveOf_19 : decode cX2_isMoveOf 19 = .ok (.bipush 18, 2) := by decide +kernel
theorem dX2_isMoveOf_21 : decode cX2_isMoveOf 21 = .ok (.if_icmp .eq 9, 3) := by decide +kernel
theorem dX2_isMoveOf_24 : decode cX2_isMoveOf 24 = .ok (.iload_n 3, 1) := by decide +kernel
theorem dX2_isMoveOf_25 : decode cX2_isMoveOf 25 = .ok (.bipush 19, 2) := by decide +kernel
theorem dX2_isMoveOf_27 : decode cX2_isMoveOf 27 = .ok (.if_icmp .ne 7, 3) := by decide +kernel
theorem dX2_isMoveOf_30 : decode cX2_isMoveOf 30 = .ok (.iconst 1, 1) := by decide +kernel
theorem dX2_isMoveOf_31 : decode cX2_isMoveOf 31 = .ok (.goto 4, 3) := by decide +kernel
theorem dX2_isMoveOf_34 : decode cX2_isMoveOf 34 = .ok (.iconst 0, 1) := by decide +kernel
theorem dX2_isMoveOf_35 : decode cX2_isMoveOf 35 = .ok (.istore 4, 2) := by decide +kernel
theorem dX2_isMoveOf_37 : decode cX2_isMoveOf 37 = .ok (.iload 4, 2) := by decide +kernel
theorem dX2_isMoveOf_39 : decode cX2_isMoveOf 39 = .ok (.ifCond .eq 17, 3) := by decide +kernel
theorem dX2_isMoveOf_42 : decode cX2_isMoveOf 42 = .ok (.aload_n 0, 1) := by decide +kernel
theorem dX2_isMoveOf_43 : decode cX2_isMoveOf 43 = .ok (.iload_n 1, 1) := by decide +kernel
theorem dX2_isMoveOf_44 : decode cX2_isMoveOf 44 = .ok (.iconst 1, 1) := by decide +kernel
theorem dX2_isMoveOf_45 : decode cX2_isMoveOf 45 = .ok (.invokevirtual 36, 3) := by decide +kernel
theorem dX2_isMoveOf_48 : decode cX2_isMoveOf 48 = .ok (.iload_n 2, 1) := by decide +kernel
theorem dX2_isMoveOf_49 : decode cX2_isMoveOf 49 = .ok (.if_icmp .ne 7, 3) := by decide +kernel
theorem dX2_isMoveOf_52 : decode cX2_isMoveOf 52 = .ok (.iconst 1, 1) := by decide +kernel
theorem dX2_isMoveOf_53 : decode cX2_isMoveOf 53 = .ok (.goto 4, 3) := by decide +kernel
theorem dX2_isMoveOf_56 : decode cX2_isMoveOf 56 = .ok (.iconst 0, 1) := by decide +kernel
theorem dX2_isMoveOf_57 : decode cX2_isMoveOf 57 = .ok (.ireturn, 1) := by decide +kernel
theorem dX3_init_0 : decode cX3_init 0 = .ok (.aload_n 0, 1) := by decide +kernel
theorem dX3_init_1 : decode cX3_init 1 = .ok (.invokespecial 3, 3) := by decide +kernel
theorem dX3_init_4 : decode cX3_init 4 = .ok (.aload_n 0, 1) := by decide +kernel
theorem dX3_init_5 : decode cX3_init 5 = .ok (.bipush 60, 2) := by decide +kernel
theorem dX3_init_7 : decode cX3_init 7 = .ok (.newarray .int, 2) := by decide +kernel
theorem dX3_init_9 : decode cX3_init 9 = .ok (.putfield 9, 3) := by decide +kernel
theorem dX3_init_12 : decode cX3_init 12 = .ok (.aload_n 0, 1) := by decide +kernel
theorem dX3_init_13 : decode cX3_init 13 = .ok (.bipush 60, 2) := by decide +kernel
theorem dX3_init_15 : decode cX3_init 15 = .ok (.newarray .int, 2) := by decide +kernel
theorem dX3_init_17 : decode cX3_init 17 = .ok (.putfield 15, 3) := by decide +kernel
theorem dX3_init_20 : decode cX3_init 20 = .ok (.aload_n 0, 1) := by decide +kernel
theorem dX3_init_21 : decode cX3_init 21 = .ok (.bipush 60, 2) := by decide +kernel
theorem dX3_init_23 : decode cX3_init 23 = .ok (.newarray .int, 2) := by decide +kernel
theorem dX3_init_25 : decode cX3_init 25 = .ok (.putfield 18, 3) := by decide +kernel
theorem dX3_init_28 : decode cX3_init 28 = .ok (.aload_n 0, 1) := by decide +kernel
theorem dX3_init_29 : decode cX3_init 29 = .ok (.bipush 60, 2) := by decide +kernel
theorem dX3_init_31 : decode cX3_init 31 = .ok (.newarray .int, 2) := by decide +kernel
theorem dX3_init_33 : decode cX3_init 33 = .ok (.putfield 21, 3) := by decide +kernel
theorem dX3_init_36 : decode cX3_init 36 = .ok (.aload_n 0, 1) := by decide +kernel
theorem dX3_init_37 : decode cX3_init 37 = .ok (.bipush 60, 2) := by decide +kernel
theorem dX3_init_39 : decode cX3_init 39 = .ok (.newarray .int, 2) := by decide +kernel
theorem dX3_init_41 : decode cX3_init 41 = .ok (.putfield 24, 3) := by decide +kernel
theorem dX3_init_44 : decode cX3_init 44 = .ok (.aload_n 0, 1) := by decide +kernel
theorem dX3_init_45 : decode cX3_init 45 = .ok (.bipush 60, 2) := by decide +kernel
theorem dX3_init_47 : decode cX3_init 47 = .ok (.newarray .int, 2) := by decide +kernel
theorem dX3_init_49 : decode cX3_init 49 = .ok (.putfield 27, 3) := by decide +kernel
theorem dX3_init_52 : decode cX3_init 52 = .ok (.aload_n 0, 1) := by decide +kernel
theorem dX3_init_53 : decode cX3_init 53 = .ok (.bipush 60, 2) := by decide +kernel
theorem dX3_init_55 : decode cX3_init 55 = .ok (.newarray .int, 2) := by decide +kernel
theorem dX3_init_57 : decode cX3_init 57 = .ok (.putfield 30, 3) := by decide +kernel
theorem dX3_init_60 : decode cX3_init 60 = .ok (.aload_n 0, 1) := by decide +kernel
theorem dX3_init_61 : decode cX3_init 61 = .ok (.bipush 60, 2) := by decide +kernel
theorem dX3_init_63 : decode cX3_init 63 = .ok (.newarray .int, 2) := by decide +kernel
theorem dX3_init_65 : decode cX3_init 65 = .ok (.putfield 33, 3) := by decide +kernel
theorem dX3_init_68 : decode cX3_init 68 = .ok (.aload_n 0, 1) := by decide +kernel
theorem dX3_init_69 : decode cX3_init 69 = .ok (.bipush 60, 2) := by decide +kernel
theorem dX3_init_71 : decode cX3_init 71 = .ok (.newarray .int, 2) := by decide +kernel
theorem dX3_init_73 : decode cX3_init 73 = .ok (.putfield 36, 3) := by decide +kernel
theorem dX3_init_76 : decode cX3_init 76 = .ok (.aload_n 0, 1) := by decide +kernel
theorem dX3_init_77 : decode cX3_init 77 = .ok (.bipush 60, 2) := by decide +kernel
theorem dX3_init_79 : decode cX3_init 79 = .ok (.newarray .int, 2) := by decide +kernel
theorem dX3_init_81 : decode cX3_init 81 = .ok (.putfield 39, 3) := by decide +kernel
theorem dX3_init_84 : decode cX3_init 84 = .ok (.aload_n 0, 1) := by decide +kernel
theorem dX3_init_85 : decode cX3_init 85 = .ok (.bipush 96, 2) := by decide +kernel
theorem dX3_init_87 : decode cX3_init 87 = .ok (.newarray .int, 2) := by decide +kernel
theorem dX3_init_89 : decode cX3_init 89 = .ok (.putfield 42, 3) := by decide +kernel
theorem dX3_init_92 : decode cX3_init 92 = .ok (.aload_n 0, 1) := by decide +kernel
theorem dX3_init_93 : decode cX3_init 93 = .ok (.sipush 600, 3) := by decide +kernel
theorem dX3_init_96 : decode cX3_init 96 = .ok (.newarray .int, 2) := by decide +kernel
theorem dX3_init_98 : decode cX3_init 98 = .ok (.putfield 45, 3) := by decide +kernel
theorem dX3_init_101 : decode cX3_init 101 = .ok (.aload_n 0, 1) := by decide +kernel
theorem dX3_init_102 : decode cX3_init 102 = .ok (.aload_n 1, 1) := by decide +kernel
theorem dX3_init_103 : decode cX3_init 103 = .ok (.putfield 48, 3) := by decide +kernel
theorem dX3_init_106 : decode cX3_init 106 = .ok (.return_, 1) := by decide +kernel
theorem dX3_firstUndone_0 : decode cX3_firstUndone 0 = .ok (.aload_n 0, 1) := by decide +kernel
theorem dX3_firstUndone_1 : decode cX3_firstUndone 1 = .ok (.invokevirtual 52, 3) := by decide +kernel
theorem dX3_firstUndone_4 : decode cX3_firstUndone 4 = .ok (.iconst 0, 1) := by decide +kernel
theorem dX3_firstUndone_5 : decode cX3_firstUndone 5 = .ok (.istore_n 2, 1) := by decide +kernel
theorem dX3_firstUndone_6 : decode cX3_firstUndone 6 = .ok (.iload_n 2, 1) := by decide +kernel
theorem dX3_firstUndone_7 : decode cX3_firstUndone 7 = .ok (.aload_n 1, 1) := by decide +kernel
theorem dX3_firstUndone_8 : decode cX3_firstUndone 8 = .ok (.getfield 55, 3) := by decide +kernel
theorem dX3_firstUndone_11 : decode cX3_firstUndone 11 = .ok (.if_icmp .ge 26, 3) := by decide +kernel
theorem dX3_firstUndone_14 : decode cX3_firstUndone 14 = .ok (.aload_n 1, 1) := by decide +kernel
theorem dX3_firstUndone_15 : decode cX3_firstUndone 15 = .ok (.iload_n 2, 1) := by decide +kernel
theorem dX3_firstUndone_16 : decode cX3_firstUndone 16 = .ok (.invokevirtual 61, 3) := by decide +kernel
theorem dX3_firstUndone_19 : decode cX3_firstUndone 19 = .ok (.istore_n 3, 1) := by decide +kernel
theorem dX3_firstUndone_20 : decode cX3_firstUndone 20 = .ok (.aload_n 0, 1) := by decide +kernel
theorem dX3_firstUndone_21 : decode cX3_firstUndone 21 = .ok (.aload_n 1, 1) := by decide +kernel
theorem dX3_firstUndone_22 : decode cX3_firstUndone 22 = .ok (.iload_n 3, 1) := by decide +kernel
theorem dX3_firstUndone_23 : decode cX3_firstUndone 23 = .ok (.invokevirtual 65, 3) := by decide +kernel
theorem dX3_firstUndone_26 : decode cX3_firstUndone 26 = .ok (.ifCond .ne 5, 3) := by decide +kernel
theorem dX3_firstUndone_29 : decode cX3_firstUndone 29 = .ok (.iload_n 3, 1) := by decide +kernel
theorem dX3_firstUndone_30 : decode cX3_firstUndone 30 = .ok (.ireturn, 1) := by decide +kernel
theorem dX3_firstUndone_31 : decode cX3_firstUndone 31 = .ok (.iinc 2 1, 3) := by decide +kernel
theorem dX3_firstUndone_34 : decode cX3_firstUndone 34 = .ok (.goto (-28), 3) := by decide +kernel
theorem dX3_firstUndone_37 : decode cX3_firstUndone 37 = .ok (.iconst (-1), 1) := by decide +kernel
theorem dX3_firstUndone_38 : decode cX3_firstUndone 38 = .ok (.ireturn, 1) := by decide +kernel
theorem dX3_tellKnown_0 : decode cX3_tellKnown 0 = .ok (.aload_n 0, 1) := by decide +kernel
theorem dX3_tellKnown_1 : decode cX3_tellKnown 1 = .ok (.invokevirtual 52, 3) := by decide +kernel
theorem dX3_tellKnown_4 : decode cX3_tellKnown 4 = .ok (.iconst 0, 1) := by decide +kernel
theorem dX3_tellKnown_5 : decode cX3_tellKnown 5 = .ok (.istore 4, 2) := by decide +kernel
theorem dX3_tellKnown_7 : decode cX3_tellKnown 7 = .ok (.iload 4, 2) := by decide +kernel
theorem dX3_tellKnown_9 : decode cX3_tellKnown 9 = .ok (.aload_n 1, 1) := by decide +kernel
theorem dX3_tellKnown_10 : decode cX3_tellKnown 10 = .ok (.getfield 55, 3) := by decide +kernel
theorem dX3_tellKnown_13 : decode cX3_tellKnown 13 = .ok (.if_icmp .ge 49, 3) := by decide +kernel
theorem dX3_tellKnown_16 : decode cX3_tellKnown 16 = .ok (.aload_n 1, 1) := by decide +kernel
theorem dX3_tellKnown_17 : decode cX3_tellKnown 17 = .ok (.iload 4, 2) := by decide +kernel
theorem dX3_tellKnown_19 : decode cX3_tellKnown 19 = .ok (.invokevirtual 61, 3) := by decide +kernel
theorem dX3_tellKnown_22 : decode cX3_tellKnown 22 = .ok (.istore 5, 2) := by decide +kernel
theorem dX3_tellKnown_24 : decode cX3_tellKnown 24 = .ok (.aload_n 1, 1) := by decide +kernel
theorem dX3_tellKnown_25 : decode cX3_tellKnown 25 = .ok (.iload 5, 2) := by decide +kernel
theorem dX3_tellKnown_27 : decode cX3_tellKnown 27 = .ok (.bipush 6, 2) := by decide +kernel
theorem dX3_tellKnown_29 : decode cX3_tellKnown 29 = .ok (.invokevirtual 69, 3) := by decide +kernel
theorem dX3_tellKnown_32 : decode cX3_tellKnown 32 = .ok (.iload_n 2, 1) := by decide +kernel
theorem dX3_tellKnown_33 : decode cX3_tellKnown 33 = .ok (.if_icmp .gt 23, 3) := by decide +kernel
theorem dX3_tellKnown_36 : decode cX3_tellKnown 36 = .ok (.aload_n 1, 1) := by decide +kernel
theorem dX3_tellKnown_37 : decode cX3_tellKnown 37 = .ok (.iload 5, 2) := by decide +kernel
theorem dX3_tellKnown_39 : decode cX3_tellKnown 39 = .ok (.bipush 7, 2) := by decide +kernel
theorem dX3_tellKnown_41 : decode cX3_tellKnown 41 = .ok (.invokevirtual 69, 3) := by decide +kernel
theorem dX3_tellKnown_44 : decode cX3_tellKnown 44 = .ok (.iload_n 3, 1) := by decide +kernel
theorem dX3_tellKnown_45 : decode cX3_tellKnown 45 = .ok (.if_icmp .gt 11, 3) := by decide +kernel
theorem dX3_tellKnown_48 : decode cX3_tellKnown 48 = .ok (.aload_n 0, 1) := by decide +kernel
theorem dX3_tellKnown_49 : decode cX3_tellKnown 49 = .ok (.aload_n 1, 1) := by decide +kernel
theorem dX3_tellKnown_50 : decode cX3_tellKnown 50 = .ok (.iload 5, 2) := by decide +kernel
theorem dX3_tellKnown_52 : decode cX3_tellKnown 52 = .ok (.invokevirtual 65, 3) := by decide +kernel
theorem dX3_tellKnown_55 : decode cX3_tellKnown 55 = .ok (.pop, 1) := by decide +kernel
theorem dX3_tellKnown_56 : decode cX3_tellKnown 56 = .ok (.iinc 4 1, 3) := by decide +kernel
theorem dX3_tellKnown_59 : decode cX3_tellKnown 59 = .ok (.goto (-52), 3) := by decide +kernel
theorem dX3_tellKnown_62 : decode cX3_tellKnown 62 = .ok (.return_, 1) := by decide +kernel
theorem dX3_answer_0 : decode cX3_answer 0 = .ok (.aload_n 0, 1) := by decide +kernel
theorem dX3_answer_1 : decode cX3_answer 1 = .ok (.getfield 48, 3) := by decide +kernel
theorem dX3_answer_4 : decode cX3_answer 4 = .ok (.iload_n 1, 1) := by decide +kernel
theorem dX3_answer_5 : decode cX3_answer 5 = .ok (.invokevirtual 73, 3) := by decide +kernel
theorem dX3_answer_8 : decode cX3_answer 8 = .ok (.ifCond .ne 5, 3) := by decide +kernel
theorem dX3_answer_11 : decode cX3_answer 11 = .ok (.iconst (-1), 1) := by decide +kernel
theorem dX3_answer_12 : decode cX3_answer 12 = .ok (.ireturn, 1) := by decide +kernel
theorem dX3_answer_13 : decode cX3_answer 13 = .ok (.iload_n 2, 1) := by decide +kernel
theorem dX3_answer_14 : decode cX3_answer 14 = .ok (.tableswitch 157 0 11 #[62, 69, 76, 83, 90, 101, 112, 119, 126, 133, 143, 150], 62) := by decide +kernel
theorem dX3_answer_76 : decode cX3_answer 76 = .ok (.aload_n 0, 1) := by decide +kernel
theorem dX3_answer_77 : decode cX3_answer 77 = .ok (.getfield 9, 3) := by decide +kernel
theorem dX3_answer_80 : decode cX3_answer 80 = .ok (.iload_n 1, 1) := by decide +kernel
theorem dX3_answer_81 : decode cX3_answer 81 = .ok (.iaload, 1) := by decide +kernel
theorem dX3_answer_82 : decode cX3_answer 82 = .ok (.ireturn, 1) := by decide +kernel
theorem dX3_answer_83 : decode cX3_answer 83 = .ok (.aload_n 0, 1) := by decide +kernel
theorem dX3_answer_84 : decode cX3_answer 84 = .ok (.getfield 15, 3) := by decide +kernel
theorem dX3_answer_87 : decode cX3_answer 87 = .ok (.iload_n 1, 1) := by decide +kernel
theorem dX3_answer_88 : decode cX3_answer 88 = .ok (.iaload, 1) := by decide +kernel
theorem dX3_answer_89 : decode cX3_answer 89 = .ok (.ireturn, 1) := by decide +kernel
theorem dX3_answer_90 : decode cX3_answer 90 = .ok (.aload_n 0, 1) := by decide +kernel
theorem dX3_answer_91 : decode cX3_answer 91 = .ok (.getfield 18, 3) := by decide +kernel
theorem dX3_answer_94 : decode cX3_answer 94 = .ok (.iload_n 1, 1) := by decide +kernel
theorem dX3_answer_95 : decode cX3_answer 95 = .ok (.iaload, 1) := by decide +kernel
theorem dX3_answer_96 : decode cX3_answer 96 = .ok (.ireturn, 1) := by decide +kernel
theorem dX3_answer_97 : decode cX3_answer 97 = .ok (.aload_n 0, 1) := by decide +kernel
theorem dX3_answer_98 : decode cX3_answer 98 = .ok (.getfield 21, 3) := by decide +kernel
theorem dX3_answer_101 : decode cX3_answer 101 = .ok (.iload_n 1, 1) := by decide +kernel
theorem dX3_answer_102 : decode cX3_answer 102 = .ok (.iaload, 1) := by decide +kernel
theorem dX3_answer_103 : decode cX3_answer 103 = .ok (.ireturn, 1) := by decide +kernel
theorem dX3_answer_104 : decode cX3_answer 104 = .ok (.aload_n 0, 1) := by decide +kernel
theorem dX3_answer_105 : decode cX3_answer 105 = .ok (.getfield 9, 3) := by decide +kernel
theorem dX3_answer_108 : decode cX3_answer 108 = .ok (.aload_n 0, 1) := by decide +kernel
theorem dX3_answer_109 : decode cX3_answer 109 = .ok (.iload_n 1, 1) := by decide +kernel
theorem dX3_answer_110 : decode cX3_answer 110 = .ok (.invokevirtual 79, 3) := by decide +kernel
theorem dX3_answer_113 : decode cX3_answer 113 = .ok (.iaload, 1) := by decide +kernel
theorem dX3_answer_114 : decode cX3_answer 114 = .ok (.ireturn, 1) := by decide +kernel
theorem dX3_answer_115 : decode cX3_answer 115 = .ok (.aload_n 0, 1) := by decide +kernel
theorem dX3_answer_116 : decode cX3_answer 116 = .ok (.getfield 15, 3) := by decide +kernel
theorem dX3_answer_119 : decode cX3_answer 119 = .ok (.aload_n 0, 1) := by decide +kernel
theorem dX3_answer_120 : decode cX3_answer 120 = .ok (.iload_n 1, 1) := by decide +kernel
theorem dX3_answer_121 : decode cX3_answer 121 = .ok (.invokevirtual 79, 3) := by decide +kernel
theorem dX3_answer_124 : decode cX3_answer 124 = .ok (.iaload, 1) := by decide +kernel
theorem dX3_answer_125 : decode cX3_answer 125 = .ok (.ireturn, 1) := by decide +kernel
theorem dX3_answer_126 : decode cX3_answer 126 = .ok (.aload_n 0, 1) := by decide +kernel
theorem dX3_answer_127 : decode cX3_answer 127 = .ok (.getfield 24, 3) := by decide +kernel
theorem dX3_answer_130 : decode cX3_answer 130 = .ok (.iload_n 1, 1) := by decide +kernel
theorem dX3_answer_131 : decode cX3_answer 131 = .ok (.iaload, 1) := by decide +kernel
theorem dX3_answer_132 : decode cX3_answer 132 = .ok (.ireturn, 1) := by decide +kernel
theorem dX3_answer_133 : decode cX3_answer 133 = .ok (.aload_n 0, 1) := by decide +kernel
theorem dX3_answer_134 : decode cX3_answer 134 = .ok (.getfield 27, 3) := by decide +kernel
theorem dX3_answer_137 : decode cX3_answer 137 = .ok (.iload_n 1, 1) := by decide +kernel
theorem dX3_answer_138 : decode cX3_answer 138 = .ok (.iaload, 1) := by decide +kernel
theorem dX3_answer_139 : decode cX3_answer 139 = .ok (.ireturn, 1) := by decide +kernel
theorem dX3_answer_140 : decode cX3_answer 140 = .ok (.aload_n 0, 1) := by decide +kernel
theorem dX3_answer_141 : decode cX3_answer 141 = .ok (.getfield 30, 3) := by decide +kernel
theorem dX3_answer_144 : decode cX3_answer 144 = .ok (.iload_n 1, 1) := by decide +kernel
theorem dX3_answer_145 : decode cX3_answer 145 = .ok (.iaload, 1) := by decide +kernel
theorem dX3_answer_146 : decode cX3_answer 146 = .ok (.ireturn, 1) := by decide +kernel
theorem dX3_answer_147 : decode cX3_answer 147 = .ok (.aload_n 0, 1) := by decide +kernel
theorem dX3_answer_148 : decode cX3_answer 148 = .ok (.getfield 33, 3) := by decide +kernel
theorem dX3_answer_151 : decode cX3_answer 151 = .ok (.iload_n 1, 1) := by decide +kernel
theorem dX3_answer_152 : decode cX3_answer 152 = .ok (.iaload, 1) := by decide +kernel
theorem dX3_answer_153 : decode cX3_answer 153 = .ok (.invokestatic 82, 3) := by decide +kernel
theorem dX3_answer_156 : decode cX3_answer 156 = .ok (.ireturn, 1) := by decide +kernel
theorem dX3_answer_157 : decode cX3_answer 157 = .ok (.aload_n 0, 1) := by decide +kernel
theorem dX3_answer_158 : decode cX3_answer 158 = .ok (.getfield 36, 3) := by decide +kernel
theorem dX3_answer_161 : decode cX3_answer 161 = .ok (.iload_n 1, 1) := by decide +kernel
theorem dX3_answer_162 : decode cX3_answer 162 = .ok (.iaload, 1) := by decide +kernel
theorem dX3_answer_163 : decode cX3_answer 163 = .ok (.ireturn, 1) := by decide +kernel
theorem dX3_answer_164 : decode cX3_answer 164 = .ok (.aload_n 0, 1) := by decide +kernel
theorem dX3_answer_165 : decode cX3_answer 165 = .ok (.getfield 39, 3) := by decide +kernel
theorem dX3_answer_168 : decode cX3_answer 168 = .ok (.iload_n 1, 1) := by decide +kernel
theorem dX3_answer_169 : decode cX3_answer 169 = .ok (.iaload, 1) := by decide +kernel
theorem dX3_answer_170 : decode cX3_answer 170 = .ok (.ireturn, 1) := by decide +kernel
theorem dX3_answer_171 : decode cX3_answer 171 = .ok (.iconst (-1), 1) := by decide +kernel
theorem dX3_answer_172 : decode cX3_answer 172 = .ok (.ireturn, 1) := by decide +kernel
theorem dX3_thingOfDay_0 : decode cX3_thingOfDay 0 = .ok (.iload_n 2, 1) := by decide +kernel
theorem dX3_thingOfDay_1 : decode cX3_thingOfDay 1 = .ok (.istore_n 3, 1) := by decide +kernel
theorem dX3_thingOfDay_2 : decode cX3_thingOfDay 2 = .ok (.iconst 0, 1) := by decide +kernel
theorem dX3_thingOfDay_3 : decode cX3_thingOfDay 3 = .ok (.istore 4, 2) := by decide +kernel
theorem dX3_thingOfDay_5 : decode cX3_thingOfDay 5 = .ok (.iload 4, 2) := by decide +kernel
theorem dX3_thingOfDay_7 : decode cX3_thingOfDay 7 = .ok (.aload_n 0, 1) := by decide +kernel
theorem dX3_thingOfDay_8 : decode cX3_thingOfDay 8 = .ok (.getfield 48, 3) := by decide +kernel
theorem dX3_thingOfDay_11 : decode cX3_thingOfDay 11 = .ok (.getfield 87, 3) := by decide +kernel
theorem dX3_thingOfDay_14 : decode cX3_thingOfDay 14 = .ok (.if_icmp .ge 50, 3) := by decide +kernel
theorem dX3_thingOfDay_17 : decode cX3_thingOfDay 17 = .ok (.aload_n 0, 1) := by decide +kernel
theorem dX3_thingOfDay_18 : decode cX3_thingOfDay 18 = .ok (.iload 4, 2) := by decide +kernel
theorem dX3_thingOfDay_20 : decode cX3_thingOfDay 20 = .ok (.invokevirtual 90, 3) := by decide +kernel
theorem dX3_thingOfDay_23 : decode cX3_thingOfDay 23 = .ok (.ifCond .eq 35, 3) := by decide +kernel
theorem dX3_thingOfDay_26 : decode cX3_thingOfDay 26 = .ok (.aload_n 0, 1) := by decide +kernel
theorem dX3_thingOfDay_27 : decode cX3_thingOfDay 27 = .ok (.getfield 24, 3) := by decide +kernel
theorem dX3_thingOfDay_30 : decode cX3_thingOfDay 30 = .ok (.iload 4, 2) := by decide +kernel
theorem dX3_thingOfDay_32 : decode cX3_thingOfDay 32 = .ok (.iaload, 1) := by decide +kernel
theorem dX3_thingOfDay_33 : decode cX3_thingOfDay 33 = .ok (.iload_n 1, 1) := by decide +kernel
theorem dX3_thingOfDay_34 : decode cX3_thingOfDay 34 = .ok (.if_icmp .eq 14, 3) := by decide +kernel
theorem dX3_thingOfDay_37 : decode cX3_thingOfDay 37 = .ok (.aload_n 0, 1) := by decide +kernel
theorem dX3_thingOfDay_38 : decode cX3_thingOfDay 38 = .ok (.getfield 27, 3) := by decide +kernel
theorem dX3_thingOfDay_41 : decode cX3_thingOfDay 41 = .ok (.iload 4, 2) := by decide +kernel
theorem dX3_thingOfDay_43 : decode cX3_thingOfDay 43 = .ok (.iaload, 1) := by decide +kernel
theorem dX3_thingOfDay_44 : decode cX3_thingOfDay 44 = .ok (.iload_n 1, 1) := by decide +kernel
theorem dX3_thingOfDay_45 : decode cX3_thingOfDay 45 = .ok (.if_icmp .ne 13, 3) := by decide +kernel
theorem dX3_thingOfDay_48 : decode cX3_thingOfDay 48 = .ok (.iload_n 3, 1) := by decide +kernel
theorem dX3_thingOfDay_49 : decode cX3_thingOfDay 49 = .ok (.ifCond .ne 6, 3) := by decide +kernel
theorem dX3_thingOfDay_52 : decode cX3_thingOfDay 52 = .ok (.iload 4, 2) := by decide +kernel
theorem dX3_thingOfDay_54 : decode cX3_thingOfDay 54 = .ok (.ireturn, 1) := by decide +kernel
theorem dX3_thingOfDay_55 : decode cX3_thingOfDay 55 = .ok (.iinc 3 (-1), 3) := by decide +kernel
theorem dX3_thingOfDay_58 : decode cX3_thingOfDay 58 = .ok (.iinc 4 1, 3) := by decide +kernel
theorem dX3_thingOfDay_61 : decode cX3_thingOfDay 61 = .ok (.goto (-56), 3) := by decide +kernel
theorem dX3_thingOfDay_64 : decode cX3_thingOfDay 64 = .ok (.iconst (-1), 1) := by decide +kernel
theorem dX3_thingOfDay_65 : decode cX3_thingOfDay 65 = .ok (.ireturn, 1) := by decide +kernel
theorem dX3_clear_0 : decode cX3_clear 0 = .ok (.aload_n 0, 1) := by decide +kernel
theorem dX3_clear_1 : decode cX3_clear 1 = .ok (.getfield 9, 3) := by decide +kernel
theorem dX3_clear_4 : decode cX3_clear 4 = .ok (.iconst 0, 1) := by decide +kernel
theorem dX3_clear_5 : decode cX3_clear 5 = .ok (.invokestatic 93, 3) := by decide +kernel
theorem dX3_clear_8 : decode cX3_clear 8 = .ok (.aload_n 0, 1) := by decide +kernel
theorem dX3_clear_9 : decode cX3_clear 9 = .ok (.getfield 15, 3) := by decide +kernel
theorem dX3_clear_12 : decode cX3_clear 12 = .ok (.iconst (-1), 1) := by decide +kernel
theorem dX3_clear_13 : decode cX3_clear 13 = .ok (.invokestatic 93, 3) := by decide +kernel
theorem dX3_clear_16 : decode cX3_clear 16 = .ok (.aload_n 0, 1) := by decide +kernel
theorem dX3_clear_17 : decode cX3_clear 17 = .ok (.getfield 48, 3) := by decide +kernel
theorem dX3_clear_20 : decode cX3_clear 20 = .ok (.getfield 99, 3) := by decide +kernel
theorem dX3_clear_23 : decode cX3_clear 23 = .ok (.iconst 0, 1) := by decide +kernel
theorem dX3_clear_24 : decode cX3_clear 24 = .ok (.aload_n 0, 1) := by decide +kernel
theorem dX3_clear_25 : decode cX3_clear 25 = .ok (.getfield 18, 3) := by decide +kernel
theorem dX3_clear_28 : decode cX3_clear 28 = .ok (.iconst 0, 1) := by decide +kernel
theorem dX3_clear_29 : decode cX3_clear 29 = .ok (.bipush 60, 2) := by decide +kernel
theorem dX3_clear_31 : decode cX3_clear 31 = .ok (.invokestatic 102, 3) := by decide +kernel
theorem dX3_clear_34 : decode cX3_clear 34 = .ok (.aload_n 0, 1) := by decide +kernel
theorem dX3_clear_35 : decode cX3_clear 35 = .ok (.getfield 21, 3) := by decide +kernel
theorem dX3_clear_38 : decode cX3_clear 38 = .ok (.iconst (-1), 1) := by decide +kernel
theorem dX3_clear_39 : decode cX3_clear 39 = .ok (.invokestatic 93, 3) := by decide +kernel
theorem dX3_clear_42 : decode cX3_clear 42 = .ok (.aload_n 0, 1) := by decide +kernel
theorem dX3_clear_43 : decode cX3_clear 43 = .ok (.getfield 24, 3) := by decide +kernel
theorem dX3_clear_46 : decode cX3_clear 46 = .ok (.iconst (-1), 1) := by decide +kernel
theorem dX3_clear_47 : decode cX3_clear 47 = .ok (.invokestatic 93, 3) := by decide +kernel
theorem dX3_clear_50 : decode cX3_clear 50 = .ok (.aload_n 0, 1) := by decide +kernel
theorem dX3_clear_51 : decode cX3_clear 51 = .ok (.getfield 27, 3) := by decide +kernel
theorem dX3_clear_54 : decode cX3_clear 54 = .ok (.iconst (-1), 1) := by decide +kernel
theorem dX3_clear_55 : decode cX3_clear 55 = .ok (.invokestatic 93, 3) := by decide +kernel
theorem dX3_clear_58 : decode cX3_clear 58 = .ok (.aload_n 0, 1) := by decide +kernel
theorem dX3_clear_59 : decode cX3_clear 59 = .ok (.getfield 30, 3) := by decide +kernel
theorem dX3_clear_62 : decode cX3_clear 62 = .ok (.iconst 0, 1) := by decide +kernel
theorem dX3_clear_63 : decode cX3_clear 63 = .ok (.invokestatic 93, 3) := by decide +kernel
theorem dX3_clear_66 : decode cX3_clear 66 = .ok (.aload_n 0, 1) := by decide +kernel
theorem dX3_clear_67 : decode cX3_clear 67 = .ok (.getfield 33, 3) := by decide +kernel
theorem dX3_clear_70 : decode cX3_clear 70 = .ok (.iconst 0, 1) := by decide +kernel
theorem dX3_clear_71 : decode cX3_clear 71 = .ok (.invokestatic 93, 3) := by decide +kernel
theorem dX3_clear_74 : decode cX3_clear 74 = .ok (.aload_n 0, 1) := by decide +kernel
theorem dX3_clear_75 : decode cX3_clear 75 = .ok (.getfield 36, 3) := by decide +kernel
theorem dX3_clear_78 : decode cX3_clear 78 = .ok (.iconst 0, 1) := by decide +kernel
theorem dX3_clear_79 : decode cX3_clear 79 = .ok (.invokestatic 93, 3) := by decide +kernel
theorem dX3_clear_82 : decode cX3_clear 82 = .ok (.aload_n 0, 1) := by decide +kernel
theorem dX3_clear_83 : decode cX3_clear 83 = .ok (.getfield 39, 3) := by decide +kernel
theorem dX3_clear_86 : decode cX3_clear 86 = .ok (.iconst (-1), 1) := by decide +kernel
theorem dX3_clear_87 : decode cX3_clear 87 = .ok (.invokestatic 93, 3) := by decide +kernel
theorem dX3_clear_90 : decode cX3_clear 90 = .ok (.aload_n 0, 1) := by decide +kernel
theorem dX3_clear_91 : decode cX3_clear 91 = .ok (.getfield 42, 3) := by decide +kernel
theorem dX3_clear_94 : decode cX3_clear 94 = .ok (.iconst (-1), 1) := by decide +kernel
theorem dX3_clear_95 : decode cX3_clear 95 = .ok (.invokestatic 93, 3) := by decide +kernel
theorem dX3_clear_98 : decode cX3_clear 98 = .ok (.aload_n 0, 1) := by decide +kernel
theorem dX3_clear_99 : decode cX3_clear 99 = .ok (.getfield 45, 3) := by decide +kernel
theorem dX3_clear_102 : decode cX3_clear 102 = .ok (.iconst 0, 1) := by decide +kernel
theorem dX3_clear_103 : decode cX3_clear 103 = .ok (.invokestatic 93, 3) := by decide +kernel
theorem dX3_clear_106 : decode cX3_clear 106 = .ok (.return_, 1) := by decide +kernel
theorem dX3_tell_0 : decode cX3_tell 0 = .ok (.aload_n 1, 1) := by decide +kernel
theorem dX3_tell_1 : decode cX3_tell 1 = .ok (.iload_n 2, 1) := by decide +kernel
theorem dX3_tell_2 : decode cX3_tell 2 = .ok (.iconst 0, 1) := by decide +kernel
theorem dX3_tell_3 : decode cX3_tell 3 = .ok (.invokevirtual 69, 3) := by decide +kernel
theorem dX3_tell_6 : decode cX3_tell 6 = .ok (.istore_n 3, 1) := by decide +kernel
theorem dX3_tell_7 : decode cX3_tell 7 = .ok (.aload_n 1, 1) := by decide +kernel
theorem dX3_tell_8 : decode cX3_tell 8 = .ok (.iload_n 2, 1) := by decide +kernel
theorem dX3_tell_9 : decode cX3_tell 9 = .ok (.bipush 6, 2) := by decide +kernel
theorem dX3_tell_11 : decode cX3_tell 11 = .ok (.invokevirtual 69, 3) := by decide +kernel
theorem dX3_tell_14 : decode cX3_tell 14 = .ok (.istore 4, 2) := by decide +kernel
theorem dX3_tell_16 : decode cX3_tell 16 = .ok (.aload_n 0, 1) := by decide +kernel
theorem dX3_tell_17 : decode cX3_tell 17 = .ok (.aload_n 1, 1) := by decide +kernel
theorem dX3_tell_18 : decode cX3_tell 18 = .ok (.iload_n 2, 1) := by decide +kernel
theorem dX3_tell_19 : decode cX3_tell 19 = .ok (.iconst 1, 1) := by decide +kernel
theorem dX3_tell_20 : decode cX3_tell 20 = .ok (.invokevirtual 69, 3) := by decide +kernel
theorem dX3_tell_23 : decode cX3_tell 23 = .ok (.putfield 108, 3) := by decide +kernel
theorem dX3_tell_26 : decode cX3_tell 26 = .ok (.aload_n 0, 1) := by decide +kernel
theorem dX3_tell_27 : decode cX3_tell 27 = .ok (.aload_n 1, 1) := by decide +kernel
theorem dX3_tell_28 : decode cX3_tell 28 = .ok (.iload_n 2, 1) := by decide +kernel
theorem dX3_tell_29 : decode cX3_tell 29 = .ok (.iconst 2, 1) := by decide +kernel
theorem dX3_tell_30 : decode cX3_tell 30 = .ok (.invokevirtual 69, 3) := by decide +kernel
theorem dX3_tell_33 : decode cX3_tell 33 = .ok (.putfield 111, 3) := by decide +kernel
theorem dX3_tell_36 : decode cX3_tell 36 = .ok (.aload_n 0, 1) := by decide +kernel
theorem dX3_tell_37 : decode cX3_tell 37 = .ok (.aload_n 1, 1) := by decide +kernel
theorem dX3_tell_38 : decode cX3_tell 38 = .ok (.iload_n 2, 1) := by decide +kernel
theorem dX3_tell_39 : decode cX3_tell 39 = .ok (.iconst 3, 1) := by decide +kernel
theorem dX3_tell_40 : decode cX3_tell 40 = .ok (.invokevirtual 69, 3) := by decide +kernel
theorem dX3_tell_43 : decode cX3_tell 43 = .ok (.putfield 114, 3) := by decide +kernel
theorem dX3_tell_46 : decode cX3_tell 46 = .ok (.aload_n 0, 1) := by decide +kernel
theorem dX3_tell_47 : decode cX3_tell 47 = .ok (.aload_n 1, 1) := by decide +kernel
theorem dX3_tell_48 : decode cX3_tell 48 = .ok (.iload_n 2, 1) := by decide +kernel
theorem dX3_tell_49 : decode cX3_tell 49 = .ok (.iconst 4, 1) := by decide +kernel
theorem dX3_tell_50 : decode cX3_tell 50 = .ok (.invokevirtual 69, 3) := by decide +kernel
theorem dX3_tell_53 : decode cX3_tell 53 = .ok (.putfield 117, 3) := by decide +kernel
theorem dX3_tell_56 : decode cX3_tell 56 = .ok (.aload_n 0, 1) := by decide +kernel
theorem dX3_tell_57 : decode cX3_tell 57 = .ok (.aload_n 1, 1) := by decide +kernel
theorem dX3_tell_58 : decode cX3_tell 58 = .ok (.iload_n 2, 1) := by decide +kernel
theorem dX3_tell_59 : decode cX3_tell 59 = .ok (.iconst 5, 1) := by decide +kernel
theorem dX3_tell_60 : decode cX3_tell 60 = .ok (.invokevirtual 69, 3) := by decide +kernel
theorem dX3_tell_63 : decode cX3_tell 63 = .ok (.putfield 120, 3) := by decide +kernel
theorem dX3_tell_66 : decode cX3_tell 66 = .ok (.iload 4, 2) := by decide +kernel
theorem dX3_tell_68 : decode cX3_tell 68 = .ok (.ifCond .lt 29, 3) := by decide +kernel
theorem dX3_tell_71 : decode cX3_tell 71 = .ok (.iload 4, 2) := by decide +kernel
theorem dX3_tell_73 : decode cX3_tell 73 = .ok (.aload_n 1, 1) := by decide +kernel
theorem dX3_tell_74 : decode cX3_tell 74 = .ok (.iload_n 2, 1) := by decide +kernel
theorem dX3_tell_75 : decode cX3_tell 75 = .ok (.bipush 7, 2) := by decide +kernel
theorem dX3_tell_77 : decode cX3_tell 77 = .ok (.invokevirtual 69, 3) := by decide +kernel
theorem dX3_tell_80 : decode cX3_tell 80 = .ok (.if_icmp .gt 17, 3) := by decide +kernel
theorem dX3_tell_83 : decode cX3_tell 83 = .ok (.aload_n 0, 1) := by decide +kernel
theorem dX3_tell_84 : decode cX3_tell 84 = .ok (.getfield 48, 3) := by decide +kernel
theorem dX3_tell_87 : decode cX3_tell 87 = .ok (.aload_n 0, 1) := by decide +kernel
theorem dX3_tell_88 : decode cX3_tell 88 = .ok (.getfield 108, 3) := by decide +kernel
theorem dX3_tell_91 : decode cX3_tell 91 = .ok (.invokevirtual 73, 3) := by decide +kernel
theorem dX3_tell_94 : decode cX3_tell 94 = .ok (.ifCond .ne 5, 3) := by decide +kernel
theorem dX3_tell_97 : decode cX3_tell 97 = .ok (.iconst 0, 1) := by decide +kernel
theorem dX3_tell_98 : decode cX3_tell 98 = .ok (.ireturn, 1) := by decide +kernel
theorem dX3_tell_99 : decode cX3_tell 99 = .ok (.iload_n 3, 1) := by decide +kernel
theorem dX3_tell_100 : decode cX3_tell 100 = .ok (.iconst 1, 1) := by decide +kernel
theorem dX3_tell_101 : decode cX3_tell 101 = .ok (.if_icmp .eq 16, 3) := by decide +kernel
theorem dX3_tell_104 : decode cX3_tell 104 = .ok (.aload_n 0, 1) := by decide +kernel
theorem dX3_tell_105 : decode cX3_tell 105 = .ok (.aload_n 0, 1) := by decide +kernel
theorem dX3_tell_106 : decode cX3_tell 106 = .ok (.getfield 108, 3) := by decide +kernel
theorem dX3_tell_109 : decode cX3_tell 109 = .ok (.invokevirtual 90, 3) := by decide +kernel
theorem dX3_tell_112 : decode cX3_tell 112 = .ok (.ifCond .ne 5, 3) := by decide +kernel
theorem dX3_tell_115 : decode cX3_tell 115 = .ok (.iconst 0, 1) := by decide +kernel
theorem dX3_tell_116 : decode cX3_tell 116 = .ok (.ireturn, 1) := by decide +kernel
theorem dX3_tell_117 : decode cX3_tell 117 = .ok (.aload_n 0, 1) := by decide +kernel
theorem dX3_tell_118 : decode cX3_tell 118 = .ok (.iload 4, 2) := by decide +kernel
theorem dX3_tell_120 : decode cX3_tell 120 = .ok (.sipush 1440, 3) := by decide +kernel
theorem dX3_tell_123 : decode cX3_tell 123 = .ok (.idiv, 1) := by decide +kernel
theorem dX3_tell_124 : decode cX3_tell 124 = .ok (.putfield 123, 3) := by decide +kernel
theorem dX3_tell_127 : decode cX3_tell 127 = .ok (.iload_n 3, 1) := by decide +kernel
theorem dX3_tell_128 : decode cX3_tell 128 = .ok (.tableswitch 187 1 19 #[92, 97, 102, 107, 112, 117, 122, 127, 132, 137, 142, 147, 152, 157, 162, 167, 172, 177, 182], 92) := by decide +kernel
theorem dX3_tell_220 : decode cX3_tell 220 = .ok (.aload_n 0, 1) := by decide +kernel
theorem dX3_tell_221 : decode cX3_tell 221 = .ok (.invokevirtual 126, 3) := by decide +kernel
theorem dX3_tell_224 : decode cX3_tell 224 = .ok (.ireturn, 1) := by decide +kernel
theorem dX3_tell_225 : decode cX3_tell 225 = .ok (.aload_n 0, 1) := by decide +kernel
theorem dX3_tell_226 : decode cX3_tell 226 = .ok (.invokevirtual 130, 3) := by decide +kernel
theorem dX3_tell_229 : decode cX3_tell 229 = .ok (.ireturn, 1) := by decide +kernel
theorem dX3_tell_230 : decode cX3_tell 230 = .ok (.aload_n 0, 1) := by decide +kernel
theorem dX3_tell_231 : decode cX3_tell 231 = .ok (.invokevirtual 133, 3) := by decide +kernel
theorem dX3_tell_234 : decode cX3_tell 234 = .ok (.ireturn, 1) := by decide +kernel
theorem dX3_tell_235 : decode cX3_tell 235 = .ok (.aload_n 0, 1) := by decide +kernel
theorem dX3_tell_236 : decode cX3_tell 236 = .ok (.invokevirtual 136, 3) := by decide +kernel
theorem dX3_tell_239 : decode cX3_tell 239 = .ok (.ireturn, 1) := by decide +kernel
theorem dX3_tell_240 : decode cX3_tell 240 = .ok (.aload_n 0, 1) := by decide +kernel
theorem dX3_tell_241 : decode cX3_tell 241 = .ok (.invokevirtual 139, 3) := by decide +kernel
theorem dX3_tell_244 : decode cX3_tell 244 = .ok (.ireturn, 1) := by decide +kernel
theorem dX3_tell_245 : decode cX3_tell 245 = .ok (.aload_n 0, 1) := by decide +kernel
theorem dX3_tell_246 : decode cX3_tell 246 = .ok (.invokevirtual 142, 3) := by decide +kernel
theorem dX3_tell_249 : decode cX3_tell 249 = .ok (.ireturn, 1) := by decide +kernel
theorem dX3_tell_250 : decode cX3_tell 250 = .ok (.aload_n 0, 1) := by decide +kernel
theorem dX3_tell_251 : decode cX3_tell 251 = .ok (.invokevirtual 145, 3) := by decide +kernel
theorem dX3_tell_254 : decode cX3_tell 254 = .ok (.ireturn, 1) := by decide +kernel
theorem dX3_tell_255 : decode cX3_tell 255 = .ok (.aload_n 0, 1) := by decide +kernel
theorem dX3_tell_256 : decode cX3_tell 256 = .ok (.invokevirtual 148, 3) := by decide +kernel
theorem dX3_tell_259 : decode cX3_tell 259 = .ok (.ireturn, 1) := by decide +kernel
theorem dX3_tell_260 : decode cX3_tell 260 = .ok (.aload_n 0, 1) := by decide +kernel
theorem dX3_tell_261 : decode cX3_tell 261 = .ok (.invokevirtual 151, 3) := by decide +kernel
theorem dX3_tell_264 : decode cX3_tell 264 = .ok (.ireturn, 1) := by decide +kernel
theorem dX3_tell_265 : decode cX3_tell 265 = .ok (.aload_n 0, 1) := by decide +kernel
theorem dX3_tell_266 : decode cX3_tell 266 = .ok (.invokevirtual 154, 3) := by decide +kernel
theorem dX3_tell_269 : decode cX3_tell 269 = .ok (.ireturn, 1) := by decide +kernel
theorem dX3_tell_270 : decode cX3_tell 270 = .ok (.aload_n 0, 1) := by decide +kernel
theorem dX3_tell_271 : decode cX3_tell 271 = .ok (.invokevirtual 157, 3) := by decide +kernel
theorem dX3_tell_274 : decode cX3_tell 274 = .ok (.ireturn, 1) := by decide +kernel
theorem dX3_tell_275 : decode cX3_tell 275 = .ok (.aload_n 0, 1) := by decide +kernel
theorem dX3_tell_276 : decode cX3_tell 276 = .ok (.invokevirtual 160, 3) := by decide +kernel
theorem dX3_tell_279 : decode cX3_tell 279 = .ok (.ireturn, 1) := by decide +kernel
theorem dX3_tell_280 : decode cX3_tell 280 = .ok (.aload_n 0, 1) := by decide +kernel
theorem dX3_tell_281 : decode cX3_tell 281 = .ok (.invokevirtual 163, 3) := by decide +kernel
theorem dX3_tell_284 : decode cX3_tell 284 = .ok (.ireturn, 1) := by decide +kernel
theorem dX3_tell_285 : decode cX3_tell 285 = .ok (.aload_n 0, 1) := by decide +kernel
theorem dX3_tell_286 : decode cX3_tell 286 = .ok (.invokevirtual 166, 3) := by decide +kernel
theorem dX3_tell_289 : decode cX3_tell 289 = .ok (.ireturn, 1) := by decide +kernel
theorem dX3_tell_290 : decode cX3_tell 290 = .ok (.aload_n 0, 1) := by decide +kernel
theorem dX3_tell_291 : decode cX3_tell 291 = .ok (.invokevirtual 169, 3) := by decide +kernel
theorem dX3_tell_294 : decode cX3_tell 294 = .ok (.ireturn, 1) := by decide +kernel
theorem dX3_tell_295 : decode cX3_tell 295 = .ok (.aload_n 0, 1) := by decide +kernel
theorem dX3_tell_296 : decode cX3_tell 296 = .ok (.invokevirtual 172, 3) := by decide +kernel
theorem dX3_tell_299 : decode cX3_tell 299 = .ok (.ireturn, 1) := by decide +kernel
theorem dX3_tell_300 : decode cX3_tell 300 = .ok (.aload_n 0, 1) := by decide +kernel
theorem dX3_tell_301 : decode cX3_tell 301 = .ok (.invokevirtual 175, 3) := by decide +kernel
theorem dX3_tell_304 : decode cX3_tell 304 = .ok (.ireturn, 1) := by decide +kernel
theorem dX3_tell_305 : decode cX3_tell 305 = .ok (.aload_n 0, 1) := by decide +kernel
theorem dX3_tell_306 : decode cX3_tell 306 = .ok (.invokevirtual 178, 3) := by decide +kernel
theorem dX3_tell_309 : decode cX3_tell 309 = .ok (.ireturn, 1) := by decide +kernel
theorem dX3_tell_310 : decode cX3_tell 310 = .ok (.aload_n 0, 1) := by decide +kernel
theorem dX3_tell_311 : decode cX3_tell 311 = .ok (.invokevirtual 181, 3) := by decide +kernel
theorem dX3_tell_314 : decode cX3_tell 314 = .ok (.ireturn, 1) := by decide +kernel
theorem dX3_tell_315 : decode cX3_tell 315 = .ok (.iconst 0, 1) := by decide +kernel
theorem dX3_tell_316 : decode cX3_tell 316 = .ok (.ireturn, 1) := by decide +kernel
theorem dX3_comeIn_0 : decode cX3_comeIn 0 = .ok (.aload_n 0, 1) := by decide +kernel
theorem dX3_comeIn_1 : decode cX3_comeIn 1 = .ok (.getfield 9, 3) := by decide +kernel
theorem dX3_comeIn_4 : decode cX3_comeIn 4 = .ok (.aload_n 0, 1) := by decide +kernel
theorem dX3_comeIn_5 : decode cX3_comeIn 5 = .ok (.getfield 108, 3) := by decide +kernel
theorem dX3_comeIn_8 : decode cX3_comeIn 8 = .ok (.iaload, 1) := by decide +kernel
theorem dX3_comeIn_9 : decode cX3_comeIn 9 = .ok (.ifCond .ne 33, 3) := by decide +kernel
theorem dX3_comeIn_12 : decode cX3_comeIn 12 = .ok (.aload_n 0, 1) := by decide +kernel
theorem dX3_comeIn_13 : decode cX3_comeIn 13 = .ok (.getfield 48, 3) := by decide +kernel
theorem dX3_comeIn_16 : decode cX3_comeIn 16 = .ok (.aload_n 0, 1) := by decide +kernel
theorem dX3_comeIn_17 : decode cX3_comeIn 17 = .ok (.getfield 108, 3) := by decide +kernel
theorem dX3_comeIn_20 : decode cX3_comeIn 20 = .ok (.iconst 2, 1) := by decide +kernel
theorem dX3_comeIn_21 : decode cX3_comeIn 21 = .ok (.invokevirtual 184, 3) := by decide +kernel
theorem dX3_comeIn_24 : decode cX3_comeIn 24 = .ok (.ifCond .ne 18, 3) := by decide +kernel
theorem dX3_comeIn_27 : decode cX3_comeIn 27 = .ok (.aload_n 0, 1) := by decide +kernel
theorem dX3_comeIn_28 : decode cX3_comeIn 28 = .ok (.getfield 48, 3) := by decide +kernel
theorem dX3_comeIn_31 : decode cX3_comeIn 31 = .ok (.aload_n 0, 1) := by decide +kernel
theorem dX3_comeIn_32 : decode cX3_comeIn 32 = .ok (.getfield 108, 3) := by decide +kernel
theorem dX3_comeIn_35 : decode cX3_comeIn 35 = .ok (.iconst 3, 1) := by decide +kernel
theorem dX3_comeIn_36 : decode cX3_comeIn 36 = .ok (.invokevirtual 184, 3) := by decide +kernel
theorem dX3_comeIn_39 : decode cX3_comeIn 39 = .ok (.ifCond .eq 5, 3) := by decide +kernel
theorem dX3_comeIn_42 : decode cX3_comeIn 42 = .ok (.iconst 0, 1) := by decide +kernel
theorem dX3_comeIn_43 : decode cX3_comeIn 43 = .ok (.ireturn, 1) := by decide +kernel
theorem dX3_comeIn_44 : decode cX3_comeIn 44 = .ok (.aload_n 0, 1) := by decide +kernel
theorem dX3_comeIn_45 : decode cX3_comeIn 45 = .ok (.aload_n 0, 1) := by decide +kernel
theorem dX3_comeIn_46 : decode cX3_comeIn 46 = .ok (.aload_n 0, 1) := by decide +kernel
theorem dX3_comeIn_47 : decode cX3_comeIn 47 = .ok (.getfield 108, 3) := by decide +kernel
theorem dX3_comeIn_50 : decode cX3_comeIn 50 = .ok (.invokevirtual 188, 3) := by decide +kernel
theorem dX3_comeIn_53 : decode cX3_comeIn 53 = .ok (.invokevirtual 191, 3) := by decide +kernel
theorem dX3_comeIn_56 : decode cX3_comeIn 56 = .ok (.ifCond .eq 28, 3) := by decide +kernel
theorem dX3_comeIn_59 : decode cX3_comeIn 59 = .ok (.aload_n 0, 1) := by decide +kernel
theorem dX3_comeIn_60 : decode cX3_comeIn 60 = .ok (.getfield 48, 3) := by decide +kernel
theorem dX3_comeIn_63 : decode cX3_comeIn 63 = .ok (.aload_n 0, 1) := by decide +kernel
theorem dX3_comeIn_64 : decode cX3_comeIn 64 = .ok (.getfield 120, 3) := by decide +kernel
theorem dX3_comeIn_67 : decode cX3_comeIn 67 = .ok (.invokevirtual 195, 3) := by decide +kernel
theorem dX3_comeIn_70 : decode cX3_comeIn 70 = .ok (.ifCond .eq 14, 3) := by decide +kernel
theorem dX3_comeIn_73 : decode cX3_comeIn 73 = .ok (.aload_n 0, 1) := by decide +kernel
theorem dX3_comeIn_74 : decode cX3_comeIn 74 = .ok (.aload_n 0, 1) := by decide +kernel
theorem dX3_comeIn_75 : decode cX3_comeIn 75 = .ok (.getfield 117, 3) := by decide +kernel
theorem dX3_comeIn_78 : decode cX3_comeIn 78 = .ok (.invokevirtual 198, 3) := by decide +kernel
theorem dX3_comeIn_81 : decode cX3_comeIn 81 = .ok (.ifCond .ne 5, 3) := by decide +kernel
theorem dX3_comeIn_84 : decode cX3_comeIn 84 = .ok (.iconst 0, 1) := by decide +kernel
theorem dX3_comeIn_85 : decode cX3_comeIn 85 = .ok (.ireturn, 1) := by decide +kernel
theorem dX3_comeIn_86 : decode cX3_comeIn 86 = .ok (.aload_n 0, 1) := by decide +kernel
theorem dX3_comeIn_87 : decode cX3_comeIn 87 = .ok (.aload_n 0, 1) := by decide +kernel
theorem dX3_comeIn_88 : decode cX3_comeIn 88 = .ok (.getfield 108, 3) := by decide +kernel
theorem dX3_comeIn_91 : decode cX3_comeIn 91 = .ok (.iconst 1, 1) := by decide +kernel
theorem dX3_comeIn_92 : decode cX3_comeIn 92 = .ok (.aload_n 0, 1) := by decide +kernel
theorem dX3_comeIn_93 : decode cX3_comeIn 93 = .ok (.getfield 117, 3) := by decide +kernel
theorem dX3_comeIn_96 : decode cX3_comeIn 96 = .ok (.invokevirtual 201, 3) := by decide +kernel
theorem dX3_comeIn_99 : decode cX3_comeIn 99 = .ok (.iconst 1, 1) := by decide +kernel
theorem dX3_comeIn_100 : decode cX3_comeIn 100 = .ok (.ireturn, 1) := by decide +kernel
theorem dX3_goOut_0 : decode cX3_goOut 0 = .ok (.aload_n 0, 1) := by decide +kernel
theorem dX3_goOut_1 : decode cX3_goOut 1 = .ok (.getfield 9, 3) := by decide +kernel
theorem dX3_goOut_4 : decode cX3_goOut 4 = .ok (.aload_n 0, 1) := by decide +kernel
theorem dX3_goOut_5 : decode cX3_goOut 5 = .ok (.getfield 108, 3) := by decide +kernel
theorem dX3_goOut_8 : decode cX3_goOut 8 = .ok (.iaload, 1) := by decide +kernel
theorem dX3_goOut_9 : decode cX3_goOut 9 = .ok (.iconst 1, 1) := by decide +kernel
theorem dX3_goOut_10 : decode cX3_goOut 10 = .ok (.if_icmp .ne 43, 3) := by decide +kernel
theorem dX3_goOut_13 : decode cX3_goOut 13 = .ok (.aload_n 0, 1) := by decide +kernel
theorem dX3_goOut_14 : decode cX3_goOut 14 = .ok (.aload_n 0, 1) := by decide +kernel
theorem dX3_goOut_15 : decode cX3_goOut 15 = .ok (.aload_n 0, 1) := by decide +kernel
theorem dX3_goOut_16 : decode cX3_goOut 16 = .ok (.getfield 108, 3) := by decide +kernel
theorem dX3_goOut_19 : decode cX3_goOut 19 = .ok (.invokevirtual 188, 3) := by decide +kernel
theorem dX3_goOut_22 : decode cX3_goOut 22 = .ok (.invokevirtual 191, 3) := by decide +kernel
theorem dX3_goOut_25 : decode cX3_goOut 25 = .ok (.ifCond .eq 28, 3) := by decide +kernel
theorem dX3_goOut_28 : decode cX3_goOut 28 = .ok (.aload_n 0, 1) := by decide +kernel
theorem dX3_goOut_29 : decode cX3_goOut 29 = .ok (.getfield 48, 3) := by decide +kernel
theorem dX3_goOut_32 : decode cX3_goOut 32 = .ok (.aload_n 0, 1) := by decide +kernel
theorem dX3_goOut_33 : decode cX3_goOut 33 = .ok (.getfield 117, 3) := by decide +kernel
theorem dX3_goOut_36 : decode cX3_goOut 36 = .ok (.invokevirtual 195, 3) := by decide +kernel
theorem dX3_goOut_39 : decode cX3_goOut 39 = .ok (.ifCond .eq 14, 3) := by decide +kernel
theorem dX3_goOut_42 : decode cX3_goOut 42 = .ok (.aload_n 0, 1) := by decide +kernel
theorem dX3_goOut_43 : decode cX3_goOut 43 = .ok (.aload_n 0, 1) := by decide +kernel
theorem dX3_goOut_44 : decode cX3_goOut 44 = .ok (.getfield 120, 3) := by decide +kernel
theorem dX3_goOut_47 : decode cX3_goOut 47 = .ok (.invokevirtual 205, 3) := by decide +kernel
theorem dX3_goOut_50 : decode cX3_goOut 50 = .ok (.ifCond .ne 5, 3) := by decide +kernel
theorem dX3_goOut_53 : decode cX3_goOut 53 = .ok (.iconst 0, 1) := by decide +kernel
theorem dX3_goOut_54 : decode cX3_goOut 54 = .ok (.ireturn, 1) := by decide +kernel
theorem dX3_goOut_55 : decode cX3_goOut 55 = .ok (.aload_n 0, 1) := by decide +kernel
theorem dX3_goOut_56 : decode cX3_goOut 56 = .ok (.aload_n 0, 1) := by decide +kernel
theorem dX3_goOut_57 : decode cX3_goOut 57 = .ok (.getfield 108, 3) := by decide +kernel
theorem dX3_goOut_60 : decode cX3_goOut 60 = .ok (.iconst 2, 1) := by decide +kernel
theorem dX3_goOut_61 : decode cX3_goOut 61 = .ok (.aload_n 0, 1) := by decide +kernel
theorem dX3_goOut_62 : decode cX3_goOut 62 = .ok (.getfield 117, 3) := by decide +kernel
theorem dX3_goOut_65 : decode cX3_goOut 65 = .ok (.invokevirtual 201, 3) := by decide +kernel
theorem dX3_goOut_68 : decode cX3_goOut 68 = .ok (.aload_n 0, 1) := by decide +kernel
theorem dX3_goOut_69 : decode cX3_goOut 69 = .ok (.getfield 24, 3) := by decide +kernel
theorem dX3_goOut_72 : decode cX3_goOut 72 = .ok (.aload_n 0, 1) := by decide +kernel
theorem dX3_goOut_73 : decode cX3_goOut 73 = .ok (.getfield 108, 3) := by decide +kernel
theorem dX3_goOut_76 : decode cX3_goOut 76 = .ok (.aload_n 0, 1) := by decide +kernel
theorem dX3_goOut_77 : decode cX3_goOut 77 = .ok (.getfield 120, 3) := by decide +kernel
theorem dX3_goOut_80 : decode cX3_goOut 80 = .ok (.iastore, 1) := by decide +kernel
theorem dX3_goOut_81 : decode cX3_goOut 81 = .ok (.iconst 1, 1) := by decide +kernel
theorem dX3_goOut_82 : decode cX3_goOut 82 = .ok (.ireturn, 1) := by decide +kernel
theorem dX3_goOn_0 : decode cX3_goOn 0 = .ok (.aload_n 0, 1) := by decide +kernel
theorem dX3_goOn_1 : decode cX3_goOn 1 = .ok (.aload_n 0, 1) := by decide +kernel
theorem dX3_goOn_2 : decode cX3_goOn 2 = .ok (.getfield 108, 3) := by decide +kernel
theorem dX3_goOn_5 : decode cX3_goOn 5 = .ok (.iconst 2, 1) := by decide +kernel
theorem dX3_goOn_6 : decode cX3_goOn 6 = .ok (.aload_n 0, 1) := by decide +kernel
theorem dX3_goOn_7 : decode cX3_goOn 7 = .ok (.getfield 117, 3) := by decide +kernel
theorem dX3_goOn_10 : decode cX3_goOn 10 = .ok (.invokevirtual 208, 3) := by decide +kernel
theorem dX3_goOn_13 : decode cX3_goOn 13 = .ok (.ifCond .eq 28, 3) := by decide +kernel
theorem dX3_goOn_16 : decode cX3_goOn 16 = .ok (.aload_n 0, 1) := by decide +kernel
theorem dX3_goOn_17 : decode cX3_goOn 17 = .ok (.getfield 48, 3) := by decide +kernel
theorem dX3_goOn_20 : decode cX3_goOn 20 = .ok (.aload_n 0, 1) := by decide +kernel
theorem dX3_goOn_21 : decode cX3_goOn 21 = .ok (.getfield 120, 3) := by decide +kernel
theorem dX3_goOn_24 : decode cX3_goOn 24 = .ok (.invokevirtual 195, 3) := by decide +kernel
theorem dX3_goOn_27 : decode cX3_goOn 27 = .ok (.ifCond .eq 14, 3) := by decide +kernel
theorem dX3_goOn_30 : decode cX3_goOn 30 = .ok (.aload_n 0, 1) := by decide +kernel
theorem dX3_goOn_31 : decode cX3_goOn 31 = .ok (.getfield 117, 3) := by decide +kernel
theorem dX3_goOn_34 : decode cX3_goOn 34 = .ok (.aload_n 0, 1) := by decide +kernel
theorem dX3_goOn_35 : decode cX3_goOn 35 = .ok (.getfield 120, 3) := by decide +kernel
theorem dX3_goOn_38 : decode cX3_goOn 38 = .ok (.if_icmp .ne 5, 3) := by decide +kernel
theorem dX3_goOn_41 : decode cX3_goOn 41 = .ok (.iconst 0, 1) := by decide +kernel
theorem dX3_goOn_42 : decode cX3_goOn 42 = .ok (.ireturn, 1) := by decide +kernel
theorem dX3_goOn_43 : decode cX3_goOn 43 = .ok (.aload_n 0, 1) := by decide +kernel
theorem dX3_goOn_44 : decode cX3_goOn 44 = .ok (.aload_n 0, 1) := by decide +kernel
theorem dX3_goOn_45 : decode cX3_goOn 45 = .ok (.getfield 108, 3) := by decide +kernel
theorem dX3_goOn_48 : decode cX3_goOn 48 = .ok (.iconst 2, 1) := by decide +kernel
theorem dX3_goOn_49 : decode cX3_goOn 49 = .ok (.aload_n 0, 1) := by decide +kernel
theorem dX3_goOn_50 : decode cX3_goOn 50 = .ok (.getfield 120, 3) := by decide +kernel
theorem dX3_goOn_53 : decode cX3_goOn 53 = .ok (.invokevirtual 201, 3) := by decide +kernel
theorem dX3_goOn_56 : decode cX3_goOn 56 = .ok (.iconst 1, 1) := by decide +kernel
theorem dX3_goOn_57 : decode cX3_goOn 57 = .ok (.ireturn, 1) := by decide +kernel
theorem dX3_comeBack_0 : decode cX3_comeBack 0 = .ok (.aload_n 0, 1) := by decide +kernel
theorem dX3_comeBack_1 : decode cX3_comeBack 1 = .ok (.aload_n 0, 1) := by decide +kernel
theorem dX3_comeBack_2 : decode cX3_comeBack 2 = .ok (.getfield 108, 3) := by decide +kernel
theorem dX3_comeBack_5 : decode cX3_comeBack 5 = .ok (.iconst 2, 1) := by decide +kernel
theorem dX3_comeBack_6 : decode cX3_comeBack 6 = .ok (.aload_n 0, 1) := by decide +kernel
theorem dX3_comeBack_7 : decode cX3_comeBack 7 = .ok (.getfield 120, 3) := by decide +kernel
theorem dX3_comeBack_10 : decode cX3_comeBack 10 = .ok (.invokevirtual 208, 3) := by decide +kernel
theorem dX3_comeBack_13 : decode cX3_comeBack 13 = .ok (.ifCond .eq 29, 3) := by decide +kernel
theorem dX3_comeBack_16 : decode cX3_comeBack 16 = .ok (.aload_n 0, 1) := by decide +kernel
theorem dX3_comeBack_17 : decode cX3_comeBack 17 = .ok (.aload_n 0, 1) := by decide +kernel
theorem dX3_comeBack_18 : decode cX3_comeBack 18 = .ok (.aload_n 0, 1) := by decide +kernel
theorem dX3_comeBack_19 : decode cX3_comeBack 19 = .ok (.getfield 108, 3) := by decide +kernel
theorem dX3_comeBack_22 : decode cX3_comeBack 22 = .ok (.invokevirtual 188, 3) := by decide +kernel
theorem dX3_comeBack_25 : decode cX3_comeBack 25 = .ok (.invokevirtual 191, 3) := by decide +kernel
theorem dX3_comeBack_28 : decode cX3_comeBack 28 = .ok (.ifCond .eq 14, 3) := by decide +kernel
theorem dX3_comeBack_31 : decode cX3_comeBack 31 = .ok (.aload_n 0, 1) := by decide +kernel
theorem dX3_comeBack_32 : decode cX3_comeBack 32 = .ok (.aload_n 0, 1) := by decide +kernel
theorem dX3_comeBack_33 : decode cX3_comeBack 33 = .ok (.getfield 117, 3) := by decide +kernel
theorem dX3_comeBack_36 : decode cX3_comeBack 36 = .ok (.invokevirtual 198, 3) := by decide +kernel
theorem dX3_comeBack_39 : decode cX3_comeBack 39 = .ok (.ifCond .ne 5, 3) := by decide +kernel
theorem dX3_comeBack_42 : decode cX3_comeBack 42 = .ok (.iconst 0, 1) := by decide +kernel
theorem dX3_comeBack_43 : decode cX3_comeBack 43 = .ok (.ireturn, 1) := by decide +kernel
theorem dX3_comeBack_44 : decode cX3_comeBack 44 = .ok (.aload_n 0, 1) := by decide +kernel
theorem dX3_comeBack_45 : decode cX3_comeBack 45 = .ok (.aload_n 0, 1) := by decide +kernel
theorem dX3_comeBack_46 : decode cX3_comeBack 46 = .ok (.getfield 108, 3) := by decide +kernel
theorem dX3_comeBack_49 : decode cX3_comeBack 49 = .ok (.iconst 1, 1) := by decide +kernel
theorem dX3_comeBack_50 : decode cX3_comeBack 50 = .ok (.aload_n 0, 1) := by decide +kernel
theorem dX3_comeBack_51 : decode cX3_comeBack 51 = .ok (.getfield 117, 3) := by decide +kernel
theorem dX3_comeBack_54 : decode cX3_comeBack 54 = .ok (.invokevirtual 201, 3) := by decide +kernel
theorem dX3_comeBack_57 : decode cX3_comeBack 57 = .ok (.aload_n 0, 1) := by decide +kernel
theorem dX3_comeBack_58 : decode cX3_comeBack 58 = .ok (.getfield 24, 3) := by decide +kernel
theorem dX3_comeBack_61 : decode cX3_comeBack 61 = .ok (.aload_n 0, 1) := by decide +kernel
theorem dX3_comeBack_62 : decode cX3_comeBack 62 = .ok (.getfield 108, 3) := by decide +kernel
theorem dX3_comeBack_65 : decode cX3_comeBack 65 = .ok (.iconst (-1), 1) := by decide +kernel
theorem dX3_comeBack_66 : decode cX3_comeBack 66 = .ok (.iastore, 1) := by decide +kernel
theorem dX3_comeBack_67 : decode cX3_comeBack 67 = .ok (.iconst 1, 1) := by decide +kernel
theorem dX3_comeBack_68 : decode cX3_comeBack 68 = .ok (.ireturn, 1) := by decide +kernel
theorem dX3_putElsewhere_0 : decode cX3_putElsewhere 0 = .ok (.aload_n 0, 1) := by decide +kernel
theorem dX3_putElsewhere_1 : decode cX3_putElsewhere 1 = .ok (.getfield 9, 3) := by decide +kernel
theorem dX3_putElsewhere_4 : decode cX3_putElsewhere 4 = .ok (.aload_n 0, 1) := by decide +kernel
theorem dX3_putElsewhere_5 : decode cX3_putElsewhere 5 = .ok (.getfield 108, 3) := by decide +kernel
theorem dX3_putElsewhere_8 : decode cX3_putElsewhere 8 = .ok (.iaload, 1) := by decide +kernel
theorem dX3_putElsewhere_9 : decode cX3_putElsewhere 9 = .ok (.iconst 1, 1) := by decide +kernel
theorem dX3_putElsewhere_10 : decode cX3_putElsewhere 10 = .ok (.if_icmp .ne 29, 3) := by decide +kernel
theorem dX3_putElsewhere_13 : decode cX3_putElsewhere 13 = .ok (.aload_n 0, 1) := by decide +kernel
theorem dX3_putElsewhere_14 : decode cX3_putElsewhere 14 = .ok (.aload_n 0, 1) := by decide +kernel
theorem dX3_putElsewhere_15 : decode cX3_putElsewhere 15 = .ok (.aload_n 0, 1) := by decide +kernel
theorem dX3_putElsewhere_16 : decode cX3_putElsewhere 16 = .ok (.getfield 108, 3) := by decide +kernel
theorem dX3_putElsewhere_19 : decode cX3_putElsewhere 19 = .ok (.invokevirtual 188, 3) := by decide +kernel
theorem dX3_putElsewhere_22 : decode cX3_putElsewhere 22 = .ok (.invokevirtual 191, 3) := by decide +kernel
theorem dX3_putElsewhere_25 : decode cX3_putElsewhere 25 = .ok (.ifCond .eq 14, 3) := by decide +kernel
theorem dX3_putElsewhere_28 : decode cX3_putElsewhere 28 = .ok (.aload_n 0, 1) := by decide +kernel
theorem dX3_putElsewhere_29 : decode cX3_putElsewhere 29 = .ok (.aload_n 0, 1) := by decide +kernel
theorem dX3_putElsewhere_30 : decode cX3_putElsewhere 30 = .ok (.getfield 117, 3) := by decide +kernel
theorem dX3_putElsewhere_33 : decode cX3_putElsewhere 33 = .ok (.invokevirtual 198, 3) := by decide +kernel
theorem dX3_putElsewhere_36 : decode cX3_putElsewhere 36 = .ok (.ifCond .ne 5, 3) := by decide +kernel
theorem dX3_putElsewhere_39 : decode cX3_putElsewhere 39 = .ok (.iconst 0, 1) := by decide +kernel
theorem dX3_putElsewhere_40 : decode cX3_putElsewhere 40 = .ok (.ireturn, 1) := by decide +kernel
theorem dX3_putElsewhere_41 : decode cX3_putElsewhere 41 = .ok (.aload_n 0, 1) := by decide +kernel
theorem dX3_putElsewhere_42 : decode cX3_putElsewhere 42 = .ok (.aload_n 0, 1) := by decide +kernel
theorem dX3_putElsewhere_43 : decode cX3_putElsewhere 43 = .ok (.getfield 108, 3) := by decide +kernel
theorem dX3_putElsewhere_46 : decode cX3_putElsewhere 46 = .ok (.iconst 1, 1) := by decide +kernel
theorem dX3_putElsewhere_47 : decode cX3_putElsewhere 47 = .ok (.aload_n 0, 1) := by decide +kernel
theorem dX3_putElsewhere_48 : decode cX3_putElsewhere 48 = .ok (.getfield 117, 3) := by decide +kernel
theorem dX3_putElsewhere_51 : decode cX3_putElsewhere 51 = .ok (.invokevirtual 201, 3) := by decide +kernel
theorem dX3_putElsewhere_54 : decode cX3_putElsewhere 54 = .ok (.iconst 1, 1) := by decide +kernel
theorem dX3_putElsewhere_55 : decode cX3_putElsewhere 55 = .ok (.ireturn, 1) := by decide +kernel
theorem dX3_goInto_0 : decode cX3_goInto 0 = .ok (.aload_n 0, 1) := by decide +kernel
theorem dX3_goInto_1 : decode cX3_goInto 1 = .ok (.getfield 48, 3) := by decide +kernel
theorem dX3_goInto_4 : decode cX3_goInto 4 = .ok (.aload_n 0, 1) := by decide +kernel
theorem dX3_goInto_5 : decode cX3_goInto 5 = .ok (.getfield 117, 3) := by decide +kernel
theorem dX3_goInto_8 : decode cX3_goInto 8 = .ok (.invokevirtual 212, 3) := by decide +kernel
theorem dX3_goInto_11 : decode cX3_goInto 11 = .ok (.ifCond .eq 38, 3) := by decide +kernel
theorem dX3_goInto_14 : decode cX3_goInto 14 = .ok (.aload_n 0, 1) := by decide +kernel
theorem dX3_goInto_15 : decode cX3_goInto 15 = .ok (.aload_n 0, 1) := by decide +kernel
theorem dX3_goInto_16 : decode cX3_goInto 16 = .ok (.getfield 117, 3) := by decide +kernel
theorem dX3_goInto_19 : decode cX3_goInto 19 = .ok (.invokevirtual 90, 3) := by decide +kernel
theorem dX3_goInto_22 : decode cX3_goInto 22 = .ok (.ifCond .eq 27, 3) := by decide +kernel
theorem dX3_goInto_25 : decode cX3_goInto 25 = .ok (.aload_n 0, 1) := by decide +kernel
theorem dX3_goInto_26 : decode cX3_goInto 26 = .ok (.getfield 117, 3) := by decide +kernel
theorem dX3_goInto_29 : decode cX3_goInto 29 = .ok (.aload_n 0, 1) := by decide +kernel
theorem dX3_goInto_30 : decode cX3_goInto 30 = .ok (.getfield 108, 3) := by decide +kernel
theorem dX3_goInto_33 : decode cX3_goInto 33 = .ok (.if_icmp .eq 16, 3) := by decide +kernel
theorem dX3_goInto_36 : decode cX3_goInto 36 = .ok (.aload_n 0, 1) := by decide +kernel
theorem dX3_goInto_37 : decode cX3_goInto 37 = .ok (.getfield 21, 3) := by decide +kernel
theorem dX3_goInto_40 : decode cX3_goInto 40 = .ok (.aload_n 0, 1) := by decide +kernel
theorem dX3_goInto_41 : decode cX3_goInto 41 = .ok (.getfield 117, 3) := by decide +kernel
theorem dX3_goInto_44 : decode cX3_goInto 44 = .ok (.iaload, 1) := by decide +kernel
theorem dX3_goInto_45 : decode cX3_goInto 45 = .ok (.iconst (-1), 1) := by decide +kernel
theorem dX3_goInto_46 : decode cX3_goInto 46 = .ok (.if_icmp .eq 5, 3) := by decide +kernel
theorem dX3_goInto_49 : decode cX3_goInto 49 = .ok (.iconst 0, 1) := by decide +kernel
theorem dX3_goInto_50 : decode cX3_goInto 50 = .ok (.ireturn, 1) := by decide +kernel
theorem dX3_goInto_51 : decode cX3_goInto 51 = .ok (.aload_n 0, 1) := by decide +kernel
theorem dX3_goInto_52 : decode cX3_goInto 52 = .ok (.getfield 9, 3) := by decide +kernel
theorem dX3_goInto_55 : decode cX3_goInto 55 = .ok (.aload_n 0, 1) := by decide +kernel
theorem dX3_goInto_56 : decode cX3_goInto 56 = .ok (.getfield 108, 3) := by decide +kernel
theorem dX3_goInto_59 : decode cX3_goInto 59 = .ok (.iaload, 1) := by decide +kernel
theorem dX3_goInto_60 : decode cX3_goInto 60 = .ok (.iconst 1, 1) := by decide +kernel
theorem dX3_goInto_61 : decode cX3_goInto 61 = .ok (.if_icmp .ne 16, 3) := by decide +kernel
theorem dX3_goInto_64 : decode cX3_goInto 64 = .ok (.aload_n 0, 1) := by decide +kernel
theorem dX3_goInto_65 : decode cX3_goInto 65 = .ok (.getfield 9, 3) := by decide +kernel
theorem dX3_goInto_68 : decode cX3_goInto 68 = .ok (.aload_n 0, 1) := by decide +kernel
theorem dX3_goInto_69 : decode cX3_goInto 69 = .ok (.getfield 117, 3) := by decide +kernel
theorem dX3_goInto_72 : decode cX3_goInto 72 = .ok (.iaload, 1) := by decide +kernel
theorem dX3_goInto_73 : decode cX3_goInto 73 = .ok (.iconst 1, 1) := by decide +kernel
theorem dX3_goInto_74 : decode cX3_goInto 74 = .ok (.if_icmp .eq 37, 3) := by decide +kernel
theorem dX3_goInto_77 : decode cX3_goInto 77 = .ok (.aload_n 0, 1) := by decide +kernel
theorem dX3_goInto_78 : decode cX3_goInto 78 = .ok (.getfield 9, 3) := by decide +kernel
theorem dX3_goInto_81 : decode cX3_goInto 81 = .ok (.aload_n 0, 1) := by decide +kernel
theorem dX3_goInto_82 : decode cX3_goInto 82 = .ok (.getfield 117, 3) := by decide +kernel
theorem dX3_goInto_85 : decode cX3_goInto 85 = .ok (.iaload, 1) := by decide +kernel
theorem dX3_goInto_86 : decode cX3_goInto 86 = .ok (.iconst 2, 1) := by decide +kernel
theorem dX3_goInto_87 : decode cX3_goInto 87 = .ok (.if_icmp .ne 28, 3) := by decide +kernel
theorem dX3_goInto_90 : decode cX3_goInto 90 = .ok (.aload_n 0, 1) := by decide +kernel
theorem dX3_goInto_91 : decode cX3_goInto 91 = .ok (.aload_n 0, 1) := by decide +kernel
theorem dX3_goInto_92 : decode cX3_goInto 92 = .ok (.getfield 108, 3) := by decide +kernel
theorem dX3_goInto_95 : decode cX3_goInto 95 = .ok (.iconst 2, 1) := by decide +kernel
theorem dX3_goInto_96 : decode cX3_goInto 96 = .ok (.aload_n 0, 1) := by decide +kernel
theorem dX3_goInto_97 : decode cX3_goInto 97 = .ok (.getfield 15, 3) := by decide +kernel
theorem dX3_goInto_100 : decode cX3_goInto 100 = .ok (.aload_n 0, 1) := by decide +kernel
theorem dX3_goInto_101 : decode cX3_goInto 101 = .ok (.getfield 117, 3) := by decide +kernel
theorem dX3_goInto_104 : decode cX3_goInto 104 = .ok (.iaload, 1) := by decide +kernel
theorem dX3_goInto_105 : decode cX3_goInto 105 = .ok (.invokevirtual 208, 3) := by decide +kernel
theorem dX3_goInto_108 : decode cX3_goInto 108 = .ok (.ifCond .eq 7, 3) := by decide +kernel
theorem dX3_goInto_111 : decode cX3_goInto 111 = .ok (.iconst 1, 1) := by decide +kernel
theorem dX3_goInto_112 : decode cX3_goInto 112 = .ok (.goto 4, 3) := by decide +kernel
theorem dX3_goInto_115 : decode cX3_goInto 115 = .ok (.iconst 0, 1) := by decide +kernel
theorem dX3_goInto_116 : decode cX3_goInto 116 = .ok (.istore_n 1, 1) := by decide +kernel
theorem dX3_goInto_117 : decode cX3_goInto 117 = .ok (.iload_n 1, 1) := by decide +kernel
theorem dX3_goInto_118 : decode cX3_goInto 118 = .ok (.ifCond .eq 37, 3) := by decide +kernel
theorem dX3_goInto_121 : decode cX3_goInto 121 = .ok (.aload_n 0, 1) := by decide +kernel
theorem dX3_goInto_122 : decode cX3_goInto 122 = .ok (.aload_n 0, 1) := by decide +kernel
theorem dX3_goInto_123 : decode cX3_goInto 123 = .ok (.aload_n 0, 1) := by decide +kernel
theorem dX3_goInto_124 : decode cX3_goInto 124 = .ok (.getfield 108, 3) := by decide +kernel
theorem dX3_goInto_127 : decode cX3_goInto 127 = .ok (.invokevirtual 188, 3) := by decide +kernel
theorem dX3_goInto_130 : decode cX3_goInto 130 = .ok (.ifCond .ne 14, 3) := by decide +kernel
theorem dX3_goInto_133 : decode cX3_goInto 133 = .ok (.aload_n 0, 1) := by decide +kernel
theorem dX3_goInto_134 : decode cX3_goInto 134 = .ok (.aload_n 0, 1) := by decide +kernel
theorem dX3_goInto_135 : decode cX3_goInto 135 = .ok (.getfield 117, 3) := by decide +kernel
theorem dX3_goInto_138 : decode cX3_goInto 138 = .ok (.invokevirtual 188, 3) := by decide +kernel
theorem dX3_goInto_141 : decode cX3_goInto 141 = .ok (.ifCond .eq 7, 3) := by decide +kernel
theorem dX3_goInto_144 : decode cX3_goInto 144 = .ok (.iconst 1, 1) := by decide +kernel
theorem dX3_goInto_145 : decode cX3_goInto 145 = .ok (.goto 4, 3) := by decide +kernel
theorem dX3_goInto_148 : decode cX3_goInto 148 = .ok (.iconst 0, 1) := by decide +kernel
theorem dX3_goInto_149 : decode cX3_goInto 149 = .ok (.invokevirtual 191, 3) := by decide +kernel
theorem dX3_goInto_152 : decode cX3_goInto 152 = .ok (.ifCond .ne 5, 3) := by decide +kernel
theorem dX3_goInto_155 : decode cX3_goInto 155 = .ok (.iconst 0, 1) := by decide +kernel
theorem dX3_goInto_156 : decode cX3_goInto 156 = .ok (.ireturn, 1) := by decide +kernel
theorem dX3_goInto_157 : decode cX3_goInto 157 = .ok (.aload_n 0, 1) := by decide +kernel
theorem dX3_goInto_158 : decode cX3_goInto 158 = .ok (.getfield 36, 3) := by decide +kernel
theorem dX3_goInto_161 : decode cX3_goInto 161 = .ok (.aload_n 0, 1) := by decide +kernel
theorem dX3_goInto_162 : decode cX3_goInto 162 = .ok (.getfield 117, 3) := by decide +kernel
theorem dX3_goInto_165 : decode cX3_goInto 165 = .ok (.iaload, 1) := by decide +kernel
theorem dX3_goInto_166 : decode cX3_goInto 166 = .ok (.bipush 8, 2) := by decide +kernel
theorem dX3_goInto_168 : decode cX3_goInto 168 = .ok (.if_icmp .ge 17, 3) := by decide +kernel
theorem dX3_goInto_171 : decode cX3_goInto 171 = .ok (.aload_n 0, 1) := by decide +kernel
theorem dX3_goInto_172 : decode cX3_goInto 172 = .ok (.aload_n 0, 1) := by decide +kernel
theorem dX3_goInto_173 : decode cX3_goInto 173 = .ok (.getfield 108, 3) := by decide +kernel
theorem dX3_goInto_176 : decode cX3_goInto 176 = .ok (.invokevirtual 215, 3) := by decide +kernel
theorem dX3_goInto_179 : decode cX3_goInto 179 = .ok (.iconst 1, 1) := by decide +kernel
theorem dX3_goInto_180 : decode cX3_goInto 180 = .ok (.iadd, 1) := by decide +kernel
theorem dX3_goInto_181 : decode cX3_goInto 181 = .ok (.iconst 4, 1) := by decide +kernel
theorem dX3_goInto_182 : decode cX3_goInto 182 = .ok (.if_icmp .le 5, 3) := by decide +kernel
theorem dX3_goInto_185 : decode cX3_goInto 185 = .ok (.iconst 0, 1) := by decide +kernel
theorem dX3_goInto_186 : decode cX3_goInto 186 = .ok (.ireturn, 1) := by decide +kernel
theorem dX3_goInto_187 : decode cX3_goInto 187 = .ok (.aload_n 0, 1) := by decide +kernel
theorem dX3_goInto_188 : decode cX3_goInto 188 = .ok (.aload_n 0, 1) := by decide +kernel
theorem dX3_goInto_189 : decode cX3_goInto 189 = .ok (.getfield 108, 3) := by decide +kernel
theorem dX3_goInto_192 : decode cX3_goInto 192 = .ok (.iconst 3, 1) := by decide +kernel
theorem dX3_goInto_193 : decode cX3_goInto 193 = .ok (.aload_n 0, 1) := by decide +kernel
theorem dX3_goInto_194 : decode cX3_goInto 194 = .ok (.getfield 117, 3) := by decide +kernel
theorem dX3_goInto_197 : decode cX3_goInto 197 = .ok (.invokevirtual 201, 3) := by decide +kernel
theorem dX3_goInto_200 : decode cX3_goInto 200 = .ok (.iconst 1, 1) := by decide +kernel
theorem dX3_goInto_201 : decode cX3_goInto 201 = .ok (.ireturn, 1) := by decide +kernel
theorem dX3_comeFrom_0 : decode cX3_comeFrom 0 = .ok (.aload_n 0, 1) := by decide +kernel
theorem dX3_comeFrom_1 : decode cX3_comeFrom 1 = .ok (.aload_n 0, 1) := by decide +kernel
theorem dX3_comeFrom_2 : decode cX3_comeFrom 2 = .ok (.getfield 108, 3) := by decide +kernel
theorem dX3_comeFrom_5 : decode cX3_comeFrom 5 = .ok (.invokevirtual 218, 3) := by decide +kernel
theorem dX3_comeFrom_8 : decode cX3_comeFrom 8 = .ok (.istore_n 1, 1) := by decide +kernel
theorem dX3_comeFrom_9 : decode cX3_comeFrom 9 = .ok (.aload_n 0, 1) := by decide +kernel
theorem dX3_comeFrom_10 : decode cX3_comeFrom 10 = .ok (.getfield 48, 3) := by decide +kernel
theorem dX3_comeFrom_13 : decode cX3_comeFrom 13 = .ok (.iload_n 1, 1) := by decide +kernel
theorem dX3_comeFrom_14 : decode cX3_comeFrom 14 = .ok (.invokevirtual 73, 3) := by decide +kernel
theorem dX3_comeFrom_17 : decode cX3_comeFrom 17 = .ok (.ifCond .eq 44, 3) := by decide +kernel
theorem dX3_comeFrom_20 : decode cX3_comeFrom 20 = .ok (.aload_n 0, 1) := by decide +kernel
theorem dX3_comeFrom_21 : decode cX3_comeFrom 21 = .ok (.getfield 21, 3) := by decide +kernel
theorem dX3_comeFrom_24 : decode cX3_comeFrom 24 = .ok (.iload_n 1, 1) := by decide +kernel
theorem dX3_comeFrom_25 : decode cX3_comeFrom 25 = .ok (.iaload, 1) := by decide +kernel
theorem dX3_comeFrom_26 : decode cX3_comeFrom 26 = .ok (.iconst (-1), 1) := by decide +kernel
theorem dX3_comeFrom_27 : decode cX3_comeFrom 27 = .ok (.if_icmp .ne 34, 3) := by decide +kernel
theorem dX3_comeFrom_30 : decode cX3_comeFrom 30 = .ok (.aload_n 0, 1) := by decide +kernel
theorem dX3_comeFrom_31 : decode cX3_comeFrom 31 = .ok (.aload_n 0, 1) := by decide +kernel
theorem dX3_comeFrom_32 : decode cX3_comeFrom 32 = .ok (.aload_n 0, 1) := by decide +kernel
theorem dX3_comeFrom_33 : decode cX3_comeFrom 33 = .ok (.getfield 108, 3) := by decide +kernel
theorem dX3_comeFrom_36 : decode cX3_comeFrom 36 = .ok (.invokevirtual 188, 3) := by decide +kernel
theorem dX3_comeFrom_39 : decode cX3_comeFrom 39 = .ok (.ifCond .ne 11, 3) := by decide +kernel
theorem dX3_comeFrom_42 : decode cX3_comeFrom 42 = .ok (.aload_n 0, 1) := by decide +kernel
theorem dX3_comeFrom_43 : decode cX3_comeFrom 43 = .ok (.iload_n 1, 1) := by decide +kernel
theorem dX3_comeFrom_44 : decode cX3_comeFrom 44 = .ok (.invokevirtual 188, 3) := by decide +kernel
theorem dX3_comeFrom_47 : decode cX3_comeFrom 47 = .ok (.ifCond .eq 7, 3) := by decide +kernel
theorem dX3_comeFrom_50 : decode cX3_comeFrom 50 = .ok (.iconst 1, 1) := by decide +kernel
theorem dX3_comeFrom_51 : decode cX3_comeFrom 51 = .ok (.goto 4, 3) := by decide +kernel
theorem dX3_comeFrom_54 : decode cX3_comeFrom 54 = .ok (.iconst 0, 1) := by decide +kernel
theorem dX3_comeFrom_55 : decode cX3_comeFrom 55 = .ok (.invokevirtual 191, 3) := by decide +kernel
theorem dX3_comeFrom_58 : decode cX3_comeFrom 58 = .ok (.ifCond .ne 5, 3) := by decide +kernel
theorem dX3_comeFrom_61 : decode cX3_comeFrom 61 = .ok (.iconst 0, 1) := by decide +kernel
theorem dX3_comeFrom_62 : decode cX3_comeFrom 62 = .ok (.ireturn, 1) := by decide +kernel
theorem dX3_comeFrom_63 : decode cX3_comeFrom 63 = .ok (.aload_n 0, 1) := by decide +kernel
theorem dX3_comeFrom_64 : decode cX3_comeFrom 64 = .ok (.getfield 9, 3) := by decide +kernel
theorem dX3_comeFrom_67 : decode cX3_comeFrom 67 = .ok (.iload_n 1, 1) := by decide +kernel
theorem dX3_comeFrom_68 : decode cX3_comeFrom 68 = .ok (.iaload, 1) := by decide +kernel
theorem dX3_comeFrom_69 : decode cX3_comeFrom 69 = .ok (.iconst 2, 1) := by decide +kernel
theorem dX3_comeFrom_70 : decode cX3_comeFrom 70 = .ok (.if_icmp .ne 20, 3) := by decide +kernel
theorem dX3_comeFrom_73 : decode cX3_comeFrom 73 = .ok (.aload_n 0, 1) := by decide +kernel
theorem dX3_comeFrom_74 : decode cX3_comeFrom 74 = .ok (.aload_n 0, 1) := by decide +kernel
theorem dX3_comeFrom_75 : decode cX3_comeFrom 75 = .ok (.getfield 108, 3) := by decide +kernel
theorem dX3_comeFrom_78 : decode cX3_comeFrom 78 = .ok (.iconst 2, 1) := by decide +kernel
theorem dX3_comeFrom_79 : decode cX3_comeFrom 79 = .ok (.aload_n 0, 1) := by decide +kernel
theorem dX3_comeFrom_80 : decode cX3_comeFrom 80 = .ok (.getfield 15, 3) := by decide +kernel
theorem dX3_comeFrom_83 : decode cX3_comeFrom 83 = .ok (.iload_n 1, 1) := by decide +kernel
theorem dX3_comeFrom_84 : decode cX3_comeFrom 84 = .ok (.iaload, 1) := by decide +kernel
theorem dX3_comeFrom_85 : decode cX3_comeFrom 85 = .ok (.invokevirtual 201, 3) := by decide +kernel
theorem dX3_comeFrom_88 : decode cX3_comeFrom 88 = .ok (.iconst 1, 1) := by decide +kernel
theorem dX3_comeFrom_89 : decode cX3_comeFrom 89 = .ok (.ireturn, 1) := by decide +kernel
theorem dX3_comeFrom_90 : decode cX3_comeFrom 90 = .ok (.aload_n 0, 1) := by decide +kernel
theorem dX3_comeFrom_91 : decode cX3_comeFrom 91 = .ok (.getfield 9, 3) := by decide +kernel
theorem dX3_comeFrom_94 : decode cX3_comeFrom 94 = .ok (.iload_n 1, 1) := by decide +kernel
theorem dX3_comeFrom_95 : decode cX3_comeFrom 95 = .ok (.iaload, 1) := by decide +kernel
theorem dX3_comeFrom_96 : decode cX3_comeFrom 96 = .ok (.iconst 1, 1) := by decide +kernel
theorem dX3_comeFrom_97 : decode cX3_comeFrom 97 = .ok (.if_icmp .ne 14, 3) := by decide +kernel
theorem dX3_comeFrom_100 : decode cX3_comeFrom 100 = .ok (.aload_n 0, 1) := by decide +kernel
theorem dX3_comeFrom_101 : decode cX3_comeFrom 101 = .ok (.aload_n 0, 1) := by decide +kernel
theorem dX3_comeFrom_102 : decode cX3_comeFrom 102 = .ok (.getfield 117, 3) := by decide +kernel
theorem dX3_comeFrom_105 : decode cX3_comeFrom 105 = .ok (.invokevirtual 198, 3) := by decide +kernel
theorem dX3_comeFrom_108 : decode cX3_comeFrom 108 = .ok (.ifCond .ne 5, 3) := by decide +kernel
theorem dX3_comeFrom_111 : decode cX3_comeFrom 111 = .ok (.iconst 0, 1) := by decide +kernel
theorem dX3_comeFrom_112 : decode cX3_comeFrom 112 = .ok (.ireturn, 1) := by decide +kernel
theorem dX3_comeFrom_113 : decode cX3_comeFrom 113 = .ok (.aload_n 0, 1) := by decide +kernel
theorem dX3_comeFrom_114 : decode cX3_comeFrom 114 = .ok (.aload_n 0, 1) := by decide +kernel
theorem dX3_comeFrom_115 : decode cX3_comeFrom 115 = .ok (.getfield 108, 3) := by decide +kernel
theorem dX3_comeFrom_118 : decode cX3_comeFrom 118 = .ok (.iconst 1, 1) := by decide +kernel
theorem dX3_comeFrom_119 : decode cX3_comeFrom 119 = .ok (.aload_n 0, 1) := by decide +kernel
theorem dX3_comeFrom_120 : decode cX3_comeFrom 120 = .ok (.getfield 117, 3) := by decide +kernel
theorem dX3_comeFrom_123 : decode cX3_comeFrom 123 = .ok (.invokevirtual 201, 3) := by decide +kernel
theorem dX3_comeFrom_126 : decode cX3_comeFrom 126 = .ok (.iconst 1, 1) := by decide +kernel
theorem dX3_comeFrom_127 : decode cX3_comeFrom 127 = .ok (.ireturn, 1) := by decide +kernel
theorem dX3_close_0 : decode cX3_close 0 = .ok (.aload_n 0, 1) := by decide +kernel
theorem dX3_close_1 : decode cX3_close 1 = .ok (.getfield 48, 3) := by decide +kernel
theorem dX3_close_4 : decode cX3_close 4 = .ok (.aload_n 0, 1) := by decide +kernel
theorem dX3_close_5 : decode cX3_close 5 = .ok (.getfield 108, 3) := by decide +kernel
theorem dX3_close_8 : decode cX3_close 8 = .ok (.invokevirtual 212, 3) := by decide +kernel
theorem dX3_close_11 : decode cX3_close 11 = .ok (.ifCond .eq 42, 3) := by decide +kernel
theorem dX3_close_14 : decode cX3_close 14 = .ok (.aload_n 0, 1) := by decide +kernel
theorem dX3_close_15 : decode cX3_close 15 = .ok (.getfield 21, 3) := by decide +kernel
theorem dX3_close_18 : decode cX3_close 18 = .ok (.aload_n 0, 1) := by decide +kernel
theorem dX3_close_19 : decode cX3_close 19 = .ok (.getfield 108, 3) := by decide +kernel
theorem dX3_close_22 : decode cX3_close 22 = .ok (.iaload, 1) := by decide +kernel
theorem dX3_close_23 : decode cX3_close 23 = .ok (.iconst (-1), 1) := by decide +kernel
theorem dX3_close_24 : decode cX3_close 24 = .ok (.if_icmp .ne 29, 3) := by decide +kernel
theorem dX3_close_27 : decode cX3_close 27 = .ok (.aload_n 0, 1) := by decide +kernel
theorem dX3_close_28 : decode cX3_close 28 = .ok (.getfield 48, 3) := by decide +kernel
theorem dX3_close_31 : decode cX3_close 31 = .ok (.aload_n 0, 1) := by decide +kernel
theorem dX3_close_32 : decode cX3_close 32 = .ok (.getfield 117, 3) := by decide +kernel
theorem dX3_close_35 : decode cX3_close 35 = .ok (.invokevirtual 221, 3) := by decide +kernel
theorem dX3_close_38 : decode cX3_close 38 = .ok (.ifCond .eq 15, 3) := by decide +kernel
theorem dX3_close_41 : decode cX3_close 41 = .ok (.aload_n 0, 1) := by decide +kernel
theorem dX3_close_42 : decode cX3_close 42 = .ok (.getfield 45, 3) := by decide +kernel
theorem dX3_close_45 : decode cX3_close 45 = .ok (.aload_n 0, 1) := by decide +kernel
theorem dX3_close_46 : decode cX3_close 46 = .ok (.getfield 117, 3) := by decide +kernel
theorem dX3_close_49 : decode cX3_close 49 = .ok (.iaload, 1) := by decide +kernel
theorem dX3_close_50 : decode cX3_close 50 = .ok (.ifCond .eq 5, 3) := by decide +kernel
theorem dX3_close_53 : decode cX3_close 53 = .ok (.iconst 0, 1) := by decide +kernel
theorem dX3_close_54 : decode cX3_close 54 = .ok (.ireturn, 1) := by decide +kernel
theorem dX3_close_55 : decode cX3_close 55 = .ok (.aload_n 0, 1) := by decide +kernel
theorem dX3_close_56 : decode cX3_close 56 = .ok (.aload_n 0, 1) := by decide +kernel
theorem dX3_close_57 : decode cX3_close 57 = .ok (.getfield 108, 3) := by decide +kernel
theorem dX3_close_60 : decode cX3_close 60 = .ok (.invokevirtual 188, 3) := by decide +kernel
theorem dX3_close_63 : decode cX3_close 63 = .ok (.ifCond .eq 13, 3) := by decide +kernel
theorem dX3_close_66 : decode cX3_close 66 = .ok (.aload_n 0, 1) := by decide +kernel
theorem dX3_close_67 : decode cX3_close 67 = .ok (.iconst 1, 1) := by decide +kernel
theorem dX3_close_68 : decode cX3_close 68 = .ok (.invokevirtual 191, 3) := by decide +kernel
theorem dX3_close_71 : decode cX3_close 71 = .ok (.ifCond .ne 5, 3) := by decide +kernel
theorem dX3_close_74 : decode cX3_close 74 = .ok (.iconst 0, 1) := by decide +kernel
theorem dX3_close_75 : decode cX3_close 75 = .ok (.ireturn, 1) := by decide +kernel
theorem dX3_close_76 : decode cX3_close 76 = .ok (.aload_n 0, 1) := by decide +kernel
theorem dX3_close_77 : decode cX3_close 77 = .ok (.getfield 21, 3) := by decide +kernel
theorem dX3_close_80 : decode cX3_close 80 = .ok (.aload_n 0, 1) := by decide +kernel
theorem dX3_close_81 : decode cX3_close 81 = .ok (.getfield 108, 3) := by decide +kernel
theorem dX3_close_84 : decode cX3_close 84 = .ok (.aload_n 0, 1) := by decide +kernel
theorem dX3_close_85 : decode cX3_close 85 = .ok (.getfield 117, 3) := by decide +kernel
theorem dX3_close_88 : decode cX3_close 88 = .ok (.iastore, 1) := by decide +kernel
theorem dX3_close_89 : decode cX3_close 89 = .ok (.aload_n 0, 1) := by decide +kernel
theorem dX3_close_90 : decode cX3_close 90 = .ok (.getfield 45, 3) := by decide +kernel
theorem dX3_close_93 : decode cX3_close 93 = .ok (.aload_n 0, 1) := by decide +kernel
theorem dX3_close_94 : decode cX3_close 94 = .ok (.getfield 117, 3) := by decide +kernel
theorem dX3_close_97 : decode cX3_close 97 = .ok (.iconst 1, 1) := by decide +kernel
theorem dX3_close_98 : decode cX3_close 98 = .ok (.iastore, 1) := by decide +kernel
theorem dX3_close_99 : decode cX3_close 99 = .ok (.iconst 1, 1) := by decide +kernel
theorem dX3_close_100 : decode cX3_close 100 = .ok (.ireturn, 1) := by decide +kernel
theorem dX3_unseal_0 : decode cX3_unseal 0 = .ok (.aload_n 0, 1) := by decide +kernel
theorem dX3_unseal_1 : decode cX3_unseal 1 = .ok (.getfield 48, 3) := by decide +kernel
theorem dX3_unseal_4 : decode cX3_unseal 4 = .ok (.aload_n 0, 1) := by decide +kernel
theorem dX3_unseal_5 : decode cX3_unseal 5 = .ok (.getfield 108, 3) := by decide +kernel
theorem dX3_unseal_8 : decode cX3_unseal 8 = .ok (.invokevirtual 212, 3) := by decide +kernel
theorem dX3_unseal_11 : decode cX3_unseal 11 = .ok (.ifCond .eq 33, 3) := by decide +kernel
theorem dX3_unseal_14 : decode cX3_unseal 14 = .ok (.aload_n 0, 1) := by decide +kernel
theorem dX3_unseal_15 : decode cX3_unseal 15 = .ok (.getfield 21, 3) := by decide +kernel
theorem dX3_unseal_18 : decode cX3_unseal 18 = .ok (.aload_n 0, 1) := by decide +kernel
theorem dX3_unseal_19 : decode cX3_unseal 19 = .ok (.getfield 108, 3) := by decide +kernel
theorem dX3_unseal_22 : decode cX3_unseal 22 = .ok (.iaload, 1) := by decide +kernel
theorem dX3_unseal_23 : decode cX3_unseal 23 = .ok (.iconst (-1), 1) := by decide +kernel
theorem dX3_unseal_24 : decode cX3_unseal 24 = .ok (.if_icmp .eq 20, 3) := by decide +kernel
theorem dX3_unseal_27 : decode cX3_unseal 27 = .ok (.aload_n 0, 1) := by decide +kernel
theorem dX3_unseal_28 : decode cX3_unseal 28 = .ok (.getfield 117, 3) := by decide +kernel
theorem dX3_unseal_31 : decode cX3_unseal 31 = .ok (.ifCond .lt 13, 3) := by decide +kernel
theorem dX3_unseal_34 : decode cX3_unseal 34 = .ok (.aload_n 0, 1) := by decide +kernel
theorem dX3_unseal_35 : decode cX3_unseal 35 = .ok (.getfield 117, 3) := by decide +kernel
theorem dX3_unseal_38 : decode cX3_unseal 38 = .ok (.sipush 999, 3) := by decide +kernel
theorem dX3_unseal_41 : decode cX3_unseal 41 = .ok (.if_icmp .le 5, 3) := by decide +kernel
theorem dX3_unseal_44 : decode cX3_unseal 44 = .ok (.iconst 0, 1) := by decide +kernel
theorem dX3_unseal_45 : decode cX3_unseal 45 = .ok (.ireturn, 1) := by decide +kernel
theorem dX3_unseal_46 : decode cX3_unseal 46 = .ok (.aload_n 0, 1) := by decide +kernel
theorem dX3_unseal_47 : decode cX3_unseal 47 = .ok (.aload_n 0, 1) := by decide +kernel
theorem dX3_unseal_48 : decode cX3_unseal 48 = .ok (.getfield 108, 3) := by decide +kernel
theorem dX3_unseal_51 : decode cX3_unseal 51 = .ok (.invokevirtual 188, 3) := by decide +kernel
theorem dX3_unseal_54 : decode cX3_unseal 54 = .ok (.ifCond .eq 13, 3) := by decide +kernel
theorem dX3_unseal_57 : decode cX3_unseal 57 = .ok (.aload_n 0, 1) := by decide +kernel
theorem dX3_unseal_58 : decode cX3_unseal 58 = .ok (.iconst 1, 1) := by decide +kernel
theorem dX3_unseal_59 : decode cX3_unseal 59 = .ok (.invokevirtual 191, 3) := by decide +kernel
theorem dX3_unseal_62 : decode cX3_unseal 62 = .ok (.ifCond .ne 5, 3) := by decide +kernel
theorem dX3_unseal_65 : decode cX3_unseal 65 = .ok (.iconst 0, 1) := by decide +kernel
theorem dX3_unseal_66 : decode cX3_unseal 66 = .ok (.ireturn, 1) := by decide +kernel
theorem dX3_unseal_67 : decode cX3_unseal 67 = .ok (.aload_n 0, 1) := by decide +kernel
theorem dX3_unseal_68 : decode cX3_unseal 68 = .ok (.getfield 21, 3) := by decide +kernel
theorem dX3_unseal_71 : decode cX3_unseal 71 = .ok (.aload_n 0, 1) := by decide +kernel
theorem dX3_unseal_72 : decode cX3_unseal 72 = .ok (.getfield 108, 3) := by decide +kernel
theorem dX3_unseal_75 : decode cX3_unseal 75 = .ok (.iconst (-1), 1) := by decide +kernel
theorem dX3_unseal_76 : decode cX3_unseal 76 = .ok (.iastore, 1) := by decide +kernel
theorem dX3_unseal_77 : decode cX3_unseal 77 = .ok (.iconst 1, 1) := by decide +kernel
theorem dX3_unseal_78 : decode cX3_unseal 78 = .ok (.ireturn, 1) := by decide +kernel
theorem dX3_look_0 : decode cX3_look 0 = .ok (.aload_n 0, 1) := by decide +kernel
theorem dX3_look_1 : decode cX3_look 1 = .ok (.getfield 48, 3) := by decide +kernel
theorem dX3_look_4 : decode cX3_look 4 = .ok (.aload_n 0, 1) := by decide +kernel
theorem dX3_look_5 : decode cX3_look 5 = .ok (.getfield 108, 3) := by decide +kernel
theorem dX3_look_8 : decode cX3_look 8 = .ok (.invokevirtual 212, 3) := by decide +kernel
theorem dX3_look_11 : decode cX3_look 11 = .ok (.ifCond .eq 25, 3) := by decide +kernel
theorem dX3_look_14 : decode cX3_look 14 = .ok (.aload_n 0, 1) := by decide +kernel
theorem dX3_look_15 : decode cX3_look 15 = .ok (.getfield 117, 3) := by decide +kernel
theorem dX3_look_18 : decode cX3_look 18 = .ok (.iconst (-1), 1) := by decide +kernel
theorem dX3_look_19 : decode cX3_look 19 = .ok (.if_icmp .lt 17, 3) := by decide +kernel
theorem dX3_look_22 : decode cX3_look 22 = .ok (.aload_n 0, 1) := by decide +kernel
theorem dX3_look_23 : decode cX3_look 23 = .ok (.getfield 117, 3) := by decide +kernel
theorem dX3_look_26 : decode cX3_look 26 = .ok (.sipush 999, 3) := by decide +kernel
theorem dX3_look_29 : decode cX3_look 29 = .ok (.if_icmp .gt 7, 3) := by decide +kernel
theorem dX3_look_32 : decode cX3_look 32 = .ok (.iconst 1, 1) := by decide +kernel
theorem dX3_look_33 : decode cX3_look 33 = .ok (.goto 4, 3) := by decide +kernel
theorem dX3_look_36 : decode cX3_look 36 = .ok (.iconst 0, 1) := by decide +kernel
theorem dX3_look_37 : decode cX3_look 37 = .ok (.ireturn, 1) := by decide +kernel
theorem dX3_takePart_0 : decode cX3_takePart 0 = .ok (.aload_n 0, 1) := by decide +kernel
theorem dX3_takePart_1 : decode cX3_takePart 1 = .ok (.iconst 2, 1) := by decide +kernel
theorem dX3_takePart_2 : decode cX3_takePart 2 = .ok (.invokevirtual 224, 3) := by decide +kernel
theorem dX3_takePart_5 : decode cX3_takePart 5 = .ok (.ifCond .eq 27, 3) := by decide +kernel
theorem dX3_takePart_8 : decode cX3_takePart 8 = .ok (.aload_n 0, 1) := by decide +kernel
theorem dX3_takePart_9 : decode cX3_takePart 9 = .ok (.getfield 120, 3) := by decide +kernel
theorem dX3_takePart_12 : decode cX3_takePart 12 = .ok (.iconst 1, 1) := by decide +kernel
theorem dX3_takePart_13 : decode cX3_takePart 13 = .ok (.if_icmp .lt 19, 3) := by decide +kernel
theorem dX3_takePart_16 : decode cX3_takePart 16 = .ok (.aload_n 0, 1) := by decide +kernel
theorem dX3_takePart_17 : decode cX3_takePart 17 = .ok (.getfield 120, 3) := by decide +kernel
theorem dX3_takePart_20 : decode cX3_takePart 20 = .ok (.aload_n 0, 1) := by decide +kernel
theorem dX3_takePart_21 : decode cX3_takePart 21 = .ok (.getfield 18, 3) := by decide +kernel
theorem dX3_takePart_24 : decode cX3_takePart 24 = .ok (.aload_n 0, 1) := by decide +kernel
theorem dX3_takePart_25 : decode cX3_takePart 25 = .ok (.getfield 108, 3) := by decide +kernel
theorem dX3_takePart_28 : decode cX3_takePart 28 = .ok (.iaload, 1) := by decide +kernel
theorem dX3_takePart_29 : decode cX3_takePart 29 = .ok (.if_icmp .le 5, 3) := by decide +kernel
theorem dX3_takePart_32 : decode cX3_takePart 32 = .ok (.iconst 0, 1) := by decide +kernel
theorem dX3_takePart_33 : decode cX3_takePart 33 = .ok (.ireturn, 1) := by decide +kernel
theorem dX3_takePart_34 : decode cX3_takePart 34 = .ok (.aload_n 0, 1) := by decide +kernel
theorem dX3_takePart_35 : decode cX3_takePart 35 = .ok (.getfield 18, 3) := by decide +kernel
theorem dX3_takePart_38 : decode cX3_takePart 38 = .ok (.aload_n 0, 1) := by decide +kernel
theorem dX3_takePart_39 : decode cX3_takePart 39 = .ok (.getfield 108, 3) := by decide +kernel
theorem dX3_takePart_42 : decode cX3_takePart 42 = .ok (.dup2, 1) := by decide +kernel
theorem dX3_takePart_43 : decode cX3_takePart 43 = .ok (.iaload, 1) := by decide +kernel
theorem dX3_takePart_44 : decode cX3_takePart 44 = .ok (.aload_n 0, 1) := by decide +kernel
theorem dX3_takePart_45 : decode cX3_takePart 45 = .ok (.getfield 120, 3) := by decide +kernel
theorem dX3_takePart_48 : decode cX3_takePart 48 = .ok (.isub, 1) := by decide +kernel
theorem dX3_takePart_49 : decode cX3_takePart 49 = .ok (.iastore, 1) := by decide +kernel
theorem dX3_takePart_50 : decode cX3_takePart 50 = .ok (.aload_n 0, 1) := by decide +kernel
theorem dX3_takePart_51 : decode cX3_takePart 51 = .ok (.getfield 18, 3) := by decide +kernel
theorem dX3_takePart_54 : decode cX3_takePart 54 = .ok (.aload_n 0, 1) := by decide +kernel
theorem dX3_takePart_55 : decode cX3_takePart 55 = .ok (.getfield 117, 3) := by decide +kernel
theorem dX3_takePart_58 : decode cX3_takePart 58 = .ok (.aload_n 0, 1) := by decide +kernel
theorem dX3_takePart_59 : decode cX3_takePart 59 = .ok (.getfield 120, 3) := by decide +kernel
theorem dX3_takePart_62 : decode cX3_takePart 62 = .ok (.iastore, 1) := by decide +kernel
theorem dX3_takePart_63 : decode cX3_takePart 63 = .ok (.aload_n 0, 1) := by decide +kernel
theorem dX3_takePart_64 : decode cX3_takePart 64 = .ok (.invokevirtual 227, 3) := by decide +kernel
theorem dX3_takePart_67 : decode cX3_takePart 67 = .ok (.iconst 1, 1) := by decide +kernel
theorem dX3_takePart_68 : decode cX3_takePart 68 = .ok (.ireturn, 1) := by decide +kernel
theorem dX3_takeCopy_0 : decode cX3_takeCopy 0 = .ok (.aload_n 0, 1) := by decide +kernel
theorem dX3_takeCopy_1 : decode cX3_takeCopy 1 = .ok (.iconst 3, 1) := by decide +kernel
theorem dX3_takeCopy_2 : decode cX3_takeCopy 2 = .ok (.invokevirtual 224, 3) := by decide +kernel
theorem dX3_takeCopy_5 : decode cX3_takeCopy 5 = .ok (.ifCond .ne 5, 3) := by decide +kernel
theorem dX3_takeCopy_8 : decode cX3_takeCopy 8 = .ok (.iconst 0, 1) := by decide +kernel
theorem dX3_takeCopy_9 : decode cX3_takeCopy 9 = .ok (.ireturn, 1) := by decide +kernel
theorem dX3_takeCopy_10 : decode cX3_takeCopy 10 = .ok (.aload_n 0, 1) := by decide +kernel
theorem dX3_takeCopy_11 : decode cX3_takeCopy 11 = .ok (.invokevirtual 227, 3) := by decide +kernel
theorem dX3_takeCopy_14 : decode cX3_takeCopy 14 = .ok (.iconst 1, 1) := by decide +kernel
theorem dX3_takeCopy_15 : decode cX3_takeCopy 15 = .ok (.ireturn, 1) := by decide +kernel
theorem dX3_mayBeTaken_0 : decode cX3_mayBeTaken 0 = .ok (.aload_n 0, 1) := by decide +kernel
theorem dX3_mayBeTaken_1 : decode cX3_mayBeTaken 1 = .ok (.getfield 48, 3) := by decide +kernel
theorem dX3_mayBeTaken_4 : decode cX3_mayBeTaken 4 = .ok (.aload_n 0, 1) := by decide +kernel
theorem dX3_mayBeTaken_5 : decode cX3_mayBeTaken 5 = .ok (.getfield 117, 3) := by decide +kernel
theorem dX3_mayBeTaken_8 : decode cX3_mayBeTaken 8 = .ok (.iload_n 1, 1) := by decide +kernel
theorem dX3_mayBeTaken_9 : decode cX3_mayBeTaken 9 = .ok (.invokevirtual 184, 3) := by decide +kernel
theorem dX3_mayBeTaken_12 : decode cX3_mayBeTaken 12 = .ok (.ifCond .eq 45, 3) := by decide +kernel
theorem dX3_mayBeTaken_15 : decode cX3_mayBeTaken 15 = .ok (.aload_n 0, 1) := by decide +kernel
theorem dX3_mayBeTaken_16 : decode cX3_mayBeTaken 16 = .ok (.getfield 9, 3) := by decide +kernel
theorem dX3_mayBeTaken_19 : decode cX3_mayBeTaken 19 = .ok (.aload_n 0, 1) := by decide +kernel
theorem dX3_mayBeTaken_20 : decode cX3_mayBeTaken 20 = .ok (.getfield 117, 3) := by decide +kernel
theorem dX3_mayBeTaken_23 : decode cX3_mayBeTaken 23 = .ok (.iaload, 1) := by decide +kernel
theorem dX3_mayBeTaken_24 : decode cX3_mayBeTaken 24 = .ok (.ifCond .ne 33, 3) := by decide +kernel
theorem dX3_mayBeTaken_27 : decode cX3_mayBeTaken 27 = .ok (.aload_n 0, 1) := by decide +kernel
theorem dX3_mayBeTaken_28 : decode cX3_mayBeTaken 28 = .ok (.aload_n 0, 1) := by decide +kernel
theorem dX3_mayBeTaken_29 : decode cX3_mayBeTaken 29 = .ok (.getfield 108, 3) := by decide +kernel
theorem dX3_mayBeTaken_32 : decode cX3_mayBeTaken 32 = .ok (.invokevirtual 230, 3) := by decide +kernel
theorem dX3_mayBeTaken_35 : decode cX3_mayBeTaken 35 = .ok (.ifCond .eq 22, 3) := by decide +kernel
theorem dX3_mayBeTaken_38 : decode cX3_mayBeTaken 38 = .ok (.aload_n 0, 1) := by decide +kernel
theorem dX3_mayBeTaken_39 : decode cX3_mayBeTaken 39 = .ok (.aload_n 0, 1) := by decide +kernel
theorem dX3_mayBeTaken_40 : decode cX3_mayBeTaken 40 = .ok (.aload_n 0, 1) := by decide +kernel
theorem dX3_mayBeTaken_41 : decode cX3_mayBeTaken 41 = .ok (.getfield 108, 3) := by decide +kernel
theorem dX3_mayBeTaken_44 : decode cX3_mayBeTaken 44 = .ok (.invokevirtual 188, 3) := by decide +kernel
theorem dX3_mayBeTaken_47 : decode cX3_mayBeTaken 47 = .ok (.invokevirtual 191, 3) := by decide +kernel
theorem dX3_mayBeTaken_50 : decode cX3_mayBeTaken 50 = .ok (.ifCond .eq 7, 3) := by decide +kernel
theorem dX3_mayBeTaken_53 : decode cX3_mayBeTaken 53 = .ok (.iconst 1, 1) := by decide +kernel
theorem dX3_mayBeTaken_54 : decode cX3_mayBeTaken 54 = .ok (.goto 4, 3) := by decide +kernel
theorem dX3_mayBeTaken_57 : decode cX3_mayBeTaken 57 = .ok (.iconst 0, 1) := by decide +kernel
theorem dX3_mayBeTaken_58 : decode cX3_mayBeTaken 58 = .ok (.ireturn, 1) := by decide +kernel
theorem dX3_bringToHand_0 : decode cX3_bringToHand 0 = .ok (.aload_n 0, 1) := by decide +kernel
theorem dX3_bringToHand_1 : decode cX3_bringToHand 1 = .ok (.getfield 39, 3) := by decide +kernel
theorem dX3_bringToHand_4 : decode cX3_bringToHand 4 = .ok (.aload_n 0, 1) := by decide +kernel
theorem dX3_bringToHand_5 : decode cX3_bringToHand 5 = .ok (.getfield 117, 3) := by decide +kernel
theorem dX3_bringToHand_8 : decode cX3_bringToHand 8 = .ok (.aload_n 0, 1) := by decide +kernel
theorem dX3_bringToHand_9 : decode cX3_bringToHand 9 = .ok (.getfield 108, 3) := by decide +kernel
theorem dX3_bringToHand_12 : decode cX3_bringToHand 12 = .ok (.iastore, 1) := by decide +kernel
theorem dX3_bringToHand_13 : decode cX3_bringToHand 13 = .ok (.aload_n 0, 1) := by decide +kernel
theorem dX3_bringToHand_14 : decode cX3_bringToHand 14 = .ok (.aload_n 0, 1) := by decide +kernel
theorem dX3_bringToHand_15 : decode cX3_bringToHand 15 = .ok (.getfield 117, 3) := by decide +kernel
theorem dX3_bringToHand_18 : decode cX3_bringToHand 18 = .ok (.iconst 2, 1) := by decide +kernel
theorem dX3_bringToHand_19 : decode cX3_bringToHand 19 = .ok (.aload_n 0, 1) := by decide +kernel
theorem dX3_bringToHand_20 : decode cX3_bringToHand 20 = .ok (.getfield 111, 3) := by decide +kernel
theorem dX3_bringToHand_23 : decode cX3_bringToHand 23 = .ok (.invokevirtual 201, 3) := by decide +kernel
theorem dX3_bringToHand_26 : decode cX3_bringToHand 26 = .ok (.return_, 1) := by decide +kernel
theorem dX3_weigh_0 : decode cX3_weigh 0 = .ok (.aload_n 0, 1) := by decide +kernel
theorem dX3_weigh_1 : decode cX3_weigh 1 = .ok (.aload_n 0, 1) := by decide +kernel
theorem dX3_weigh_2 : decode cX3_weigh 2 = .ok (.getfield 108, 3) := by decide +kernel
theorem dX3_weigh_5 : decode cX3_weigh 5 = .ok (.invokevirtual 230, 3) := by decide +kernel
theorem dX3_weigh_8 : decode cX3_weigh 8 = .ok (.ifCond .eq 26, 3) := by decide +kernel
theorem dX3_weigh_11 : decode cX3_weigh 11 = .ok (.aload_n 0, 1) := by decide +kernel
theorem dX3_weigh_12 : decode cX3_weigh 12 = .ok (.getfield 120, 3) := by decide +kernel
theorem dX3_weigh_15 : decode cX3_weigh 15 = .ok (.ifCond .lt 19, 3) := by decide +kernel
theorem dX3_weigh_18 : decode cX3_weigh 18 = .ok (.aload_n 0, 1) := by decide +kernel
theorem dX3_weigh_19 : decode cX3_weigh 19 = .ok (.getfield 120, 3) := by decide +kernel
theorem dX3_weigh_22 : decode cX3_weigh 22 = .ok (.aload_n 0, 1) := by decide +kernel
theorem dX3_weigh_23 : decode cX3_weigh 23 = .ok (.getfield 18, 3) := by decide +kernel
theorem dX3_weigh_26 : decode cX3_weigh 26 = .ok (.aload_n 0, 1) := by decide +kernel
theorem dX3_weigh_27 : decode cX3_weigh 27 = .ok (.getfield 108, 3) := by decide +kernel
theorem dX3_weigh_30 : decode cX3_weigh 30 = .ok (.iaload, 1) := by decide +kernel
theorem dX3_weigh_31 : decode cX3_weigh 31 = .ok (.if_icmp .le 5, 3) := by decide +kernel
theorem dX3_weigh_34 : decode cX3_weigh 34 = .ok (.iconst 0, 1) := by decide +kernel
theorem dX3_weigh_35 : decode cX3_weigh 35 = .ok (.ireturn, 1) := by decide +kernel
theorem dX3_weigh_36 : decode cX3_weigh 36 = .ok (.aload_n 0, 1) := by decide +kernel
theorem dX3_weigh_37 : decode cX3_weigh 37 = .ok (.getfield 18, 3) := by decide +kernel
theorem dX3_weigh_40 : decode cX3_weigh 40 = .ok (.aload_n 0, 1) := by decide +kernel
theorem dX3_weigh_41 : decode cX3_weigh 41 = .ok (.getfield 108, 3) := by decide +kernel
theorem dX3_weigh_44 : decode cX3_weigh 44 = .ok (.dup2, 1) := by decide +kernel
theorem dX3_weigh_45 : decode cX3_weigh 45 = .ok (.iaload, 1) := by decide +kernel
theorem dX3_weigh_46 : decode cX3_weigh 46 = .ok (.aload_n 0, 1) := by decide +kernel
theorem dX3_weigh_47 : decode cX3_weigh 47 = .ok (.getfield 120, 3) := by decide +kernel
theorem dX3_weigh_50 : decode cX3_weigh 50 = .ok (.isub, 1) := by decide +kernel
theorem dX3_weigh_51 : decode cX3_weigh 51 = .ok (.iastore, 1) := by decide +kernel
theorem dX3_weigh_52 : decode cX3_weigh 52 = .ok (.iconst 1, 1) := by decide +kernel
theorem dX3_weigh_53 : decode cX3_weigh 53 = .ok (.ireturn, 1) := by decide +kernel
theorem dX3_keep_0 : decode cX3_keep 0 = .ok (.aload_n 0, 1) := by decide +kernel
theorem dX3_keep_1 : decode cX3_keep 1 = .ok (.aload_n 0, 1) := by decide +kernel
theorem dX3_keep_2 : decode cX3_keep 2 = .ok (.getfield 117, 3) := by decide +kernel
theorem dX3_keep_5 : decode cX3_keep 5 = .ok (.invokevirtual 205, 3) := by decide +kernel
theorem dX3_keep_8 : decode cX3_keep 8 = .ok (.ifCond .ne 5, 3) := by decide +kernel
theorem dX3_keep_11 : decode cX3_keep 11 = .ok (.iconst 0, 1) := by decide +kernel
theorem dX3_keep_12 : decode cX3_keep 12 = .ok (.ireturn, 1) := by decide +kernel
theorem dX3_keep_13 : decode cX3_keep 13 = .ok (.aload_n 0, 1) := by decide +kernel
theorem dX3_keep_14 : decode cX3_keep 14 = .ok (.getfield 27, 3) := by decide +kernel
theorem dX3_keep_17 : decode cX3_keep 17 = .ok (.aload_n 0, 1) := by decide +kernel
theorem dX3_keep_18 : decode cX3_keep 18 = .ok (.getfield 108, 3) := by decide +kernel
theorem dX3_keep_21 : decode cX3_keep 21 = .ok (.aload_n 0, 1) := by decide +kernel
theorem dX3_keep_22 : decode cX3_keep 22 = .ok (.getfield 117, 3) := by decide +kernel
theorem dX3_keep_25 : decode cX3_keep 25 = .ok (.iastore, 1) := by decide +kernel
theorem dX3_keep_26 : decode cX3_keep 26 = .ok (.iconst 1, 1) := by decide +kernel
theorem dX3_keep_27 : decode cX3_keep 27 = .ok (.ireturn, 1) := by decide +kernel
theorem dX3_doom_0 : decode cX3_doom 0 = .ok (.aload_n 0, 1) := by decide +kernel
theorem dX3_doom_1 : decode cX3_doom 1 = .ok (.getfield 30, 3) := by decide +kernel
theorem dX3_doom_4 : decode cX3_doom 4 = .ok (.aload_n 0, 1) := by decide +kernel
theorem dX3_doom_5 : decode cX3_doom 5 = .ok (.getfield 108, 3) := by decide +kernel
theorem dX3_doom_8 : decode cX3_doom 8 = .ok (.iconst 1, 1) := by decide +kernel
theorem dX3_doom_9 : decode cX3_doom 9 = .ok (.iastore, 1) := by decide +kernel
theorem dX3_doom_10 : decode cX3_doom 10 = .ok (.iconst 1, 1) := by decide +kernel
theorem dX3_doom_11 : decode cX3_doom 11 = .ok (.ireturn, 1) := by decide +kernel
theorem dX3_beginTrial_0 : decode cX3_beginTrial 0 = .ok (.aload_n 0, 1) := by decide +kernel
theorem dX3_beginTrial_1 : decode cX3_beginTrial 1 = .ok (.getfield 117, 3) := by decide +kernel
theorem dX3_beginTrial_4 : decode cX3_beginTrial 4 = .ok (.ifCond .lt 19, 3) := by decide +kernel
theorem dX3_beginTrial_7 : decode cX3_beginTrial 7 = .ok (.aload_n 0, 1) := by decide +kernel
theorem dX3_beginTrial_8 : decode cX3_beginTrial 8 = .ok (.getfield 117, 3) := by decide +kernel
theorem dX3_beginTrial_11 : decode cX3_beginTrial 11 = .ok (.bipush 30, 2) := by decide +kernel
theorem dX3_beginTrial_13 : decode cX3_beginTrial 13 = .ok (.if_icmp .gt 10, 3) := by decide +kernel
theorem dX3_beginTrial_16 : decode cX3_beginTrial 16 = .ok (.aload_n 0, 1) := by decide +kernel
theorem dX3_beginTrial_17 : decode cX3_beginTrial 17 = .ok (.invokevirtual 233, 3) := by decide +kernel
theorem dX3_beginTrial_20 : decode cX3_beginTrial 20 = .ok (.ifCond .eq 5, 3) := by decide +kernel
theorem dX3_beginTrial_23 : decode cX3_beginTrial 23 = .ok (.iconst 0, 1) := by decide +kernel
theorem dX3_beginTrial_24 : decode cX3_beginTrial 24 = .ok (.ireturn, 1) := by decide +kernel
theorem dX3_beginTrial_25 : decode cX3_beginTrial 25 = .ok (.aload_n 0, 1) := by decide +kernel
theorem dX3_beginTrial_26 : decode cX3_beginTrial 26 = .ok (.getfield 33, 3) := by decide +kernel
theorem dX3_beginTrial_29 : decode cX3_beginTrial 29 = .ok (.aload_n 0, 1) := by decide +kernel
theorem dX3_beginTrial_30 : decode cX3_beginTrial 30 = .ok (.getfield 108, 3) := by decide +kernel
theorem dX3_beginTrial_33 : decode cX3_beginTrial 33 = .ok (.dup2, 1) := by decide +kernel
theorem dX3_beginTrial_34 : decode cX3_beginTrial 34 = .ok (.iaload, 1) := by decide +kernel
theorem dX3_beginTrial_35 : decode cX3_beginTrial 35 = .ok (.iconst 1, 1) := by decide +kernel
theorem dX3_beginTrial_36 : decode cX3_beginTrial 36 = .ok (.aload_n 0, 1) := by decide +kernel
theorem dX3_beginTrial_37 : decode cX3_beginTrial 37 = .ok (.getfield 117, 3) := by decide +kernel
theorem dX3_beginTrial_40 : decode cX3_beginTrial 40 = .ok (.ishl, 1) := by decide +kernel
theorem dX3_beginTrial_41 : decode cX3_beginTrial 41 = .ok (.ior, 1) := by decide +kernel
theorem dX3_beginTrial_42 : decode cX3_beginTrial 42 = .ok (.iastore, 1) := by decide +kernel
theorem dX3_beginTrial_43 : decode cX3_beginTrial 43 = .ok (.iconst 1, 1) := by decide +kernel
theorem dX3_beginTrial_44 : decode cX3_beginTrial 44 = .ok (.ireturn, 1) := by decide +kernel
theorem dX3_endTrial_0 : decode cX3_endTrial 0 = .ok (.aload_n 0, 1) := by decide +kernel
theorem dX3_endTrial_1 : decode cX3_endTrial 1 = .ok (.getfield 117, 3) := by decide +kernel
theorem dX3_endTrial_4 : decode cX3_endTrial 4 = .ok (.ifCond .lt 19, 3) := by decide +kernel
theorem dX3_endTrial_7 : decode cX3_endTrial 7 = .ok (.aload_n 0, 1) := by decide +kernel
theorem dX3_endTrial_8 : decode cX3_endTrial 8 = .ok (.getfield 117, 3) := by decide +kernel
theorem dX3_endTrial_11 : decode cX3_endTrial 11 = .ok (.bipush 30, 2) := by decide +kernel
theorem dX3_endTrial_13 : decode cX3_endTrial 13 = .ok (.if_icmp .gt 10, 3) := by decide +kernel
theorem dX3_endTrial_16 : decode cX3_endTrial 16 = .ok (.aload_n 0, 1) := by decide +kernel
theorem dX3_endTrial_17 : decode cX3_endTrial 17 = .ok (.invokevirtual 233, 3) := by decide +kernel
theorem dX3_endTrial_20 : decode cX3_endTrial 20 = .ok (.ifCond .ne 5, 3) := by decide +kernel
theorem dX3_endTrial_23 : decode cX3_endTrial 23 = .ok (.iconst 0, 1) := by decide +kernel
theorem dX3_endTrial_24 : decode cX3_endTrial 24 = .ok (.ireturn, 1) := by decide +kernel
theorem dX3_endTrial_25 : decode cX3_endTrial 25 = .ok (.aload_n 0, 1) := by decide +kernel
theorem dX3_endTrial_26 : decode cX3_endTrial 26 = .ok (.getfield 33, 3) := by decide +kernel
theorem dX3_endTrial_29 : decode cX3_endTrial 29 = .ok (.aload_n 0, 1) := by decide +kernel
theorem dX3_endTrial_30 : decode cX3_endTrial 30 = .ok (.getfield 108, 3) := by decide +kernel
theorem dX3_endTrial_33 : decode cX3_endTrial 33 = .ok (.dup2, 1) := by decide +kernel
theorem dX3_endTrial_34 : decode cX3_endTrial 34 = .ok (.iaload, 1) := by decide +kernel
theorem dX3_endTrial_35 : decode cX3_endTrial 35 = .ok (.iconst 1, 1) := by decide +kernel
theorem dX3_endTrial_36 : decode cX3_endTrial 36 = .ok (.aload_n 0, 1) := by decide +kernel
theorem dX3_endTrial_37 : decode cX3_endTrial 37 = .ok (.getfield 117, 3) := by decide +kernel
theorem dX3_endTrial_40 : decode cX3_endTrial 40 = .ok (.ishl, 1) := by decide +kernel
theorem dX3_endTrial_41 : decode cX3_endTrial 41 = .ok (.iconst (-1), 1) := by decide +kernel
theorem dX3_endTrial_42 : decode cX3_endTrial 42 = .ok (.ixor, 1) := by decide +kernel
theorem dX3_endTrial_43 : decode cX3_endTrial 43 = .ok (.iand, 1) := by decide +kernel
theorem dX3_endTrial_44 : decode cX3_endTrial 44 = .ok (.iastore, 1) := by decide +kernel
theorem dX3_endTrial_45 : decode cX3_endTrial 45 = .ok (.iconst 1, 1) := by decide +kernel
theorem dX3_endTrial_46 : decode cX3_endTrial 46 = .ok (.ireturn, 1) := by decide +kernel

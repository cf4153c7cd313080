theorem dX3_goesOn_0 : decode cX3_goesOn 0 = .ok (.aload_n 0, 1) := by decide +kernel
theorem dX3_goesOn_1 : decode cX3_goesOn 1 = .ok (.getfield 33, 3) := by decide +kernel
theorem dX3_goesOn_4 : decode cX3_goesOn 4 = .ok (.aload_n 0, 1) := by decide +kernel
theorem dX3_goesOn_5 : decode cX3_goesOn 5 = .ok (.getfield 108, 3) := by decide +kernel
theorem dX3_goesOn_8 : decode cX3_goesOn 8 = .ok (.iaload, 1) := by decide +kernel
theorem dX3_goesOn_9 : decode cX3_goesOn 9 = .ok (.iconst 1, 1) := by decide +kernel
theorem dX3_goesOn_10 : decode cX3_goesOn 10 = .ok (.aload_n 0, 1) := by decide +kernel
theorem dX3_goesOn_11 : decode cX3_goesOn 11 = .ok (.getfield 117, 3) := by decide +kernel
theorem dX3_goesOn_14 : decode cX3_goesOn 14 = .ok (.ishl, 1) := by decide +kernel
theorem dX3_goesOn_15 : decode cX3_goesOn 15 = .ok (.iand, 1) := by decide +kernel
theorem dX3_goesOn_16 : decode cX3_goesOn 16 = .ok (.ifCond .eq 7, 3) := by decide +kernel
theorem dX3_goesOn_19 : decode cX3_goesOn 19 = .ok (.iconst 1, 1) := by decide +kernel
theorem dX3_goesOn_20 : decode cX3_goesOn 20 = .ok (.goto 4, 3) := by decide +kernel
theorem dX3_goesOn_23 : decode cX3_goesOn 23 = .ok (.iconst 0, 1) := by decide +kernel
theorem dX3_goesOn_24 : decode cX3_goesOn 24 = .ok (.ireturn, 1) := by decide +kernel
theorem dX3_destroy_0 : decode cX3_destroy 0 = .ok (.aload_n 0, 1) := by decide +kernel
theorem dX3_destroy_1 : decode cX3_destroy 1 = .ok (.iconst 1, 1) := by decide +kernel
theorem dX3_destroy_2 : decode cX3_destroy 2 = .ok (.invokevirtual 191, 3) := by decide +kernel
theorem dX3_destroy_5 : decode cX3_destroy 5 = .ok (.ifCond .eq 39, 3) := by decide +kernel
theorem dX3_destroy_8 : decode cX3_destroy 8 = .ok (.aload_n 0, 1) := by decide +kernel
theorem dX3_destroy_9 : decode cX3_destroy 9 = .ok (.getfield 48, 3) := by decide +kernel
theorem dX3_destroy_12 : decode cX3_destroy 12 = .ok (.aload_n 0, 1) := by decide +kernel
theorem dX3_destroy_13 : decode cX3_destroy 13 = .ok (.getfield 117, 3) := by decide +kernel
theorem dX3_destroy_16 : decode cX3_destroy 16 = .ok (.invokevirtual 195, 3) := by decide +kernel
theorem dX3_destroy_19 : decode cX3_destroy 19 = .ok (.ifCond .eq 25, 3) := by decide +kernel
theorem dX3_destroy_22 : decode cX3_destroy 22 = .ok (.aload_n 0, 1) := by decide +kernel
theorem dX3_destroy_23 : decode cX3_destroy 23 = .ok (.getfield 117, 3) := by decide +kernel
theorem dX3_destroy_26 : decode cX3_destroy 26 = .ok (.aload_n 0, 1) := by decide +kernel
theorem dX3_destroy_27 : decode cX3_destroy 27 = .ok (.getfield 111, 3) := by decide +kernel
theorem dX3_destroy_30 : decode cX3_destroy 30 = .ok (.if_icmp .eq 14, 3) := by decide +kernel
theorem dX3_destroy_33 : decode cX3_destroy 33 = .ok (.aload_n 0, 1) := by decide +kernel
theorem dX3_destroy_34 : decode cX3_destroy 34 = .ok (.getfield 117, 3) := by decide +kernel
theorem dX3_destroy_37 : decode cX3_destroy 37 = .ok (.aload_n 0, 1) := by decide +kernel
theorem dX3_destroy_38 : decode cX3_destroy 38 = .ok (.getfield 114, 3) := by decide +kernel
theorem dX3_destroy_41 : decode cX3_destroy 41 = .ok (.if_icmp .ne 5, 3) := by decide +kernel
theorem dX3_destroy_44 : decode cX3_destroy 44 = .ok (.iconst 0, 1) := by decide +kernel
theorem dX3_destroy_45 : decode cX3_destroy 45 = .ok (.ireturn, 1) := by decide +kernel
theorem dX3_destroy_46 : decode cX3_destroy 46 = .ok (.aload_n 0, 1) := by decide +kernel
theorem dX3_destroy_47 : decode cX3_destroy 47 = .ok (.getfield 9, 3) := by decide +kernel
theorem dX3_destroy_50 : decode cX3_destroy 50 = .ok (.aload_n 0, 1) := by decide +kernel
theorem dX3_destroy_51 : decode cX3_destroy 51 = .ok (.getfield 108, 3) := by decide +kernel
theorem dX3_destroy_54 : decode cX3_destroy 54 = .ok (.iaload, 1) := by decide +kernel
theorem dX3_destroy_55 : decode cX3_destroy 55 = .ok (.iconst 1, 1) := by decide +kernel
theorem dX3_destroy_56 : decode cX3_destroy 56 = .ok (.if_icmp .ne 43, 3) := by decide +kernel
theorem dX3_destroy_59 : decode cX3_destroy 59 = .ok (.aload_n 0, 1) := by decide +kernel
theorem dX3_destroy_60 : decode cX3_destroy 60 = .ok (.getfield 30, 3) := by decide +kernel
theorem dX3_destroy_63 : decode cX3_destroy 63 = .ok (.aload_n 0, 1) := by decide +kernel
theorem dX3_destroy_64 : decode cX3_destroy 64 = .ok (.getfield 108, 3) := by decide +kernel
theorem dX3_destroy_67 : decode cX3_destroy 67 = .ok (.iaload, 1) := by decide +kernel
theorem dX3_destroy_68 : decode cX3_destroy 68 = .ok (.ifCond .eq 31, 3) := by decide +kernel
theorem dX3_destroy_71 : decode cX3_destroy 71 = .ok (.aload_n 0, 1) := by decide +kernel
theorem dX3_destroy_72 : decode cX3_destroy 72 = .ok (.getfield 27, 3) := by decide +kernel
theorem dX3_destroy_75 : decode cX3_destroy 75 = .ok (.aload_n 0, 1) := by decide +kernel
theorem dX3_destroy_76 : decode cX3_destroy 76 = .ok (.getfield 108, 3) := by decide +kernel
theorem dX3_destroy_79 : decode cX3_destroy 79 = .ok (.iaload, 1) := by decide +kernel
theorem dX3_destroy_80 : decode cX3_destroy 80 = .ok (.aload_n 0, 1) := by decide +kernel
theorem dX3_destroy_81 : decode cX3_destroy 81 = .ok (.getfield 123, 3) := by decide +kernel
theorem dX3_destroy_84 : decode cX3_destroy 84 = .ok (.if_icmp .gt 15, 3) := by decide +kernel
theorem dX3_destroy_87 : decode cX3_destroy 87 = .ok (.aload_n 0, 1) := by decide +kernel
theorem dX3_destroy_88 : decode cX3_destroy 88 = .ok (.getfield 33, 3) := by decide +kernel
theorem dX3_destroy_91 : decode cX3_destroy 91 = .ok (.aload_n 0, 1) := by decide +kernel
theorem dX3_destroy_92 : decode cX3_destroy 92 = .ok (.getfield 108, 3) := by decide +kernel
theorem dX3_destroy_95 : decode cX3_destroy 95 = .ok (.iaload, 1) := by decide +kernel
theorem dX3_destroy_96 : decode cX3_destroy 96 = .ok (.ifCond .eq 5, 3) := by decide +kernel
theorem dX3_destroy_99 : decode cX3_destroy 99 = .ok (.iconst 0, 1) := by decide +kernel
theorem dX3_destroy_100 : decode cX3_destroy 100 = .ok (.ireturn, 1) := by decide +kernel
theorem dX3_destroy_101 : decode cX3_destroy 101 = .ok (.aload_n 0, 1) := by decide +kernel
theorem dX3_destroy_102 : decode cX3_destroy 102 = .ok (.getfield 36, 3) := by decide +kernel
theorem dX3_destroy_105 : decode cX3_destroy 105 = .ok (.aload_n 0, 1) := by decide +kernel
theorem dX3_destroy_106 : decode cX3_destroy 106 = .ok (.getfield 108, 3) := by decide +kernel
theorem dX3_destroy_109 : decode cX3_destroy 109 = .ok (.iaload, 1) := by decide +kernel
theorem dX3_destroy_110 : decode cX3_destroy 110 = .ok (.ifCond .ne 10, 3) := by decide +kernel
theorem dX3_destroy_113 : decode cX3_destroy 113 = .ok (.aload_n 0, 1) := by decide +kernel
theorem dX3_destroy_114 : decode cX3_destroy 114 = .ok (.invokevirtual 236, 3) := by decide +kernel
theorem dX3_destroy_117 : decode cX3_destroy 117 = .ok (.ifCond .eq 5, 3) := by decide +kernel
theorem dX3_destroy_120 : decode cX3_destroy 120 = .ok (.iconst 0, 1) := by decide +kernel
theorem dX3_destroy_121 : decode cX3_destroy 121 = .ok (.ireturn, 1) := by decide +kernel
theorem dX3_destroy_122 : decode cX3_destroy 122 = .ok (.aload_n 0, 1) := by decide +kernel
theorem dX3_destroy_123 : decode cX3_destroy 123 = .ok (.aload_n 0, 1) := by decide +kernel
theorem dX3_destroy_124 : decode cX3_destroy 124 = .ok (.getfield 108, 3) := by decide +kernel
theorem dX3_destroy_127 : decode cX3_destroy 127 = .ok (.iconst 4, 1) := by decide +kernel
theorem dX3_destroy_128 : decode cX3_destroy 128 = .ok (.iconst (-1), 1) := by decide +kernel
theorem dX3_destroy_129 : decode cX3_destroy 129 = .ok (.invokevirtual 201, 3) := by decide +kernel
theorem dX3_destroy_132 : decode cX3_destroy 132 = .ok (.iconst 1, 1) := by decide +kernel
theorem dX3_destroy_133 : decode cX3_destroy 133 = .ok (.ireturn, 1) := by decide +kernel
theorem dX3_find_0 : decode cX3_find 0 = .ok (.aload_n 0, 1) := by decide +kernel
theorem dX3_find_1 : decode cX3_find 1 = .ok (.getfield 120, 3) := by decide +kernel
theorem dX3_find_4 : decode cX3_find 4 = .ok (.iconst (-1), 1) := by decide +kernel
theorem dX3_find_5 : decode cX3_find 5 = .ok (.if_icmp .ne 29, 3) := by decide +kernel
theorem dX3_find_8 : decode cX3_find 8 = .ok (.aload_n 0, 1) := by decide +kernel
theorem dX3_find_9 : decode cX3_find 9 = .ok (.aload_n 0, 1) := by decide +kernel
theorem dX3_find_10 : decode cX3_find 10 = .ok (.getfield 117, 3) := by decide +kernel
theorem dX3_find_13 : decode cX3_find 13 = .ok (.invokevirtual 198, 3) := by decide +kernel
theorem dX3_find_16 : decode cX3_find 16 = .ok (.ifCond .eq 18, 3) := by decide +kernel
theorem dX3_find_19 : decode cX3_find 19 = .ok (.aload_n 0, 1) := by decide +kernel
theorem dX3_find_20 : decode cX3_find 20 = .ok (.aload_n 0, 1) := by decide +kernel
theorem dX3_find_21 : decode cX3_find 21 = .ok (.getfield 108, 3) := by decide +kernel
theorem dX3_find_24 : decode cX3_find 24 = .ok (.iconst 1, 1) := by decide +kernel
theorem dX3_find_25 : decode cX3_find 25 = .ok (.aload_n 0, 1) := by decide +kernel
theorem dX3_find_26 : decode cX3_find 26 = .ok (.getfield 117, 3) := by decide +kernel
theorem dX3_find_29 : decode cX3_find 29 = .ok (.invokevirtual 201, 3) := by decide +kernel
theorem dX3_find_32 : decode cX3_find 32 = .ok (.iconst 1, 1) := by decide +kernel
theorem dX3_find_33 : decode cX3_find 33 = .ok (.ireturn, 1) := by decide +kernel
theorem dX3_find_34 : decode cX3_find 34 = .ok (.aload_n 0, 1) := by decide +kernel
theorem dX3_find_35 : decode cX3_find 35 = .ok (.getfield 117, 3) := by decide +kernel
theorem dX3_find_38 : decode cX3_find 38 = .ok (.iconst (-1), 1) := by decide +kernel
theorem dX3_find_39 : decode cX3_find 39 = .ok (.if_icmp .ne 48, 3) := by decide +kernel
theorem dX3_find_42 : decode cX3_find 42 = .ok (.aload_n 0, 1) := by decide +kernel
theorem dX3_find_43 : decode cX3_find 43 = .ok (.getfield 48, 3) := by decide +kernel
theorem dX3_find_46 : decode cX3_find 46 = .ok (.aload_n 0, 1) := by decide +kernel
theorem dX3_find_47 : decode cX3_find 47 = .ok (.getfield 120, 3) := by decide +kernel
theorem dX3_find_50 : decode cX3_find 50 = .ok (.invokevirtual 195, 3) := by decide +kernel
theorem dX3_find_53 : decode cX3_find 53 = .ok (.ifCond .eq 34, 3) := by decide +kernel
theorem dX3_find_56 : decode cX3_find 56 = .ok (.aload_n 0, 1) := by decide +kernel
theorem dX3_find_57 : decode cX3_find 57 = .ok (.aload_n 0, 1) := by decide +kernel
theorem dX3_find_58 : decode cX3_find 58 = .ok (.getfield 108, 3) := by decide +kernel
theorem dX3_find_61 : decode cX3_find 61 = .ok (.iconst 2, 1) := by decide +kernel
theorem dX3_find_62 : decode cX3_find 62 = .ok (.aload_n 0, 1) := by decide +kernel
theorem dX3_find_63 : decode cX3_find 63 = .ok (.getfield 120, 3) := by decide +kernel
theorem dX3_find_66 : decode cX3_find 66 = .ok (.invokevirtual 208, 3) := by decide +kernel
theorem dX3_find_69 : decode cX3_find 69 = .ok (.ifCond .ne 18, 3) := by decide +kernel
theorem dX3_find_72 : decode cX3_find 72 = .ok (.aload_n 0, 1) := by decide +kernel
theorem dX3_find_73 : decode cX3_find 73 = .ok (.aload_n 0, 1) := by decide +kernel
theorem dX3_find_74 : decode cX3_find 74 = .ok (.getfield 108, 3) := by decide +kernel
theorem dX3_find_77 : decode cX3_find 77 = .ok (.iconst 2, 1) := by decide +kernel
theorem dX3_find_78 : decode cX3_find 78 = .ok (.aload_n 0, 1) := by decide +kernel
theorem dX3_find_79 : decode cX3_find 79 = .ok (.getfield 120, 3) := by decide +kernel
theorem dX3_find_82 : decode cX3_find 82 = .ok (.invokevirtual 201, 3) := by decide +kernel
theorem dX3_find_85 : decode cX3_find 85 = .ok (.iconst 1, 1) := by decide +kernel
theorem dX3_find_86 : decode cX3_find 86 = .ok (.ireturn, 1) := by decide +kernel
theorem dX3_find_87 : decode cX3_find 87 = .ok (.iconst 0, 1) := by decide +kernel
theorem dX3_find_88 : decode cX3_find 88 = .ok (.ireturn, 1) := by decide +kernel
theorem dX3_keepersServe_0 : decode cX3_keepersServe 0 = .ok (.aload_n 0, 1) := by decide +kernel
theorem dX3_keepersServe_1 : decode cX3_keepersServe 1 = .ok (.getfield 48, 3) := by decide +kernel
theorem dX3_keepersServe_4 : decode cX3_keepersServe 4 = .ok (.aload_n 0, 1) := by decide +kernel
theorem dX3_keepersServe_5 : decode cX3_keepersServe 5 = .ok (.getfield 111, 3) := by decide +kernel
theorem dX3_keepersServe_8 : decode cX3_keepersServe 8 = .ok (.invokevirtual 239, 3) := by decide +kernel
theorem dX3_keepersServe_11 : decode cX3_keepersServe 11 = .ok (.ifCond .eq 36, 3) := by decide +kernel
theorem dX3_keepersServe_14 : decode cX3_keepersServe 14 = .ok (.iload_n 1, 1) := by decide +kernel
theorem dX3_keepersServe_15 : decode cX3_keepersServe 15 = .ok (.ifCond .eq 28, 3) := by decide +kernel
theorem dX3_keepersServe_18 : decode cX3_keepersServe 18 = .ok (.aload_n 0, 1) := by decide +kernel
theorem dX3_keepersServe_19 : decode cX3_keepersServe 19 = .ok (.getfield 114, 3) := by decide +kernel
theorem dX3_keepersServe_22 : decode cX3_keepersServe 22 = .ok (.aload_n 0, 1) := by decide +kernel
theorem dX3_keepersServe_23 : decode cX3_keepersServe 23 = .ok (.getfield 111, 3) := by decide +kernel
theorem dX3_keepersServe_26 : decode cX3_keepersServe 26 = .ok (.if_icmp .eq 21, 3) := by decide +kernel
theorem dX3_keepersServe_29 : decode cX3_keepersServe 29 = .ok (.aload_n 0, 1) := by decide +kernel
theorem dX3_keepersServe_30 : decode cX3_keepersServe 30 = .ok (.getfield 48, 3) := by decide +kernel
theorem dX3_keepersServe_33 : decode cX3_keepersServe 33 = .ok (.aload_n 0, 1) := by decide +kernel
theorem dX3_keepersServe_34 : decode cX3_keepersServe 34 = .ok (.getfield 114, 3) := by decide +kernel
theorem dX3_keepersServe_37 : decode cX3_keepersServe 37 = .ok (.invokevirtual 239, 3) := by decide +kernel
theorem dX3_keepersServe_40 : decode cX3_keepersServe 40 = .ok (.ifCond .eq 7, 3) := by decide +kernel
theorem dX3_keepersServe_43 : decode cX3_keepersServe 43 = .ok (.iconst 1, 1) := by decide +kernel
theorem dX3_keepersServe_44 : decode cX3_keepersServe 44 = .ok (.goto 4, 3) := by decide +kernel
theorem dX3_keepersServe_47 : decode cX3_keepersServe 47 = .ok (.iconst 0, 1) := by decide +kernel
theorem dX3_keepersServe_48 : decode cX3_keepersServe 48 = .ok (.ireturn, 1) := by decide +kernel
theorem dX3_isMoneyBag_0 : decode cX3_isMoneyBag 0 = .ok (.aload_n 0, 1) := by decide +kernel
theorem dX3_isMoneyBag_1 : decode cX3_isMoneyBag 1 = .ok (.getfield 48, 3) := by decide +kernel
theorem dX3_isMoneyBag_4 : decode cX3_isMoneyBag 4 = .ok (.iload_n 1, 1) := by decide +kernel
theorem dX3_isMoneyBag_5 : decode cX3_isMoneyBag 5 = .ok (.iconst 5, 1) := by decide +kernel
theorem dX3_isMoneyBag_6 : decode cX3_isMoneyBag 6 = .ok (.invokevirtual 184, 3) := by decide +kernel
theorem dX3_isMoneyBag_9 : decode cX3_isMoneyBag 9 = .ok (.ireturn, 1) := by decide +kernel
theorem dX3_isDay_0 : decode cX3_isDay 0 = .ok (.iload_n 1, 1) := by decide +kernel
theorem dX3_isDay_1 : decode cX3_isDay 1 = .ok (.ifCond .lt 13, 3) := by decide +kernel
theorem dX3_isDay_4 : decode cX3_isDay 4 = .ok (.iload_n 1, 1) := by decide +kernel
theorem dX3_isDay_5 : decode cX3_isDay 5 = .ok (.ldc 242, 2) := by decide +kernel
theorem dX3_isDay_7 : decode cX3_isDay 7 = .ok (.if_icmp .gt 7, 3) := by decide +kernel
theorem dX3_isDay_10 : decode cX3_isDay 10 = .ok (.iconst 1, 1) := by decide +kernel
theorem dX3_isDay_11 : decode cX3_isDay 11 = .ok (.goto 4, 3) := by decide +kernel
theorem dX3_isDay_14 : decode cX3_isDay 14 = .ok (.iconst 0, 1) := by decide +kernel
theorem dX3_isDay_15 : decode cX3_isDay 15 = .ok (.ireturn, 1) := by decide +kernel
theorem dX3_isKept_0 : decode cX3_isKept 0 = .ok (.aload_n 0, 1) := by decide +kernel
theorem dX3_isKept_1 : decode cX3_isKept 1 = .ok (.getfield 9, 3) := by decide +kernel
theorem dX3_isKept_4 : decode cX3_isKept 4 = .ok (.iload_n 1, 1) := by decide +kernel
theorem dX3_isKept_5 : decode cX3_isKept 5 = .ok (.iaload, 1) := by decide +kernel
theorem dX3_isKept_6 : decode cX3_isKept 6 = .ok (.iconst 1, 1) := by decide +kernel
theorem dX3_isKept_7 : decode cX3_isKept 7 = .ok (.if_icmp .eq 23, 3) := by decide +kernel
theorem dX3_isKept_10 : decode cX3_isKept 10 = .ok (.aload_n 0, 1) := by decide +kernel
theorem dX3_isKept_11 : decode cX3_isKept 11 = .ok (.getfield 9, 3) := by decide +kernel
theorem dX3_isKept_14 : decode cX3_isKept 14 = .ok (.iload_n 1, 1) := by decide +kernel
theorem dX3_isKept_15 : decode cX3_isKept 15 = .ok (.iaload, 1) := by decide +kernel
theorem dX3_isKept_16 : decode cX3_isKept 16 = .ok (.iconst 2, 1) := by decide +kernel
theorem dX3_isKept_17 : decode cX3_isKept 17 = .ok (.if_icmp .eq 13, 3) := by decide +kernel
theorem dX3_isKept_20 : decode cX3_isKept 20 = .ok (.aload_n 0, 1) := by decide +kernel
theorem dX3_isKept_21 : decode cX3_isKept 21 = .ok (.getfield 9, 3) := by decide +kernel
theorem dX3_isKept_24 : decode cX3_isKept 24 = .ok (.iload_n 1, 1) := by decide +kernel
theorem dX3_isKept_25 : decode cX3_isKept 25 = .ok (.iaload, 1) := by decide +kernel
theorem dX3_isKept_26 : decode cX3_isKept 26 = .ok (.iconst 3, 1) := by decide +kernel
theorem dX3_isKept_27 : decode cX3_isKept 27 = .ok (.if_icmp .ne 7, 3) := by decide +kernel
theorem dX3_isKept_30 : decode cX3_isKept 30 = .ok (.iconst 1, 1) := by decide +kernel
theorem dX3_isKept_31 : decode cX3_isKept 31 = .ok (.goto 4, 3) := by decide +kernel
theorem dX3_isKept_34 : decode cX3_isKept 34 = .ok (.iconst 0, 1) := by decide +kernel
theorem dX3_isKept_35 : decode cX3_isKept 35 = .ok (.ireturn, 1) := by decide +kernel
theorem dX3_isAt_0 : decode cX3_isAt 0 = .ok (.aload_n 0, 1) := by decide +kernel
theorem dX3_isAt_1 : decode cX3_isAt 1 = .ok (.getfield 9, 3) := by decide +kernel
theorem dX3_isAt_4 : decode cX3_isAt 4 = .ok (.iload_n 1, 1) := by decide +kernel
theorem dX3_isAt_5 : decode cX3_isAt 5 = .ok (.iaload, 1) := by decide +kernel
theorem dX3_isAt_6 : decode cX3_isAt 6 = .ok (.iload_n 2, 1) := by decide +kernel
theorem dX3_isAt_7 : decode cX3_isAt 7 = .ok (.if_icmp .ne 17, 3) := by decide +kernel
theorem dX3_isAt_10 : decode cX3_isAt 10 = .ok (.aload_n 0, 1) := by decide +kernel
theorem dX3_isAt_11 : decode cX3_isAt 11 = .ok (.getfield 15, 3) := by decide +kernel
theorem dX3_isAt_14 : decode cX3_isAt 14 = .ok (.iload_n 1, 1) := by decide +kernel
theorem dX3_isAt_15 : decode cX3_isAt 15 = .ok (.iaload, 1) := by decide +kernel
theorem dX3_isAt_16 : decode cX3_isAt 16 = .ok (.iload_n 3, 1) := by decide +kernel
theorem dX3_isAt_17 : decode cX3_isAt 17 = .ok (.if_icmp .ne 7, 3) := by decide +kernel
theorem dX3_isAt_20 : decode cX3_isAt 20 = .ok (.iconst 1, 1) := by decide +kernel
theorem dX3_isAt_21 : decode cX3_isAt 21 = .ok (.goto 4, 3) := by decide +kernel
theorem dX3_isAt_24 : decode cX3_isAt 24 = .ok (.iconst 0, 1) := by decide +kernel
theorem dX3_isAt_25 : decode cX3_isAt 25 = .ok (.ireturn, 1) := by decide +kernel
theorem dX3_mayLieAt_0 : decode cX3_mayLieAt 0 = .ok (.aload_n 0, 1) := by decide +kernel
theorem dX3_mayLieAt_1 : decode cX3_mayLieAt 1 = .ok (.getfield 48, 3) := by decide +kernel
theorem dX3_mayLieAt_4 : decode cX3_mayLieAt 4 = .ok (.iload_n 1, 1) := by decide +kernel
theorem dX3_mayLieAt_5 : decode cX3_mayLieAt 5 = .ok (.invokevirtual 243, 3) := by decide +kernel
theorem dX3_mayLieAt_8 : decode cX3_mayLieAt 8 = .ok (.ifCond .eq 43, 3) := by decide +kernel
theorem dX3_mayLieAt_11 : decode cX3_mayLieAt 11 = .ok (.aload_n 0, 1) := by decide +kernel
theorem dX3_mayLieAt_12 : decode cX3_mayLieAt 12 = .ok (.getfield 42, 3) := by decide +kernel
theorem dX3_mayLieAt_15 : decode cX3_mayLieAt 15 = .ok (.iload_n 1, 1) := by decide +kernel
theorem dX3_mayLieAt_16 : decode cX3_mayLieAt 16 = .ok (.iaload, 1) := by decide +kernel
theorem dX3_mayLieAt_17 : decode cX3_mayLieAt 17 = .ok (.iconst (-1), 1) := by decide +kernel
theorem dX3_mayLieAt_18 : decode cX3_mayLieAt 18 = .ok (.if_icmp .ne 33, 3) := by decide +kernel
theorem dX3_mayLieAt_21 : decode cX3_mayLieAt 21 = .ok (.aload_n 0, 1) := by decide +kernel
theorem dX3_mayLieAt_22 : decode cX3_mayLieAt 22 = .ok (.getfield 48, 3) := by decide +kernel
theorem dX3_mayLieAt_25 : decode cX3_mayLieAt 25 = .ok (.aload_n 0, 1) := by decide +kernel
theorem dX3_mayLieAt_26 : decode cX3_mayLieAt 26 = .ok (.getfield 108, 3) := by decide +kernel
theorem dX3_mayLieAt_29 : decode cX3_mayLieAt 29 = .ok (.iconst 4, 1) := by decide +kernel
theorem dX3_mayLieAt_30 : decode cX3_mayLieAt 30 = .ok (.invokevirtual 184, 3) := by decide +kernel
theorem dX3_mayLieAt_33 : decode cX3_mayLieAt 33 = .ok (.ifCond .eq 14, 3) := by decide +kernel
theorem dX3_mayLieAt_36 : decode cX3_mayLieAt 36 = .ok (.aload_n 0, 1) := by decide +kernel
theorem dX3_mayLieAt_37 : decode cX3_mayLieAt 37 = .ok (.getfield 48, 3) := by decide +kernel
theorem dX3_mayLieAt_40 : decode cX3_mayLieAt 40 = .ok (.iload_n 1, 1) := by decide +kernel
theorem dX3_mayLieAt_41 : decode cX3_mayLieAt 41 = .ok (.invokevirtual 246, 3) := by decide +kernel
theorem dX3_mayLieAt_44 : decode cX3_mayLieAt 44 = .ok (.ifCond .eq 7, 3) := by decide +kernel
theorem dX3_mayLieAt_47 : decode cX3_mayLieAt 47 = .ok (.iconst 1, 1) := by decide +kernel
theorem dX3_mayLieAt_48 : decode cX3_mayLieAt 48 = .ok (.goto 4, 3) := by decide +kernel
theorem dX3_mayLieAt_51 : decode cX3_mayLieAt 51 = .ok (.iconst 0, 1) := by decide +kernel
theorem dX3_mayLieAt_52 : decode cX3_mayLieAt 52 = .ok (.ireturn, 1) := by decide +kernel
theorem dX3_move_0 : decode cX3_move 0 = .ok (.aload_n 0, 1) := by decide +kernel
theorem dX3_move_1 : decode cX3_move 1 = .ok (.aload_n 0, 1) := by decide +kernel
theorem dX3_move_2 : decode cX3_move 2 = .ok (.getfield 9, 3) := by decide +kernel
theorem dX3_move_5 : decode cX3_move 5 = .ok (.iload_n 1, 1) := by decide +kernel
theorem dX3_move_6 : decode cX3_move 6 = .ok (.iaload, 1) := by decide +kernel
theorem dX3_move_7 : decode cX3_move 7 = .ok (.aload_n 0, 1) := by decide +kernel
theorem dX3_move_8 : decode cX3_move 8 = .ok (.getfield 15, 3) := by decide +kernel
theorem dX3_move_11 : decode cX3_move 11 = .ok (.iload_n 1, 1) := by decide +kernel
theorem dX3_move_12 : decode cX3_move 12 = .ok (.iaload, 1) := by decide +kernel
theorem dX3_move_13 : decode cX3_move 13 = .ok (.iconst (-1), 1) := by decide +kernel
theorem dX3_move_14 : decode cX3_move 14 = .ok (.invokevirtual 249, 3) := by decide +kernel
theorem dX3_move_17 : decode cX3_move 17 = .ok (.aload_n 0, 1) := by decide +kernel
theorem dX3_move_18 : decode cX3_move 18 = .ok (.getfield 9, 3) := by decide +kernel
theorem dX3_move_21 : decode cX3_move 21 = .ok (.iload_n 1, 1) := by decide +kernel
theorem dX3_move_22 : decode cX3_move 22 = .ok (.iload_n 2, 1) := by decide +kernel
theorem dX3_move_23 : decode cX3_move 23 = .ok (.iastore, 1) := by decide +kernel
theorem dX3_move_24 : decode cX3_move 24 = .ok (.aload_n 0, 1) := by decide +kernel
theorem dX3_move_25 : decode cX3_move 25 = .ok (.getfield 15, 3) := by decide +kernel
theorem dX3_move_28 : decode cX3_move 28 = .ok (.iload_n 1, 1) := by decide +kernel
theorem dX3_move_29 : decode cX3_move 29 = .ok (.iload_n 3, 1) := by decide +kernel
theorem dX3_move_30 : decode cX3_move 30 = .ok (.iastore, 1) := by decide +kernel
theorem dX3_move_31 : decode cX3_move 31 = .ok (.aload_n 0, 1) := by decide +kernel
theorem dX3_move_32 : decode cX3_move 32 = .ok (.iload_n 2, 1) := by decide +kernel
theorem dX3_move_33 : decode cX3_move 33 = .ok (.iload_n 3, 1) := by decide +kernel
theorem dX3_move_34 : decode cX3_move 34 = .ok (.iload_n 1, 1) := by decide +kernel
theorem dX3_move_35 : decode cX3_move 35 = .ok (.invokevirtual 249, 3) := by decide +kernel
theorem dX3_move_38 : decode cX3_move 38 = .ok (.return_, 1) := by decide +kernel
theorem dX3_register_0 : decode cX3_register 0 = .ok (.iload_n 1, 1) := by decide +kernel
theorem dX3_register_1 : decode cX3_register 1 = .ok (.iconst 1, 1) := by decide +kernel
theorem dX3_register_2 : decode cX3_register 2 = .ok (.if_icmp .ne 26, 3) := by decide +kernel
theorem dX3_register_5 : decode cX3_register 5 = .ok (.iload_n 2, 1) := by decide +kernel
theorem dX3_register_6 : decode cX3_register 6 = .ok (.ifCond .lt 22, 3) := by decide +kernel
theorem dX3_register_9 : decode cX3_register 9 = .ok (.iload_n 2, 1) := by decide +kernel
theorem dX3_register_10 : decode cX3_register 10 = .ok (.aload_n 0, 1) := by decide +kernel
theorem dX3_register_11 : decode cX3_register 11 = .ok (.getfield 42, 3) := by decide +kernel
theorem dX3_register_14 : decode cX3_register 14 = .ok (.arraylength, 1) := by decide +kernel
theorem dX3_register_15 : decode cX3_register 15 = .ok (.if_icmp .ge 13, 3) := by decide +kernel
theorem dX3_register_18 : decode cX3_register 18 = .ok (.aload_n 0, 1) := by decide +kernel
theorem dX3_register_19 : decode cX3_register 19 = .ok (.getfield 42, 3) := by decide +kernel
theorem dX3_register_22 : decode cX3_register 22 = .ok (.iload_n 2, 1) := by decide +kernel
theorem dX3_register_23 : decode cX3_register 23 = .ok (.iload_n 3, 1) := by decide +kernel
theorem dX3_register_24 : decode cX3_register 24 = .ok (.iastore, 1) := by decide +kernel
theorem dX3_register_25 : decode cX3_register 25 = .ok (.goto 40, 3) := by decide +kernel
theorem dX3_register_28 : decode cX3_register 28 = .ok (.iload_n 1, 1) := by decide +kernel
theorem dX3_register_29 : decode cX3_register 29 = .ok (.iconst 3, 1) := by decide +kernel
theorem dX3_register_30 : decode cX3_register 30 = .ok (.if_icmp .ne 35, 3) := by decide +kernel
theorem dX3_register_33 : decode cX3_register 33 = .ok (.iload_n 2, 1) := by decide +kernel
theorem dX3_register_34 : decode cX3_register 34 = .ok (.ifCond .lt 31, 3) := by decide +kernel
theorem dX3_register_37 : decode cX3_register 37 = .ok (.iload_n 2, 1) := by decide +kernel
theorem dX3_register_38 : decode cX3_register 38 = .ok (.aload_n 0, 1) := by decide +kernel
theorem dX3_register_39 : decode cX3_register 39 = .ok (.getfield 36, 3) := by decide +kernel
theorem dX3_register_42 : decode cX3_register 42 = .ok (.arraylength, 1) := by decide +kernel
theorem dX3_register_43 : decode cX3_register 43 = .ok (.if_icmp .ge 22, 3) := by decide +kernel
theorem dX3_register_46 : decode cX3_register 46 = .ok (.aload_n 0, 1) := by decide +kernel
theorem dX3_register_47 : decode cX3_register 47 = .ok (.getfield 36, 3) := by decide +kernel
theorem dX3_register_50 : decode cX3_register 50 = .ok (.iload_n 2, 1) := by decide +kernel
theorem dX3_register_51 : decode cX3_register 51 = .ok (.dup2, 1) := by decide +kernel
theorem dX3_register_52 : decode cX3_register 52 = .ok (.iaload, 1) := by decide +kernel
theorem dX3_register_53 : decode cX3_register 53 = .ok (.iload_n 3, 1) := by decide +kernel
theorem dX3_register_54 : decode cX3_register 54 = .ok (.iconst (-1), 1) := by decide +kernel
theorem dX3_register_55 : decode cX3_register 55 = .ok (.if_icmp .ne 7, 3) := by decide +kernel
theorem dX3_register_58 : decode cX3_register 58 = .ok (.iconst (-1), 1) := by decide +kernel
theorem dX3_register_59 : decode cX3_register 59 = .ok (.goto 4, 3) := by decide +kernel
theorem dX3_register_62 : decode cX3_register 62 = .ok (.iconst 1, 1) := by decide +kernel
theorem dX3_register_63 : decode cX3_register 63 = .ok (.iadd, 1) := by decide +kernel
theorem dX3_register_64 : decode cX3_register 64 = .ok (.iastore, 1) := by decide +kernel
theorem dX3_register_65 : decode cX3_register 65 = .ok (.return_, 1) := by decide +kernel
theorem dX3_bagAround_0 : decode cX3_bagAround 0 = .ok (.aload_n 0, 1) := by decide +kernel
theorem dX3_bagAround_1 : decode cX3_bagAround 1 = .ok (.getfield 9, 3) := by decide +kernel
theorem dX3_bagAround_4 : decode cX3_bagAround 4 = .ok (.iload_n 1, 1) := by decide +kernel
theorem dX3_bagAround_5 : decode cX3_bagAround 5 = .ok (.iaload, 1) := by decide +kernel
theorem dX3_bagAround_6 : decode cX3_bagAround 6 = .ok (.iconst 3, 1) := by decide +kernel
theorem dX3_bagAround_7 : decode cX3_bagAround 7 = .ok (.if_icmp .ne 12, 3) := by decide +kernel
theorem dX3_bagAround_10 : decode cX3_bagAround 10 = .ok (.aload_n 0, 1) := by decide +kernel
theorem dX3_bagAround_11 : decode cX3_bagAround 11 = .ok (.getfield 15, 3) := by decide +kernel
theorem dX3_bagAround_14 : decode cX3_bagAround 14 = .ok (.iload_n 1, 1) := by decide +kernel
theorem dX3_bagAround_15 : decode cX3_bagAround 15 = .ok (.iaload, 1) := by decide +kernel
theorem dX3_bagAround_16 : decode cX3_bagAround 16 = .ok (.goto 4, 3) := by decide +kernel
theorem dX3_bagAround_19 : decode cX3_bagAround 19 = .ok (.iconst (-1), 1) := by decide +kernel
theorem dX3_bagAround_20 : decode cX3_bagAround 20 = .ok (.ireturn, 1) := by decide +kernel
theorem dX3_outermost_0 : decode cX3_outermost 0 = .ok (.iload_n 1, 1) := by decide +kernel
theorem dX3_outermost_1 : decode cX3_outermost 1 = .ok (.istore_n 2, 1) := by decide +kernel
theorem dX3_outermost_2 : decode cX3_outermost 2 = .ok (.aload_n 0, 1) := by decide +kernel
theorem dX3_outermost_3 : decode cX3_outermost 3 = .ok (.iload_n 1, 1) := by decide +kernel
theorem dX3_outermost_4 : decode cX3_outermost 4 = .ok (.invokevirtual 218, 3) := by decide +kernel
theorem dX3_outermost_7 : decode cX3_outermost 7 = .ok (.istore_n 3, 1) := by decide +kernel
theorem dX3_outermost_8 : decode cX3_outermost 8 = .ok (.iconst 0, 1) := by decide +kernel
theorem dX3_outermost_9 : decode cX3_outermost 9 = .ok (.istore 4, 2) := by decide +kernel
theorem dX3_outermost_11 : decode cX3_outermost 11 = .ok (.iload 4, 2) := by decide +kernel
theorem dX3_outermost_13 : decode cX3_outermost 13 = .ok (.iconst 4, 1) := by decide +kernel
theorem dX3_outermost_14 : decode cX3_outermost 14 = .ok (.if_icmp .ge 28, 3) := by decide +kernel
theorem dX3_outermost_17 : decode cX3_outermost 17 = .ok (.aload_n 0, 1) := by decide +kernel
theorem dX3_outermost_18 : decode cX3_outermost 18 = .ok (.getfield 48, 3) := by decide +kernel
theorem dX3_outermost_21 : decode cX3_outermost 21 = .ok (.iload_n 3, 1) := by decide +kernel
theorem dX3_outermost_22 : decode cX3_outermost 22 = .ok (.invokevirtual 73, 3) := by decide +kernel
theorem dX3_outermost_25 : decode cX3_outermost 25 = .ok (.ifCond .eq 17, 3) := by decide +kernel
theorem dX3_outermost_28 : decode cX3_outermost 28 = .ok (.iload_n 3, 1) := by decide +kernel
theorem dX3_outermost_29 : decode cX3_outermost 29 = .ok (.istore_n 2, 1) := by decide +kernel
theorem dX3_outermost_30 : decode cX3_outermost 30 = .ok (.aload_n 0, 1) := by decide +kernel
theorem dX3_outermost_31 : decode cX3_outermost 31 = .ok (.iload_n 3, 1) := by decide +kernel
theorem dX3_outermost_32 : decode cX3_outermost 32 = .ok (.invokevirtual 218, 3) := by decide +kernel
theorem dX3_outermost_35 : decode cX3_outermost 35 = .ok (.istore_n 3, 1) := by decide +kernel
theorem dX3_outermost_36 : decode cX3_outermost 36 = .ok (.iinc 4 1, 3) := by decide +kernel
theorem dX3_outermost_39 : decode cX3_outermost 39 = .ok (.goto (-28), 3) := by decide +kernel
theorem dX3_outermost_42 : decode cX3_outermost 42 = .ok (.iload_n 2, 1) := by decide +kernel
theorem dX3_outermost_43 : decode cX3_outermost 43 = .ok (.ireturn, 1) := by decide +kernel
theorem dX3_isFree_0 : decode cX3_isFree 0 = .ok (.aload_n 0, 1) := by decide +kernel
theorem dX3_isFree_1 : decode cX3_isFree 1 = .ok (.iload_n 1, 1) := by decide +kernel
theorem dX3_isFree_2 : decode cX3_isFree 2 = .ok (.invokevirtual 218, 3) := by decide +kernel
theorem dX3_isFree_5 : decode cX3_isFree 5 = .ok (.istore_n 2, 1) := by decide +kernel
theorem dX3_isFree_6 : decode cX3_isFree 6 = .ok (.iconst 0, 1) := by decide +kernel
theorem dX3_isFree_7 : decode cX3_isFree 7 = .ok (.istore_n 3, 1) := by decide +kernel
theorem dX3_isFree_8 : decode cX3_isFree 8 = .ok (.iload_n 3, 1) := by decide +kernel
theorem dX3_isFree_9 : decode cX3_isFree 9 = .ok (.iconst 4, 1) := by decide +kernel
theorem dX3_isFree_10 : decode cX3_isFree 10 = .ok (.if_icmp .ge 38, 3) := by decide +kernel
theorem dX3_isFree_13 : decode cX3_isFree 13 = .ok (.aload_n 0, 1) := by decide +kernel
theorem dX3_isFree_14 : decode cX3_isFree 14 = .ok (.getfield 48, 3) := by decide +kernel
theorem dX3_isFree_17 : decode cX3_isFree 17 = .ok (.iload_n 2, 1) := by decide +kernel
theorem dX3_isFree_18 : decode cX3_isFree 18 = .ok (.invokevirtual 73, 3) := by decide +kernel
theorem dX3_isFree_21 : decode cX3_isFree 21 = .ok (.ifCond .eq 27, 3) := by decide +kernel
theorem dX3_isFree_24 : decode cX3_isFree 24 = .ok (.aload_n 0, 1) := by decide +kernel
theorem dX3_isFree_25 : decode cX3_isFree 25 = .ok (.getfield 21, 3) := by decide +kernel
theorem dX3_isFree_28 : decode cX3_isFree 28 = .ok (.iload_n 2, 1) := by decide +kernel
theorem dX3_isFree_29 : decode cX3_isFree 29 = .ok (.iaload, 1) := by decide +kernel
theorem dX3_isFree_30 : decode cX3_isFree 30 = .ok (.iconst (-1), 1) := by decide +kernel
theorem dX3_isFree_31 : decode cX3_isFree 31 = .ok (.if_icmp .eq 5, 3) := by decide +kernel
theorem dX3_isFree_34 : decode cX3_isFree 34 = .ok (.iconst 0, 1) := by decide +kernel
theorem dX3_isFree_35 : decode cX3_isFree 35 = .ok (.ireturn, 1) := by decide +kernel
theorem dX3_isFree_36 : decode cX3_isFree 36 = .ok (.aload_n 0, 1) := by decide +kernel
theorem dX3_isFree_37 : decode cX3_isFree 37 = .ok (.iload_n 2, 1) := by decide +kernel
theorem dX3_isFree_38 : decode cX3_isFree 38 = .ok (.invokevirtual 218, 3) := by decide +kernel
theorem dX3_isFree_41 : decode cX3_isFree 41 = .ok (.istore_n 2, 1) := by decide +kernel
theorem dX3_isFree_42 : decode cX3_isFree 42 = .ok (.iinc 3 1, 3) := by decide +kernel
theorem dX3_isFree_45 : decode cX3_isFree 45 = .ok (.goto (-37), 3) := by decide +kernel
theorem dX3_isFree_48 : decode cX3_isFree 48 = .ok (.iconst 1, 1) := by decide +kernel
theorem dX3_isFree_49 : decode cX3_isFree 49 = .ok (.ireturn, 1) := by decide +kernel
theorem dX3_deepestIn_0 : decode cX3_deepestIn 0 = .ok (.iconst 0, 1) := by decide +kernel
theorem dX3_deepestIn_1 : decode cX3_deepestIn 1 = .ok (.istore_n 2, 1) := by decide +kernel
theorem dX3_deepestIn_2 : decode cX3_deepestIn 2 = .ok (.iconst 0, 1) := by decide +kernel
theorem dX3_deepestIn_3 : decode cX3_deepestIn 3 = .ok (.istore_n 3, 1) := by decide +kernel
theorem dX3_deepestIn_4 : decode cX3_deepestIn 4 = .ok (.iload_n 3, 1) := by decide +kernel
theorem dX3_deepestIn_5 : decode cX3_deepestIn 5 = .ok (.aload_n 0, 1) := by decide +kernel
theorem dX3_deepestIn_6 : decode cX3_deepestIn 6 = .ok (.getfield 48, 3) := by decide +kernel
theorem dX3_deepestIn_9 : decode cX3_deepestIn 9 = .ok (.getfield 87, 3) := by decide +kernel
theorem dX3_deepestIn_12 : decode cX3_deepestIn 12 = .ok (.if_icmp .ge 20, 3) := by decide +kernel
theorem dX3_deepestIn_15 : decode cX3_deepestIn 15 = .ok (.iload_n 2, 1) := by decide +kernel
theorem dX3_deepestIn_16 : decode cX3_deepestIn 16 = .ok (.aload_n 0, 1) := by decide +kernel
theorem dX3_deepestIn_17 : decode cX3_deepestIn 17 = .ok (.iload_n 3, 1) := by decide +kernel
theorem dX3_deepestIn_18 : decode cX3_deepestIn 18 = .ok (.iload_n 1, 1) := by decide +kernel
theorem dX3_deepestIn_19 : decode cX3_deepestIn 19 = .ok (.invokevirtual 252, 3) := by decide +kernel
theorem dX3_deepestIn_22 : decode cX3_deepestIn 22 = .ok (.invokestatic 255, 3) := by decide +kernel
theorem dX3_deepestIn_25 : decode cX3_deepestIn 25 = .ok (.istore_n 2, 1) := by decide +kernel
theorem dX3_deepestIn_26 : decode cX3_deepestIn 26 = .ok (.iinc 3 1, 3) := by decide +kernel
theorem dX3_deepestIn_29 : decode cX3_deepestIn 29 = .ok (.goto (-25), 3) := by decide +kernel
theorem dX3_deepestIn_32 : decode cX3_deepestIn 32 = .ok (.iload_n 2, 1) := by decide +kernel
theorem dX3_deepestIn_33 : decode cX3_deepestIn 33 = .ok (.ireturn, 1) := by decide +kernel
theorem dX3_stepsUpTo_0 : decode cX3_stepsUpTo 0 = .ok (.aload_n 0, 1) := by decide +kernel
theorem dX3_stepsUpTo_1 : decode cX3_stepsUpTo 1 = .ok (.iload_n 1, 1) := by decide +kernel
theorem dX3_stepsUpTo_2 : decode cX3_stepsUpTo 2 = .ok (.invokevirtual 218, 3) := by decide +kernel
theorem dX3_stepsUpTo_5 : decode cX3_stepsUpTo 5 = .ok (.istore_n 3, 1) := by decide +kernel
theorem dX3_stepsUpTo_6 : decode cX3_stepsUpTo 6 = .ok (.iconst 1, 1) := by decide +kernel
theorem dX3_stepsUpTo_7 : decode cX3_stepsUpTo 7 = .ok (.istore 4, 2) := by decide +kernel
theorem dX3_stepsUpTo_9 : decode cX3_stepsUpTo 9 = .ok (.iload 4, 2) := by decide +kernel
theorem dX3_stepsUpTo_11 : decode cX3_stepsUpTo 11 = .ok (.iconst 4, 1) := by decide +kernel
theorem dX3_stepsUpTo_12 : decode cX3_stepsUpTo 12 = .ok (.if_icmp .gt 34, 3) := by decide +kernel
theorem dX3_stepsUpTo_15 : decode cX3_stepsUpTo 15 = .ok (.aload_n 0, 1) := by decide +kernel
theorem dX3_stepsUpTo_16 : decode cX3_stepsUpTo 16 = .ok (.getfield 48, 3) := by decide +kernel
theorem dX3_stepsUpTo_19 : decode cX3_stepsUpTo 19 = .ok (.iload_n 3, 1) := by decide +kernel
theorem dX3_stepsUpTo_20 : decode cX3_stepsUpTo 20 = .ok (.invokevirtual 73, 3) := by decide +kernel
theorem dX3_stepsUpTo_23 : decode cX3_stepsUpTo 23 = .ok (.ifCond .eq 23, 3) := by decide +kernel
theorem dX3_stepsUpTo_26 : decode cX3_stepsUpTo 26 = .ok (.iload_n 3, 1) := by decide +kernel
theorem dX3_stepsUpTo_27 : decode cX3_stepsUpTo 27 = .ok (.iload_n 2, 1) := by decide +kernel
theorem dX3_stepsUpTo_28 : decode cX3_stepsUpTo 28 = .ok (.if_icmp .ne 6, 3) := by decide +kernel
theorem dX3_stepsUpTo_31 : decode cX3_stepsUpTo 31 = .ok (.iload 4, 2) := by decide +kernel
theorem dX3_stepsUpTo_33 : decode cX3_stepsUpTo 33 = .ok (.ireturn, 1) := by decide +kernel
theorem dX3_stepsUpTo_34 : decode cX3_stepsUpTo 34 = .ok (.aload_n 0, 1) := by decide +kernel
theorem dX3_stepsUpTo_35 : decode cX3_stepsUpTo 35 = .ok (.iload_n 3, 1) := by decide +kernel
theorem dX3_stepsUpTo_36 : decode cX3_stepsUpTo 36 = .ok (.invokevirtual 218, 3) := by decide +kernel
theorem dX3_stepsUpTo_39 : decode cX3_stepsUpTo 39 = .ok (.istore_n 3, 1) := by decide +kernel
theorem dX3_stepsUpTo_40 : decode cX3_stepsUpTo 40 = .ok (.iinc 4 1, 3) := by decide +kernel
theorem dX3_stepsUpTo_43 : decode cX3_stepsUpTo 43 = .ok (.goto (-34), 3) := by decide +kernel
theorem dX3_stepsUpTo_46 : decode cX3_stepsUpTo 46 = .ok (.iconst 0, 1) := by decide +kernel
theorem dX3_stepsUpTo_47 : decode cX3_stepsUpTo 47 = .ok (.ireturn, 1) := by decide +kernel
theorem dX3_isAnyOfItInHand_0 : decode cX3_isAnyOfItInHand 0 = .ok (.iconst 0, 1) := by decide +kernel
theorem dX3_isAnyOfItInHand_1 : decode cX3_isAnyOfItInHand 1 = .ok (.istore_n 1, 1) := by decide +kernel
theorem dX3_isAnyOfItInHand_2 : decode cX3_isAnyOfItInHand 2 = .ok (.iload_n 1, 1) := by decide +kernel
theorem dX3_isAnyOfItInHand_3 : decode cX3_isAnyOfItInHand 3 = .ok (.aload_n 0, 1) := by decide +kernel
theorem dX3_isAnyOfItInHand_4 : decode cX3_isAnyOfItInHand 4 = .ok (.getfield 48, 3) := by decide +kernel
theorem dX3_isAnyOfItInHand_7 : decode cX3_isAnyOfItInHand 7 = .ok (.getfield 87, 3) := by decide +kernel
theorem dX3_isAnyOfItInHand_10 : decode cX3_isAnyOfItInHand 10 = .ok (.if_icmp .ge 33, 3) := by decide +kernel
theorem dX3_isAnyOfItInHand_13 : decode cX3_isAnyOfItInHand 13 = .ok (.aload_n 0, 1) := by decide +kernel
theorem dX3_isAnyOfItInHand_14 : decode cX3_isAnyOfItInHand 14 = .ok (.getfield 9, 3) := by decide +kernel
theorem dX3_isAnyOfItInHand_17 : decode cX3_isAnyOfItInHand 17 = .ok (.iload_n 1, 1) := by decide +kernel
theorem dX3_isAnyOfItInHand_18 : decode cX3_isAnyOfItInHand 18 = .ok (.iaload, 1) := by decide +kernel
theorem dX3_isAnyOfItInHand_19 : decode cX3_isAnyOfItInHand 19 = .ok (.iconst 2, 1) := by decide +kernel
theorem dX3_isAnyOfItInHand_20 : decode cX3_isAnyOfItInHand 20 = .ok (.if_icmp .ne 17, 3) := by decide +kernel
theorem dX3_isAnyOfItInHand_23 : decode cX3_isAnyOfItInHand 23 = .ok (.aload_n 0, 1) := by decide +kernel
theorem dX3_isAnyOfItInHand_24 : decode cX3_isAnyOfItInHand 24 = .ok (.iload_n 1, 1) := by decide +kernel
theorem dX3_isAnyOfItInHand_25 : decode cX3_isAnyOfItInHand 25 = .ok (.aload_n 0, 1) := by decide +kernel
theorem dX3_isAnyOfItInHand_26 : decode cX3_isAnyOfItInHand 26 = .ok (.getfield 108, 3) := by decide +kernel
theorem dX3_isAnyOfItInHand_29 : decode cX3_isAnyOfItInHand 29 = .ok (.invokevirtual 260, 3) := by decide +kernel
theorem dX3_isAnyOfItInHand_32 : decode cX3_isAnyOfItInHand 32 = .ok (.ifCond .eq 5, 3) := by decide +kernel
theorem dX3_isAnyOfItInHand_35 : decode cX3_isAnyOfItInHand 35 = .ok (.iconst 1, 1) := by decide +kernel
theorem dX3_isAnyOfItInHand_36 : decode cX3_isAnyOfItInHand 36 = .ok (.ireturn, 1) := by decide +kernel
theorem dX3_isAnyOfItInHand_37 : decode cX3_isAnyOfItInHand 37 = .ok (.iinc 1 1, 3) := by decide +kernel
theorem dX3_isAnyOfItInHand_40 : decode cX3_isAnyOfItInHand 40 = .ok (.goto (-38), 3) := by decide +kernel
theorem dX3_isAnyOfItInHand_43 : decode cX3_isAnyOfItInHand 43 = .ok (.iconst 0, 1) := by decide +kernel
theorem dX3_isAnyOfItInHand_44 : decode cX3_isAnyOfItInHand 44 = .ok (.ireturn, 1) := by decide +kernel
theorem dX3_isOf_0 : decode cX3_isOf 0 = .ok (.aload_n 0, 1) := by decide +kernel
theorem dX3_isOf_1 : decode cX3_isOf 1 = .ok (.getfield 39, 3) := by decide +kernel
theorem dX3_isOf_4 : decode cX3_isOf 4 = .ok (.iload_n 1, 1) := by decide +kernel
theorem dX3_isOf_5 : decode cX3_isOf 5 = .ok (.iaload, 1) := by decide +kernel
theorem dX3_isOf_6 : decode cX3_isOf 6 = .ok (.istore_n 3, 1) := by decide +kernel
theorem dX3_isOf_7 : decode cX3_isOf 7 = .ok (.iconst 0, 1) := by decide +kernel
theorem dX3_isOf_8 : decode cX3_isOf 8 = .ok (.istore 4, 2) := by decide +kernel
theorem dX3_isOf_10 : decode cX3_isOf 10 = .ok (.iload 4, 2) := by decide +kernel
theorem dX3_isOf_12 : decode cX3_isOf 12 = .ok (.bipush 60, 2) := by decide +kernel
theorem dX3_isOf_14 : decode cX3_isOf 14 = .ok (.if_icmp .ge 34, 3) := by decide +kernel
theorem dX3_isOf_17 : decode cX3_isOf 17 = .ok (.aload_n 0, 1) := by decide +kernel
theorem dX3_isOf_18 : decode cX3_isOf 18 = .ok (.getfield 48, 3) := by decide +kernel
theorem dX3_isOf_21 : decode cX3_isOf 21 = .ok (.iload_n 3, 1) := by decide +kernel
theorem dX3_isOf_22 : decode cX3_isOf 22 = .ok (.invokevirtual 73, 3) := by decide +kernel
theorem dX3_isOf_25 : decode cX3_isOf 25 = .ok (.ifCond .eq 23, 3) := by decide +kernel
theorem dX3_isOf_28 : decode cX3_isOf 28 = .ok (.iload_n 3, 1) := by decide +kernel
theorem dX3_isOf_29 : decode cX3_isOf 29 = .ok (.iload_n 2, 1) := by decide +kernel
theorem dX3_isOf_30 : decode cX3_isOf 30 = .ok (.if_icmp .ne 5, 3) := by decide +kernel
theorem dX3_isOf_33 : decode cX3_isOf 33 = .ok (.iconst 1, 1) := by decide +kernel
theorem dX3_isOf_34 : decode cX3_isOf 34 = .ok (.ireturn, 1) := by decide +kernel
theorem dX3_isOf_35 : decode cX3_isOf 35 = .ok (.aload_n 0, 1) := by decide +kernel
theorem dX3_isOf_36 : decode cX3_isOf 36 = .ok (.getfield 39, 3) := by decide +kernel
theorem dX3_isOf_39 : decode cX3_isOf 39 = .ok (.iload_n 3, 1) := by decide +kernel
theorem dX3_isOf_40 : decode cX3_isOf 40 = .ok (.iaload, 1) := by decide +kernel
theorem dX3_isOf_41 : decode cX3_isOf 41 = .ok (.istore_n 3, 1) := by decide +kernel
theorem dX3_isOf_42 : decode cX3_isOf 42 = .ok (.iinc 4 1, 3) := by decide +kernel
theorem dX3_isOf_45 : decode cX3_isOf 45 = .ok (.goto (-35), 3) := by decide +kernel
theorem dX3_isOf_48 : decode cX3_isOf 48 = .ok (.iconst 0, 1) := by decide +kernel
theorem dX3_isOf_49 : decode cX3_isOf 49 = .ok (.ireturn, 1) := by decide +kernel
theorem dX4_init_0 : decode cX4_init 0 = .ok (.aload_n 0, 1) := by decide +kernel
theorem dX4_init_1 : decode cX4_init 1 = .ok (.invokespecial 3, 3) := by decide +kernel
theorem dX4_init_4 : decode cX4_init 4 = .ok (.aload_n 0, 1) := by decide +kernel
theorem dX4_init_5 : decode cX4_init 5 = .ok (.bipush 20, 2) := by decide +kernel
theorem dX4_init_7 : decode cX4_init 7 = .ok (.newarray .boolean, 2) := by decide +kernel
theorem dX4_init_9 : decode cX4_init 9 = .ok (.putfield 9, 3) := by decide +kernel
theorem dX4_init_12 : decode cX4_init 12 = .ok (.aload_n 0, 1) := by decide +kernel
theorem dX4_init_13 : decode cX4_init 13 = .ok (.bipush 8, 2) := by decide +kernel
theorem dX4_init_15 : decode cX4_init 15 = .ok (.newarray .boolean, 2) := by decide +kernel
theorem dX4_init_17 : decode cX4_init 17 = .ok (.putfield 15, 3) := by decide +kernel
theorem dX4_init_20 : decode cX4_init 20 = .ok (.aload_n 0, 1) := by decide +kernel
theorem dX4_init_21 : decode cX4_init 21 = .ok (.bipush 6, 2) := by decide +kernel
theorem dX4_init_23 : decode cX4_init 23 = .ok (.newarray .int, 2) := by decide +kernel
theorem dX4_init_25 : decode cX4_init 25 = .ok (.putfield 18, 3) := by decide +kernel
theorem dX4_init_28 : decode cX4_init 28 = .ok (.aload_n 0, 1) := by decide +kernel
theorem dX4_init_29 : decode cX4_init 29 = .ok (.bipush 60, 2) := by decide +kernel
theorem dX4_init_31 : decode cX4_init 31 = .ok (.newarray .int, 2) := by decide +kernel
theorem dX4_init_33 : decode cX4_init 33 = .ok (.putfield 22, 3) := by decide +kernel
theorem dX4_init_36 : decode cX4_init 36 = .ok (.aload_n 0, 1) := by decide +kernel
theorem dX4_init_37 : decode cX4_init 37 = .ok (.bipush 60, 2) := by decide +kernel
theorem dX4_init_39 : decode cX4_init 39 = .ok (.newarray .int, 2) := by decide +kernel
theorem dX4_init_41 : decode cX4_init 41 = .ok (.putfield 25, 3) := by decide +kernel
theorem dX4_init_44 : decode cX4_init 44 = .ok (.aload_n 0, 1) := by decide +kernel
theorem dX4_init_45 : decode cX4_init 45 = .ok (.getfield 18, 3) := by decide +kernel
theorem dX4_init_48 : decode cX4_init 48 = .ok (.iconst (-1), 1) := by decide +kernel
theorem dX4_init_49 : decode cX4_init 49 = .ok (.invokestatic 28, 3) := by decide +kernel
theorem dX4_init_52 : decode cX4_init 52 = .ok (.return_, 1) := by decide +kernel
theorem dX4_addHand_0 : decode cX4_addHand 0 = .ok (.aload_n 0, 1) := by decide +kernel
theorem dX4_addHand_1 : decode cX4_addHand 1 = .ok (.getfield 34, 3) := by decide +kernel
theorem dX4_addHand_4 : decode cX4_addHand 4 = .ok (.bipush 20, 2) := by decide +kernel
theorem dX4_addHand_6 : decode cX4_addHand 6 = .ok (.if_icmp .lt 5, 3) := by decide +kernel
theorem dX4_addHand_9 : decode cX4_addHand 9 = .ok (.iconst (-1), 1) := by decide +kernel
theorem dX4_addHand_10 : decode cX4_addHand 10 = .ok (.ireturn, 1) := by decide +kernel
theorem dX4_addHand_11 : decode cX4_addHand 11 = .ok (.aload_n 0, 1) := by decide +kernel
theorem dX4_addHand_12 : decode cX4_addHand 12 = .ok (.getfield 9, 3) := by decide +kernel
theorem dX4_addHand_15 : decode cX4_addHand 15 = .ok (.aload_n 0, 1) := by decide +kernel
theorem dX4_addHand_16 : decode cX4_addHand 16 = .ok (.getfield 34, 3) := by decide +kernel
theorem dX4_addHand_19 : decode cX4_addHand 19 = .ok (.iload_n 1, 1) := by decide +kernel
theorem dX4_addHand_20 : decode cX4_addHand 20 = .ok (.bastore, 1) := by decide +kernel
theorem dX4_addHand_21 : decode cX4_addHand 21 = .ok (.aload_n 0, 1) := by decide +kernel
theorem dX4_addHand_22 : decode cX4_addHand 22 = .ok (.dup, 1) := by decide +kernel
theorem dX4_addHand_23 : decode cX4_addHand 23 = .ok (.getfield 34, 3) := by decide +kernel
theorem dX4_addHand_26 : decode cX4_addHand 26 = .ok (.iconst 1, 1) := by decide +kernel
theorem dX4_addHand_27 : decode cX4_addHand 27 = .ok (.iadd, 1) := by decide +kernel
theorem dX4_addHand_28 : decode cX4_addHand 28 = .ok (.putfield 34, 3) := by decide +kernel
theorem dX4_addHand_31 : decode cX4_addHand 31 = .ok (.aload_n 0, 1) := by decide +kernel
theorem dX4_addHand_32 : decode cX4_addHand 32 = .ok (.getfield 34, 3) := by decide +kernel
theorem dX4_addHand_35 : decode cX4_addHand 35 = .ok (.iconst 1, 1) := by decide +kernel
theorem dX4_addHand_36 : decode cX4_addHand 36 = .ok (.isub, 1) := by decide +kernel
theorem dX4_addHand_37 : decode cX4_addHand 37 = .ok (.ireturn, 1) := by decide +kernel
theorem dX4_addShelf_0 : decode cX4_addShelf 0 = .ok (.aload_n 0, 1) := by decide +kernel
theorem dX4_addShelf_1 : decode cX4_addShelf 1 = .ok (.getfield 38, 3) := by decide +kernel
theorem dX4_addShelf_4 : decode cX4_addShelf 4 = .ok (.bipush 8, 2) := by decide +kernel
theorem dX4_addShelf_6 : decode cX4_addShelf 6 = .ok (.if_icmp .lt 5, 3) := by decide +kernel
theorem dX4_addShelf_9 : decode cX4_addShelf 9 = .ok (.iconst (-1), 1) := by decide +kernel
theorem dX4_addShelf_10 : decode cX4_addShelf 10 = .ok (.ireturn, 1) := by decide +kernel
theorem dX4_addShelf_11 : decode cX4_addShelf 11 = .ok (.aload_n 0, 1) := by decide +kernel
theorem dX4_addShelf_12 : decode cX4_addShelf 12 = .ok (.getfield 15, 3) := by decide +kernel
theorem dX4_addShelf_15 : decode cX4_addShelf 15 = .ok (.aload_n 0, 1) := by decide +kernel
theorem dX4_addShelf_16 : decode cX4_addShelf 16 = .ok (.getfield 38, 3) := by decide +kernel
theorem dX4_addShelf_19 : decode cX4_addShelf 19 = .ok (.iload_n 1, 1) := by decide +kernel
theorem dX4_addShelf_20 : decode cX4_addShelf 20 = .ok (.bastore, 1) := by decide +kernel
theorem dX4_addShelf_21 : decode cX4_addShelf 21 = .ok (.aload_n 0, 1) := by decide +kernel
theorem dX4_addShelf_22 : decode cX4_addShelf 22 = .ok (.dup, 1) := by decide +kernel
theorem dX4_addShelf_23 : decode cX4_addShelf 23 = .ok (.getfield 38, 3) := by decide +kernel
theorem dX4_addShelf_26 : decode cX4_addShelf 26 = .ok (.iconst 1, 1) := by decide +kernel
theorem dX4_addShelf_27 : decode cX4_addShelf 27 = .ok (.iadd, 1) := by decide +kernel
theorem dX4_addShelf_28 : decode cX4_addShelf 28 = .ok (.putfield 38, 3) := by decide +kernel
theorem dX4_addShelf_31 : decode cX4_addShelf 31 = .ok (.aload_n 0, 1) := by decide +kernel
theorem dX4_addShelf_32 : decode cX4_addShelf 32 = .ok (.getfield 38, 3) := by decide +kernel
theorem dX4_addShelf_35 : decode cX4_addShelf 35 = .ok (.iconst 1, 1) := by decide +kernel
theorem dX4_addShelf_36 : decode cX4_addShelf 36 = .ok (.isub, 1) := by decide +kernel
theorem dX4_addShelf_37 : decode cX4_addShelf 37 = .ok (.ireturn, 1) := by decide +kernel
theorem dX4_addThing_0 : decode cX4_addThing 0 = .ok (.aload_n 0, 1) := by decide +kernel
theorem dX4_addThing_1 : decode cX4_addThing 1 = .ok (.getfield 41, 3) := by decide +kernel
theorem dX4_addThing_4 : decode cX4_addThing 4 = .ok (.bipush 60, 2) := by decide +kernel
theorem dX4_addThing_6 : decode cX4_addThing 6 = .ok (.if_icmp .lt 5, 3) := by decide +kernel
theorem dX4_addThing_9 : decode cX4_addThing 9 = .ok (.iconst (-1), 1) := by decide +kernel
theorem dX4_addThing_10 : decode cX4_addThing 10 = .ok (.ireturn, 1) := by decide +kernel
theorem dX4_addThing_11 : decode cX4_addThing 11 = .ok (.aload_n 0, 1) := by decide +kernel
theorem dX4_addThing_12 : decode cX4_addThing 12 = .ok (.getfield 22, 3) := by decide +kernel
theorem dX4_addThing_15 : decode cX4_addThing 15 = .ok (.aload_n 0, 1) := by decide +kernel
theorem dX4_addThing_16 : decode cX4_addThing 16 = .ok (.getfield 41, 3) := by decide +kernel
theorem dX4_addThing_19 : decode cX4_addThing 19 = .ok (.iload_n 1, 1) := by decide +kernel
theorem dX4_addThing_20 : decode cX4_addThing 20 = .ok (.iastore, 1) := by decide +kernel
theorem dX4_addThing_21 : decode cX4_addThing 21 = .ok (.aload_n 0, 1) := by decide +kernel
theorem dX4_addThing_22 : decode cX4_addThing 22 = .ok (.getfield 25, 3) := by decide +kernel
theorem dX4_addThing_25 : decode cX4_addThing 25 = .ok (.aload_n 0, 1) := by decide +kernel
theorem dX4_addThing_26 : decode cX4_addThing 26 = .ok (.getfield 41, 3) := by decide +kernel
theorem dX4_addThing_29 : decode cX4_addThing 29 = .ok (.iload_n 2, 1) := by decide +kernel
theorem dX4_addThing_30 : decode cX4_addThing 30 = .ok (.iastore, 1) := by decide +kernel
theorem dX4_addThing_31 : decode cX4_addThing 31 = .ok (.aload_n 0, 1) := by decide +kernel
theorem dX4_addThing_32 : decode cX4_addThing 32 = .ok (.dup, 1) := by decide +kernel
theorem dX4_addThing_33 : decode cX4_addThing 33 = .ok (.getfield 41, 3) := by decide +kernel
theorem dX4_addThing_36 : decode cX4_addThing 36 = .ok (.iconst 1, 1) := by decide +kernel
theorem dX4_addThing_37 : decode cX4_addThing 37 = .ok (.iadd, 1) := by decide +kernel
theorem dX4_addThing_38 : decode cX4_addThing 38 = .ok (.putfield 41, 3) := by decide +kernel
theorem dX4_addThing_41 : decode cX4_addThing 41 = .ok (.aload_n 0, 1) := by decide +kernel
theorem dX4_addThing_42 : decode cX4_addThing 42 = .ok (.getfield 41, 3) := by decide +kernel
theorem dX4_addThing_45 : decode cX4_addThing 45 = .ok (.iconst 1, 1) := by decide +kernel
theorem dX4_addThing_46 : decode cX4_addThing 46 = .ok (.isub, 1) := by decide +kernel
theorem dX4_addThing_47 : decode cX4_addThing 47 = .ok (.ireturn, 1) := by decide +kernel
theorem dX4_giveOut_0 : decode cX4_giveOut 0 = .ok (.iload_n 1, 1) := by decide +kernel
theorem dX4_giveOut_1 : decode cX4_giveOut 1 = .ok (.ifCond .lt 16, 3) := by decide +kernel
theorem dX4_giveOut_4 : decode cX4_giveOut 4 = .ok (.iload_n 1, 1) := by decide +kernel
theorem dX4_giveOut_5 : decode cX4_giveOut 5 = .ok (.bipush 6, 2) := by decide +kernel
theorem dX4_giveOut_7 : decode cX4_giveOut 7 = .ok (.if_icmp .ge 10, 3) := by decide +kernel
theorem dX4_giveOut_10 : decode cX4_giveOut 10 = .ok (.aload_n 0, 1) := by decide +kernel
theorem dX4_giveOut_11 : decode cX4_giveOut 11 = .ok (.getfield 18, 3) := by decide +kernel
theorem dX4_giveOut_14 : decode cX4_giveOut 14 = .ok (.iload_n 1, 1) := by decide +kernel
theorem dX4_giveOut_15 : decode cX4_giveOut 15 = .ok (.iload_n 2, 1) := by decide +kernel
theorem dX4_giveOut_16 : decode cX4_giveOut 16 = .ok (.iastore, 1) := by decide +kernel
theorem dX4_giveOut_17 : decode cX4_giveOut 17 = .ok (.return_, 1) := by decide +kernel
theorem dX4_isHand_0 : decode cX4_isHand 0 = .ok (.iload_n 1, 1) := by decide +kernel
theorem dX4_isHand_1 : decode cX4_isHand 1 = .ok (.ifCond .lt 15, 3) := by decide +kernel
theorem dX4_isHand_4 : decode cX4_isHand 4 = .ok (.iload_n 1, 1) := by decide +kernel
theorem dX4_isHand_5 : decode cX4_isHand 5 = .ok (.aload_n 0, 1) := by decide +kernel
theorem dX4_isHand_6 : decode cX4_isHand 6 = .ok (.getfield 34, 3) := by decide +kernel
theorem dX4_isHand_9 : decode cX4_isHand 9 = .ok (.if_icmp .ge 7, 3) := by decide +kernel
theorem dX4_isHand_12 : decode cX4_isHand 12 = .ok (.iconst 1, 1) := by decide +kernel
theorem dX4_isHand_13 : decode cX4_isHand 13 = .ok (.goto 4, 3) := by decide +kernel
theorem dX4_isHand_16 : decode cX4_isHand 16 = .ok (.iconst 0, 1) := by decide +kernel
theorem dX4_isHand_17 : decode cX4_isHand 17 = .ok (.ireturn, 1) := by decide +kernel
theorem dX4_isKeeper_0 : decode cX4_isKeeper 0 = .ok (.iload_n 1, 1) := by decide +kernel
theorem dX4_isKeeper_1 : decode cX4_isKeeper 1 = .ok (.ifCond .lt 24, 3) := by decide +kernel
theorem dX4_isKeeper_4 : decode cX4_isKeeper 4 = .ok (.iload_n 1, 1) := by decide +kernel
theorem dX4_isKeeper_5 : decode cX4_isKeeper 5 = .ok (.aload_n 0, 1) := by decide +kernel
theorem dX4_isKeeper_6 : decode cX4_isKeeper 6 = .ok (.getfield 34, 3) := by decide +kernel
theorem dX4_isKeeper_9 : decode cX4_isKeeper 9 = .ok (.if_icmp .ge 16, 3) := by decide +kernel
theorem dX4_isKeeper_12 : decode cX4_isKeeper 12 = .ok (.aload_n 0, 1) := by decide +kernel
theorem dX4_isKeeper_13 : decode cX4_isKeeper 13 = .ok (.getfield 9, 3) := by decide +kernel
theorem dX4_isKeeper_16 : decode cX4_isKeeper 16 = .ok (.iload_n 1, 1) := by decide +kernel
theorem dX4_isKeeper_17 : decode cX4_isKeeper 17 = .ok (.baload, 1) := by decide +kernel
theorem dX4_isKeeper_18 : decode cX4_isKeeper 18 = .ok (.ifCond .eq 7, 3) := by decide +kernel
theorem dX4_isKeeper_21 : decode cX4_isKeeper 21 = .ok (.iconst 1, 1) := by decide +kernel
theorem dX4_isKeeper_22 : decode cX4_isKeeper 22 = .ok (.goto 4, 3) := by decide +kernel
theorem dX4_isKeeper_25 : decode cX4_isKeeper 25 = .ok (.iconst 0, 1) := by decide +kernel
theorem dX4_isKeeper_26 : decode cX4_isKeeper 26 = .ok (.ireturn, 1) := by decide +kernel
theorem dX4_isPlace_0 : decode cX4_isPlace 0 = .ok (.iload_n 1, 1) := by decide +kernel
theorem dX4_isPlace_1 : decode cX4_isPlace 1 = .ok (.ifCond .lt 18, 3) := by decide +kernel
theorem dX4_isPlace_4 : decode cX4_isPlace 4 = .ok (.iload_n 1, 1) := by decide +kernel
theorem dX4_isPlace_5 : decode cX4_isPlace 5 = .ok (.aload_n 0, 1) := by decide +kernel
theorem dX4_isPlace_6 : decode cX4_isPlace 6 = .ok (.getfield 38, 3) := by decide +kernel
theorem dX4_isPlace_9 : decode cX4_isPlace 9 = .ok (.bipush 12, 2) := by decide +kernel
theorem dX4_isPlace_11 : decode cX4_isPlace 11 = .ok (.imul, 1) := by decide +kernel
theorem dX4_isPlace_12 : decode cX4_isPlace 12 = .ok (.if_icmp .ge 7, 3) := by decide +kernel
theorem dX4_isPlace_15 : decode cX4_isPlace 15 = .ok (.iconst 1, 1) := by decide +kernel
theorem dX4_isPlace_16 : decode cX4_isPlace 16 = .ok (.goto 4, 3) := by decide +kernel
theorem dX4_isPlace_19 : decode cX4_isPlace 19 = .ok (.iconst 0, 1) := by decide +kernel
theorem dX4_isPlace_20 : decode cX4_isPlace 20 = .ok (.ireturn, 1) := by decide +kernel
theorem dX4_isColdPlace_0 : decode cX4_isColdPlace 0 = .ok (.iload_n 1, 1) := by decide +kernel
theorem dX4_isColdPlace_1 : decode cX4_isColdPlace 1 = .ok (.ifCond .lt 30, 3) := by decide +kernel
theorem dX4_isColdPlace_4 : decode cX4_isColdPlace 4 = .ok (.iload_n 1, 1) := by decide +kernel
theorem dX4_isColdPlace_5 : decode cX4_isColdPlace 5 = .ok (.aload_n 0, 1) := by decide +kernel
theorem dX4_isColdPlace_6 : decode cX4_isColdPlace 6 = .ok (.getfield 38, 3) := by decide +kernel
theorem dX4_isColdPlace_9 : decode cX4_isColdPlace 9 = .ok (.bipush 12, 2) := by decide +kernel
theorem dX4_isColdPlace_11 : decode cX4_isColdPlace 11 = .ok (.imul, 1) := by decide +kernel
theorem dX4_isColdPlace_12 : decode cX4_isColdPlace 12 = .ok (.if_icmp .ge 19, 3) := by decide +kernel
theorem dX4_isColdPlace_15 : decode cX4_isColdPlace 15 = .ok (.aload_n 0, 1) := by decide +kernel
theorem dX4_isColdPlace_16 : decode cX4_isColdPlace 16 = .ok (.getfield 15, 3) := by decide +kernel
theorem dX4_isColdPlace_19 : decode cX4_isColdPlace 19 = .ok (.iload_n 1, 1) := by decide +kernel
theorem dX4_isColdPlace_20 : decode cX4_isColdPlace 20 = .ok (.bipush 12, 2) := by decide +kernel
theorem dX4_isColdPlace_22 : decode cX4_isColdPlace 22 = .ok (.idiv, 1) := by decide +kernel
theorem dX4_isColdPlace_23 : decode cX4_isColdPlace 23 = .ok (.baload, 1) := by decide +kernel
theorem dX4_isColdPlace_24 : decode cX4_isColdPlace 24 = .ok (.ifCond .eq 7, 3) := by decide +kernel
theorem dX4_isColdPlace_27 : decode cX4_isColdPlace 27 = .ok (.iconst 1, 1) := by decide +kernel
theorem dX4_isColdPlace_28 : decode cX4_isColdPlace 28 = .ok (.goto 4, 3) := by decide +kernel
theorem dX4_isColdPlace_31 : decode cX4_isColdPlace 31 = .ok (.iconst 0, 1) := by decide +kernel
theorem dX4_isColdPlace_32 : decode cX4_isColdPlace 32 = .ok (.ireturn, 1) := by decide +kernel
theorem dX4_isGivenOut_0 : decode cX4_isGivenOut 0 = .ok (.iload_n 1, 1) := by decide +kernel
theorem dX4_isGivenOut_1 : decode cX4_isGivenOut 1 = .ok (.ifCond .lt 10, 3) := by decide +kernel
theorem dX4_isGivenOut_4 : decode cX4_isGivenOut 4 = .ok (.iload_n 1, 1) := by decide +kernel
theorem dX4_isGivenOut_5 : decode cX4_isGivenOut 5 = .ok (.sipush 600, 3) := by decide +kernel
theorem dX4_isGivenOut_8 : decode cX4_isGivenOut 8 = .ok (.if_icmp .lt 5, 3) := by decide +kernel
theorem dX4_isGivenOut_11 : decode cX4_isGivenOut 11 = .ok (.iconst 0, 1) := by decide +kernel
theorem dX4_isGivenOut_12 : decode cX4_isGivenOut 12 = .ok (.ireturn, 1) := by decide +kernel
theorem dX4_isGivenOut_13 : decode cX4_isGivenOut 13 = .ok (.iload_n 1, 1) := by decide +kernel
theorem dX4_isGivenOut_14 : decode cX4_isGivenOut 14 = .ok (.bipush 100, 2) := by decide +kernel
theorem dX4_isGivenOut_16 : decode cX4_isGivenOut 16 = .ok (.irem, 1) := by decide +kernel
theorem dX4_isGivenOut_17 : decode cX4_isGivenOut 17 = .ok (.aload_n 0, 1) := by decide +kernel
theorem dX4_isGivenOut_18 : decode cX4_isGivenOut 18 = .ok (.getfield 18, 3) := by decide +kernel
theorem dX4_isGivenOut_21 : decode cX4_isGivenOut 21 = .ok (.iload_n 1, 1) := by decide +kernel
theorem dX4_isGivenOut_22 : decode cX4_isGivenOut 22 = .ok (.bipush 100, 2) := by decide +kernel
theorem dX4_isGivenOut_24 : decode cX4_isGivenOut 24 = .ok (.idiv, 1) := by decide +kernel
theorem dX4_isGivenOut_25 : decode cX4_isGivenOut 25 = .ok (.iaload, 1) := by decide +kernel
theorem dX4_isGivenOut_26 : decode cX4_isGivenOut 26 = .ok (.if_icmp .ge 7, 3) := by decide +kernel
theorem dX4_isGivenOut_29 : decode cX4_isGivenOut 29 = .ok (.iconst 1, 1) := by decide +kernel
theorem dX4_isGivenOut_30 : decode cX4_isGivenOut 30 = .ok (.goto 4, 3) := by decide +kernel
theorem dX4_isGivenOut_33 : decode cX4_isGivenOut 33 = .ok (.iconst 0, 1) := by decide +kernel
theorem dX4_isGivenOut_34 : decode cX4_isGivenOut 34 = .ok (.ireturn, 1) := by decide +kernel
theorem dX4_isThing_0 : decode cX4_isThing 0 = .ok (.iload_n 1, 1) := by decide +kernel
theorem dX4_isThing_1 : decode cX4_isThing 1 = .ok (.ifCond .lt 15, 3) := by decide +kernel
theorem dX4_isThing_4 : decode cX4_isThing 4 = .ok (.iload_n 1, 1) := by decide +kernel
theorem dX4_isThing_5 : decode cX4_isThing 5 = .ok (.aload_n 0, 1) := by decide +kernel
theorem dX4_isThing_6 : decode cX4_isThing 6 = .ok (.getfield 41, 3) := by decide +kernel
theorem dX4_isThing_9 : decode cX4_isThing 9 = .ok (.if_icmp .ge 7, 3) := by decide +kernel
theorem dX4_isThing_12 : decode cX4_isThing 12 = .ok (.iconst 1, 1) := by decide +kernel
theorem dX4_isThing_13 : decode cX4_isThing 13 = .ok (.goto 4, 3) := by decide +kernel
theorem dX4_isThing_16 : decode cX4_isThing 16 = .ok (.iconst 0, 1) := by decide +kernel
theorem dX4_isThing_17 : decode cX4_isThing 17 = .ok (.ireturn, 1) := by decide +kernel
theorem dX4_isOfKind_0 : decode cX4_isOfKind 0 = .ok (.iload_n 1, 1) := by decide +kernel
theorem dX4_isOfKind_1 : decode cX4_isOfKind 1 = .ok (.ifCond .lt 25, 3) := by decide +kernel
theorem dX4_isOfKind_4 : decode cX4_isOfKind 4 = .ok (.iload_n 1, 1) := by decide +kernel
theorem dX4_isOfKind_5 : decode cX4_isOfKind 5 = .ok (.aload_n 0, 1) := by decide +kernel
theorem dX4_isOfKind_6 : decode cX4_isOfKind 6 = .ok (.getfield 41, 3) := by decide +kernel
theorem dX4_isOfKind_9 : decode cX4_isOfKind 9 = .ok (.if_icmp .ge 17, 3) := by decide +kernel
theorem dX4_isOfKind_12 : decode cX4_isOfKind 12 = .ok (.aload_n 0, 1) := by decide +kernel
theorem dX4_isOfKind_13 : decode cX4_isOfKind 13 = .ok (.getfield 22, 3) := by decide +kernel
theorem dX4_isOfKind_16 : decode cX4_isOfKind 16 = .ok (.iload_n 1, 1) := by decide +kernel
theorem dX4_isOfKind_17 : decode cX4_isOfKind 17 = .ok (.iaload, 1) := by decide +kernel
theorem dX4_isOfKind_18 : decode cX4_isOfKind 18 = .ok (.iload_n 2, 1) := by decide +kernel
theorem dX4_isOfKind_19 : decode cX4_isOfKind 19 = .ok (.if_icmp .ne 7, 3) := by decide +kernel
theorem dX4_isOfKind_22 : decode cX4_isOfKind 22 = .ok (.iconst 1, 1) := by decide +kernel
theorem dX4_isOfKind_23 : decode cX4_isOfKind 23 = .ok (.goto 4, 3) := by decide +kernel
theorem dX4_isOfKind_26 : decode cX4_isOfKind 26 = .ok (.iconst 0, 1) := by decide +kernel
theorem dX4_isOfKind_27 : decode cX4_isOfKind 27 = .ok (.ireturn, 1) := by decide +kernel
theorem dX4_isBag_0 : decode cX4_isBag 0 = .ok (.aload_n 0, 1) := by decide +kernel
theorem dX4_isBag_1 : decode cX4_isBag 1 = .ok (.iload_n 1, 1) := by decide +kernel
theorem dX4_isBag_2 : decode cX4_isBag 2 = .ok (.iconst 1, 1) := by decide +kernel
theorem dX4_isBag_3 : decode cX4_isBag 3 = .ok (.invokevirtual 44, 3) := by decide +kernel
theorem dX4_isBag_6 : decode cX4_isBag 6 = .ok (.ifCond .ne 21, 3) := by decide +kernel
theorem dX4_isBag_9 : decode cX4_isBag 9 = .ok (.aload_n 0, 1) := by decide +kernel
theorem dX4_isBag_10 : decode cX4_isBag 10 = .ok (.iload_n 1, 1) := by decide +kernel
theorem dX4_isBag_11 : decode cX4_isBag 11 = .ok (.iconst 4, 1) := by decide +kernel
theorem dX4_isBag_12 : decode cX4_isBag 12 = .ok (.invokevirtual 44, 3) := by decide +kernel
theorem dX4_isBag_15 : decode cX4_isBag 15 = .ok (.ifCond .ne 12, 3) := by decide +kernel
theorem dX4_isBag_18 : decode cX4_isBag 18 = .ok (.aload_n 0, 1) := by decide +kernel
theorem dX4_isBag_19 : decode cX4_isBag 19 = .ok (.iload_n 1, 1) := by decide +kernel
theorem dX4_isBag_20 : decode cX4_isBag 20 = .ok (.iconst 5, 1) := by decide +kernel
theorem dX4_isBag_21 : decode cX4_isBag 21 = .ok (.invokevirtual 44, 3) := by decide +kernel
theorem dX4_isBag_24 : decode cX4_isBag 24 = .ok (.ifCond .eq 7, 3) := by decide +kernel
theorem dX4_isBag_27 : decode cX4_isBag 27 = .ok (.iconst 1, 1) := by decide +kernel
theorem dX4_isBag_28 : decode cX4_isBag 28 = .ok (.goto 4, 3) := by decide +kernel
theorem dX4_isBag_31 : decode cX4_isBag 31 = .ok (.iconst 0, 1) := by decide +kernel
theorem dX4_isBag_32 : decode cX4_isBag 32 = .ok (.ireturn, 1) := by decide +kernel
theorem dX5_init_0 : decode cX5_init 0 = .ok (.aload_n 0, 1) := by decide +kernel
theorem dX5_init_1 : decode cX5_init 1 = .ok (.invokespecial 1, 3) := by decide +kernel
theorem dX5_init_4 : decode cX5_init 4 = .ok (.aload_n 0, 1) := by decide +kernel
theorem dX5_init_5 : decode cX5_init 5 = .ok (.new 7, 3) := by decide +kernel
theorem dX5_init_8 : decode cX5_init 8 = .ok (.dup, 1) := by decide +kernel
theorem dX5_init_9 : decode cX5_init 9 = .ok (.invokespecial 9, 3) := by decide +kernel
theorem dX5_init_12 : decode cX5_init 12 = .ok (.putfield 10, 3) := by decide +kernel
theorem dX5_init_15 : decode cX5_init 15 = .ok (.aload_n 0, 1) := by decide +kernel
theorem dX5_init_16 : decode cX5_init 16 = .ok (.new 16, 3) := by decide +kernel
theorem dX5_init_19 : decode cX5_init 19 = .ok (.dup, 1) := by decide +kernel
theorem dX5_init_20 : decode cX5_init 20 = .ok (.invokespecial 18, 3) := by decide +kernel
theorem dX5_init_23 : decode cX5_init 23 = .ok (.putfield 19, 3) := by decide +kernel
theorem dX5_init_26 : decode cX5_init 26 = .ok (.aload_n 0, 1) := by decide +kernel
theorem dX5_init_27 : decode cX5_init 27 = .ok (.new 16, 3) := by decide +kernel
theorem dX5_init_30 : decode cX5_init 30 = .ok (.dup, 1) := by decide +kernel
theorem dX5_init_31 : decode cX5_init 31 = .ok (.invokespecial 18, 3) := by decide +kernel
theorem dX5_init_34 : decode cX5_init 34 = .ok (.putfield 23, 3) := by decide +kernel
theorem dX5_init_37 : decode cX5_init 37 = .ok (.aload_n 0, 1) := by decide +kernel
theorem dX5_init_38 : decode cX5_init 38 = .ok (.new 26, 3) := by decide +kernel
theorem dX5_init_41 : decode cX5_init 41 = .ok (.dup, 1) := by decide +kernel
theorem dX5_init_42 : decode cX5_init 42 = .ok (.aload_n 0, 1) := by decide +kernel
theorem dX5_init_43 : decode cX5_init 43 = .ok (.getfield 10, 3) := by decide +kernel
theorem dX5_init_46 : decode cX5_init 46 = .ok (.invokespecial 28, 3) := by decide +kernel
theorem dX5_init_49 : decode cX5_init 49 = .ok (.putfield 31, 3) := by decide +kernel
theorem dX5_init_52 : decode cX5_init 52 = .ok (.aload_n 0, 1) := by decide +kernel
theorem dX5_init_53 : decode cX5_init 53 = .ok (.new 35, 3) := by decide +kernel
theorem dX5_init_56 : decode cX5_init 56 = .ok (.dup, 1) := by decide +kernel
theorem dX5_init_57 : decode cX5_init 57 = .ok (.aload_n 0, 1) := by decide +kernel
theorem dX5_init_58 : decode cX5_init 58 = .ok (.getfield 19, 3) := by decide +kernel
theorem dX5_init_61 : decode cX5_init 61 = .ok (.invokespecial 37, 3) := by decide +kernel
theorem dX5_init_64 : decode cX5_init 64 = .ok (.putfield 40, 3) := by decide +kernel
theorem dX5_init_67 : decode cX5_init 67 = .ok (.aload_n 0, 1) := by decide +kernel
theorem dX5_init_68 : decode cX5_init 68 = .ok (.bipush 60, 2) := by decide +kernel
theorem dX5_init_70 : decode cX5_init 70 = .ok (.anewarray 44, 3) := by decide +kernel
theorem dX5_init_73 : decode cX5_init 73 = .ok (.putfield 46, 3) := by decide +kernel
theorem dX5_init_76 : decode cX5_init 76 = .ok (.aload_n 0, 1) := by decide +kernel
theorem dX5_init_77 : decode cX5_init 77 = .ok (.bipush 8, 2) := by decide +kernel
theorem dX5_init_79 : decode cX5_init 79 = .ok (.newarray .int, 2) := by decide +kernel
theorem dX5_init_81 : decode cX5_init 81 = .ok (.putfield 50, 3) := by decide +kernel
theorem dX5_init_84 : decode cX5_init 84 = .ok (.aload_n 0, 1) := by decide +kernel
theorem dX5_init_85 : decode cX5_init 85 = .ok (.iconst (-1), 1) := by decide +kernel
theorem dX5_init_86 : decode cX5_init 86 = .ok (.putfield 54, 3) := by decide +kernel
theorem dX5_init_89 : decode cX5_init 89 = .ok (.aload_n 0, 1) := by decide +kernel
theorem dX5_init_90 : decode cX5_init 90 = .ok (.iconst (-1), 1) := by decide +kernel
theorem dX5_init_91 : decode cX5_init 91 = .ok (.putfield 58, 3) := by decide +kernel
theorem dX5_init_94 : decode cX5_init 94 = .ok (.return_, 1) := by decide +kernel
theorem dX5_hand_0 : decode cX5_hand 0 = .ok (.aload_n 0, 1) := by decide +kernel
theorem dX5_hand_1 : decode cX5_hand 1 = .ok (.getfield 10, 3) := by decide +kernel
theorem dX5_hand_4 : decode cX5_hand 4 = .ok (.iload_n 1, 1) := by decide +kernel
theorem dX5_hand_5 : decode cX5_hand 5 = .ok (.invokevirtual 61, 3) := by decide +kernel
theorem dX5_hand_8 : decode cX5_hand 8 = .ok (.ireturn, 1) := by decide +kernel
theorem dX5_shelf_0 : decode cX5_shelf 0 = .ok (.aload_n 0, 1) := by decide +kernel
theorem dX5_shelf_1 : decode cX5_shelf 1 = .ok (.getfield 10, 3) := by decide +kernel
theorem dX5_shelf_4 : decode cX5_shelf 4 = .ok (.iload_n 1, 1) := by decide +kernel
theorem dX5_shelf_5 : decode cX5_shelf 5 = .ok (.invokevirtual 65, 3) := by decide +kernel
theorem dX5_shelf_8 : decode cX5_shelf 8 = .ok (.ireturn, 1) := by decide +kernel
theorem dX5_seals_0 : decode cX5_seals 0 = .ok (.iload_n 1, 1) := by decide +kernel
theorem dX5_seals_1 : decode cX5_seals 1 = .ok (.ifCond .lt 20, 3) := by decide +kernel
theorem dX5_seals_4 : decode cX5_seals 4 = .ok (.iload_n 1, 1) := by decide +kernel
theorem dX5_seals_5 : decode cX5_seals 5 = .ok (.bipush 6, 2) := by decide +kernel
theorem dX5_seals_7 : decode cX5_seals 7 = .ok (.if_icmp .ge 14, 3) := by decide +kernel
theorem dX5_seals_10 : decode cX5_seals 10 = .ok (.iload_n 2, 1) := by decide +kernel
theorem dX5_seals_11 : decode cX5_seals 11 = .ok (.iconst (-1), 1) := by decide +kernel
theorem dX5_seals_12 : decode cX5_seals 12 = .ok (.if_icmp .lt 9, 3) := by decide +kernel
theorem dX5_seals_15 : decode cX5_seals 15 = .ok (.iload_n 2, 1) := by decide +kernel
theorem dX5_seals_16 : decode cX5_seals 16 = .ok (.bipush 50, 2) := by decide +kernel
theorem dX5_seals_18 : decode cX5_seals 18 = .ok (.if_icmp .le 5, 3) := by decide +kernel
theorem dX5_seals_21 : decode cX5_seals 21 = .ok (.iconst 0, 1) := by decide +kernel
theorem dX5_seals_22 : decode cX5_seals 22 = .ok (.ireturn, 1) := by decide +kernel
theorem dX5_seals_23 : decode cX5_seals 23 = .ok (.aload_n 0, 1) := by decide +kernel
theorem dX5_seals_24 : decode cX5_seals 24 = .ok (.getfield 19, 3) := by decide +kernel
theorem dX5_seals_27 : decode cX5_seals 27 = .ok (.iload_n 1, 1) := by decide +kernel
theorem dX5_seals_28 : decode cX5_seals 28 = .ok (.iload_n 2, 1) := by decide +kernel
theorem dX5_seals_29 : decode cX5_seals 29 = .ok (.invokevirtual 68, 3) := by decide +kernel
theorem dX5_seals_32 : decode cX5_seals 32 = .ok (.ifCond .eq 5, 3) := by decide +kernel
theorem dX5_seals_35 : decode cX5_seals 35 = .ok (.iconst 0, 1) := by decide +kernel
theorem dX5_seals_36 : decode cX5_seals 36 = .ok (.ireturn, 1) := by decide +kernel
theorem dX5_seals_37 : decode cX5_seals 37 = .ok (.aload_n 0, 1) := by decide +kernel
theorem dX5_seals_38 : decode cX5_seals 38 = .ok (.getfield 10, 3) := by decide +kernel
theorem dX5_seals_41 : decode cX5_seals 41 = .ok (.iload_n 1, 1) := by decide +kernel
theorem dX5_seals_42 : decode cX5_seals 42 = .ok (.iload_n 2, 1) := by decide +kernel
theorem dX5_seals_43 : decode cX5_seals 43 = .ok (.invokevirtual 72, 3) := by decide +kernel
theorem dX5_seals_46 : decode cX5_seals 46 = .ok (.iconst 1, 1) := by decide +kernel
theorem dX5_seals_47 : decode cX5_seals 47 = .ok (.ireturn, 1) := by decide +kernel
theorem dX5_thing_0 : decode cX5_thing 0 = .ok (.iload_n 1, 1) := by decide +kernel
theorem dX5_thing_1 : decode cX5_thing 1 = .ok (.ifCond .lt 18, 3) := by decide +kernel
theorem dX5_thing_4 : decode cX5_thing 4 = .ok (.iload_n 1, 1) := by decide +kernel
theorem dX5_thing_5 : decode cX5_thing 5 = .ok (.iconst 5, 1) := by decide +kernel
theorem dX5_thing_6 : decode cX5_thing 6 = .ok (.if_icmp .gt 13, 3) := by decide +kernel
theorem dX5_thing_9 : decode cX5_thing 9 = .ok (.iload_n 2, 1) := by decide +kernel
theorem dX5_thing_10 : decode cX5_thing 10 = .ok (.ifCond .lt 9, 3) := by decide +kernel
theorem dX5_thing_13 : decode cX5_thing 13 = .ok (.iload_n 2, 1) := by decide +kernel
theorem dX5_thing_14 : decode cX5_thing 14 = .ok (.ldc 76, 2) := by decide +kernel
theorem dX5_thing_16 : decode cX5_thing 16 = .ok (.if_icmp .le 5, 3) := by decide +kernel
theorem dX5_thing_19 : decode cX5_thing 19 = .ok (.iconst (-1), 1) := by decide +kernel
theorem dX5_thing_20 : decode cX5_thing 20 = .ok (.ireturn, 1) := by decide +kernel
theorem dX5_thing_21 : decode cX5_thing 21 = .ok (.iload_n 1, 1) := by decide +kernel
theorem dX5_thing_22 : decode cX5_thing 22 = .ok (.iconst 2, 1) := by decide +kernel
theorem dX5_thing_23 : decode cX5_thing 23 = .ok (.if_icmp .eq 8, 3) := by decide +kernel
theorem dX5_thing_26 : decode cX5_thing 26 = .ok (.iload_n 1, 1) := by decide +kernel
theorem dX5_thing_27 : decode cX5_thing 27 = .ok (.iconst 3, 1) := by decide +kernel
theorem dX5_thing_28 : decode cX5_thing 28 = .ok (.if_icmp .ne 7, 3) := by decide +kernel
theorem dX5_thing_31 : decode cX5_thing 31 = .ok (.iconst 1, 1) := by decide +kernel
theorem dX5_thing_32 : decode cX5_thing 32 = .ok (.goto 4, 3) := by decide +kernel
theorem dX5_thing_35 : decode cX5_thing 35 = .ok (.iconst 0, 1) := by decide +kernel
theorem dX5_thing_36 : decode cX5_thing 36 = .ok (.istore_n 3, 1) := by decide +kernel
theorem dX5_thing_37 : decode cX5_thing 37 = .ok (.iload_n 3, 1) := by decide +kernel
theorem dX5_thing_38 : decode cX5_thing 38 = .ok (.ifCond .eq 9, 3) := by decide +kernel
theorem dX5_thing_41 : decode cX5_thing 41 = .ok (.iload_n 2, 1) := by decide +kernel
theorem dX5_thing_42 : decode cX5_thing 42 = .ok (.ifCond .eq 5, 3) := by decide +kernel
theorem dX5_thing_45 : decode cX5_thing 45 = .ok (.iconst (-1), 1) := by decide +kernel
theorem dX5_thing_46 : decode cX5_thing 46 = .ok (.ireturn, 1) := by decide +kernel
theorem dX5_thing_47 : decode cX5_thing 47 = .ok (.aload_n 0, 1) := by decide +kernel
theorem dX5_thing_48 : decode cX5_thing 48 = .ok (.getfield 10, 3) := by decide +kernel
theorem dX5_thing_51 : decode cX5_thing 51 = .ok (.iload_n 1, 1) := by decide +kernel
theorem dX5_thing_52 : decode cX5_thing 52 = .ok (.iload_n 2, 1) := by decide +kernel
theorem dX5_thing_53 : decode cX5_thing 53 = .ok (.invokevirtual 77, 3) := by decide +kernel
theorem dX5_thing_56 : decode cX5_thing 56 = .ok (.ireturn, 1) := by decide +kernel
theorem dX5_pass_0 : decode cX5_pass 0 = .ok (.iload_n 1, 1) := by decide +kernel
theorem dX5_pass_1 : decode cX5_pass 1 = .ok (.ifCond .lt 20, 3) := by decide +kernel
theorem dX5_pass_4 : decode cX5_pass 4 = .ok (.iload_n 1, 1) := by decide +kernel
theorem dX5_pass_5 : decode cX5_pass 5 = .ok (.ldc 81, 2) := by decide +kernel
theorem dX5_pass_7 : decode cX5_pass 7 = .ok (.if_icmp .gt 14, 3) := by decide +kernel
theorem dX5_pass_10 : decode cX5_pass 10 = .ok (.iload_n 1, 1) := by decide +kernel
theorem dX5_pass_11 : decode cX5_pass 11 = .ok (.ldc 82, 2) := by decide +kernel
theorem dX5_pass_13 : decode cX5_pass 13 = .ok (.aload_n 0, 1) := by decide +kernel
theorem dX5_pass_14 : decode cX5_pass 14 = .ok (.getfield 83, 3) := by decide +kernel
theorem dX5_pass_17 : decode cX5_pass 17 = .ok (.isub, 1) := by decide +kernel
theorem dX5_pass_18 : decode cX5_pass 18 = .ok (.if_icmp .le 5, 3) := by decide +kernel
theorem dX5_pass_21 : decode cX5_pass 21 = .ok (.iconst (-1), 1) := by decide +kernel
theorem dX5_pass_22 : decode cX5_pass 22 = .ok (.ireturn, 1) := by decide +kernel
theorem dX5_pass_23 : decode cX5_pass 23 = .ok (.aload_n 0, 1) := by decide +kernel
theorem dX5_pass_24 : decode cX5_pass 24 = .ok (.dup, 1) := by decide +kernel
theorem dX5_pass_25 : decode cX5_pass 25 = .ok (.getfield 83, 3) := by decide +kernel
theorem dX5_pass_28 : decode cX5_pass 28 = .ok (.iload_n 1, 1) := by decide +kernel
theorem dX5_pass_29 : decode cX5_pass 29 = .ok (.iadd, 1) := by decide +kernel
theorem dX5_pass_30 : decode cX5_pass 30 = .ok (.putfield 83, 3) := by decide +kernel
theorem dX5_pass_33 : decode cX5_pass 33 = .ok (.aload_n 0, 1) := by decide +kernel
theorem dX5_pass_34 : decode cX5_pass 34 = .ok (.getfield 83, 3) := by decide +kernel
theorem dX5_pass_37 : decode cX5_pass 37 = .ok (.ireturn, 1) := by decide +kernel
theorem dX5_slip_0 : decode cX5_slip 0 = .ok (.aload_n 0, 1) := by decide +kernel
theorem dX5_slip_1 : decode cX5_slip 1 = .ok (.iload_n 1, 1) := by decide +kernel
theorem dX5_slip_2 : decode cX5_slip 2 = .ok (.iload_n 2, 1) := by decide +kernel
theorem dX5_slip_3 : decode cX5_slip 3 = .ok (.iload_n 3, 1) := by decide +kernel
theorem dX5_slip_4 : decode cX5_slip 4 = .ok (.iload 4, 2) := by decide +kernel
theorem dX5_slip_6 : decode cX5_slip 6 = .ok (.iload 5, 2) := by decide +kernel
theorem dX5_slip_8 : decode cX5_slip 8 = .ok (.iload 6, 2) := by decide +kernel
theorem dX5_slip_10 : decode cX5_slip 10 = .ok (.iload 7, 2) := by decide +kernel
theorem dX5_slip_12 : decode cX5_slip 12 = .ok (.invokevirtual 86, 3) := by decide +kernel
theorem dX5_slip_15 : decode cX5_slip 15 = .ok (.ireturn, 1) := by decide +kernel
theorem dX5_fault_0 : decode cX5_fault 0 = .ok (.iload_n 1, 1) := by decide +kernel
theorem dX5_fault_1 : decode cX5_fault 1 = .ok (.lookupswitch 37 #[(0, 27), (1, 32)], 27) := by decide +kernel
theorem dX5_fault_28 : decode cX5_fault 28 = .ok (.aload_n 0, 1) := by decide +kernel
theorem dX5_fault_29 : decode cX5_fault 29 = .ok (.getfield 54, 3) := by decide +kernel
theorem dX5_fault_32 : decode cX5_fault 32 = .ok (.ireturn, 1) := by decide +kernel
theorem dX5_fault_33 : decode cX5_fault 33 = .ok (.aload_n 0, 1) := by decide +kernel
theorem dX5_fault_34 : decode cX5_fault 34 = .ok (.getfield 58, 3) := by decide +kernel
theorem dX5_fault_37 : decode cX5_fault 37 = .ok (.ireturn, 1) := by decide +kernel
theorem dX5_fault_38 : decode cX5_fault 38 = .ok (.iconst (-1), 1) := by decide +kernel
theorem dX5_fault_39 : decode cX5_fault 39 = .ok (.ireturn, 1) := by decide +kernel
theorem dX5_handing_0 : decode cX5_handing 0 = .ok (.aload_n 0, 1) := by decide +kernel
theorem dX5_handing_1 : decode cX5_handing 1 = .ok (.getfield 10, 3) := by decide +kernel
theorem dX5_handing_4 : decode cX5_handing 4 = .ok (.iload_n 1, 1) := by decide +kernel
theorem dX5_handing_5 : decode cX5_handing 5 = .ok (.invokevirtual 90, 3) := by decide +kernel
theorem dX5_handing_8 : decode cX5_handing 8 = .ok (.ifCond .eq 30, 3) := by decide +kernel
theorem dX5_handing_11 : decode cX5_handing 11 = .ok (.aload_n 0, 1) := by decide +kernel
theorem dX5_handing_12 : decode cX5_handing 12 = .ok (.getfield 10, 3) := by decide +kernel
theorem dX5_handing_15 : decode cX5_handing 15 = .ok (.iload_n 2, 1) := by decide +kernel
theorem dX5_handing_16 : decode cX5_handing 16 = .ok (.invokevirtual 94, 3) := by decide +kernel
theorem dX5_handing_19 : decode cX5_handing 19 = .ok (.ifCond .eq 19, 3) := by decide +kernel
theorem dX5_handing_22 : decode cX5_handing 22 = .ok (.aload_n 0, 1) := by decide +kernel
theorem dX5_handing_23 : decode cX5_handing 23 = .ok (.getfield 10, 3) := by decide +kernel
theorem dX5_handing_26 : decode cX5_handing 26 = .ok (.iload_n 3, 1) := by decide +kernel
theorem dX5_handing_27 : decode cX5_handing 27 = .ok (.invokevirtual 94, 3) := by decide +kernel
theorem dX5_handing_30 : decode cX5_handing 30 = .ok (.ifCond .eq 8, 3) := by decide +kernel
theorem dX5_handing_33 : decode cX5_handing 33 = .ok (.iload_n 2, 1) := by decide +kernel
theorem dX5_handing_34 : decode cX5_handing 34 = .ok (.iload_n 3, 1) := by decide +kernel
theorem dX5_handing_35 : decode cX5_handing 35 = .ok (.if_icmp .ne 5, 3) := by decide +kernel
theorem dX5_handing_38 : decode cX5_handing 38 = .ok (.iconst (-1), 1) := by decide +kernel
theorem dX5_handing_39 : decode cX5_handing 39 = .ok (.ireturn, 1) := by decide +kernel
theorem dX5_handing_40 : decode cX5_handing 40 = .ok (.iload 4, 2) := by decide +kernel
theorem dX5_handing_42 : decode cX5_handing 42 = .ok (.ifCond .lt 21, 3) := by decide +kernel
theorem dX5_handing_45 : decode cX5_handing 45 = .ok (.iload 4, 2) := by decide +kernel
theorem dX5_handing_47 : decode cX5_handing 47 = .ok (.aload_n 0, 1) := by decide +kernel
theorem dX5_handing_48 : decode cX5_handing 48 = .ok (.getfield 83, 3) := by decide +kernel
theorem dX5_handing_51 : decode cX5_handing 51 = .ok (.if_icmp .gt 12, 3) := by decide +kernel
theorem dX5_handing_54 : decode cX5_handing 54 = .ok (.aload_n 0, 1) := by decide +kernel
theorem dX5_handing_55 : decode cX5_handing 55 = .ok (.getfield 97, 3) := by decide +kernel
theorem dX5_handing_58 : decode cX5_handing 58 = .ok (.bipush 60, 2) := by decide +kernel
theorem dX5_handing_60 : decode cX5_handing 60 = .ok (.if_icmp .lt 5, 3) := by decide +kernel
theorem dX5_handing_63 : decode cX5_handing 63 = .ok (.iconst (-1), 1) := by decide +kernel
theorem dX5_handing_64 : decode cX5_handing 64 = .ok (.ireturn, 1) := by decide +kernel
theorem dX5_handing_65 : decode cX5_handing 65 = .ok (.aload_n 0, 1) := by decide +kernel
theorem dX5_handing_66 : decode cX5_handing 66 = .ok (.getfield 46, 3) := by decide +kernel
theorem dX5_handing_69 : decode cX5_handing 69 = .ok (.aload_n 0, 1) := by decide +kernel
theorem dX5_handing_70 : decode cX5_handing 70 = .ok (.getfield 97, 3) := by decide +kernel
theorem dX5_handing_73 : decode cX5_handing 73 = .ok (.new 44, 3) := by decide +kernel
theorem dX5_handing_76 : decode cX5_handing 76 = .ok (.dup, 1) := by decide +kernel
theorem dX5_handing_77 : decode cX5_handing 77 = .ok (.iload_n 1, 1) := by decide +kernel
theorem dX5_handing_78 : decode cX5_handing 78 = .ok (.iload_n 2, 1) := by decide +kernel
theorem dX5_handing_79 : decode cX5_handing 79 = .ok (.iload_n 3, 1) := by decide +kernel
theorem dX5_handing_80 : decode cX5_handing 80 = .ok (.iload 4, 2) := by decide +kernel
theorem dX5_handing_82 : decode cX5_handing 82 = .ok (.invokespecial 100, 3) := by decide +kernel
theorem dX5_handing_85 : decode cX5_handing 85 = .ok (.aastore, 1) := by decide +kernel
theorem dX5_handing_86 : decode cX5_handing 86 = .ok (.aload_n 0, 1) := by decide +kernel
theorem dX5_handing_87 : decode cX5_handing 87 = .ok (.dup, 1) := by decide +kernel
theorem dX5_handing_88 : decode cX5_handing 88 = .ok (.getfield 97, 3) := by decide +kernel
theorem dX5_handing_91 : decode cX5_handing 91 = .ok (.iconst 1, 1) := by decide +kernel
theorem dX5_handing_92 : decode cX5_handing 92 = .ok (.iadd, 1) := by decide +kernel
theorem dX5_handing_93 : decode cX5_handing 93 = .ok (.putfield 97, 3) := by decide +kernel
theorem dX5_handing_96 : decode cX5_handing 96 = .ok (.aload_n 0, 1) := by decide +kernel
theorem dX5_handing_97 : decode cX5_handing 97 = .ok (.getfield 97, 3) := by decide +kernel
theorem dX5_handing_100 : decode cX5_handing 100 = .ok (.iconst 1, 1) := by decide +kernel
theorem dX5_handing_101 : decode cX5_handing 101 = .ok (.isub, 1) := by decide +kernel
theorem dX5_handing_102 : decode cX5_handing 102 = .ok (.ireturn, 1) := by decide +kernel
theorem dX5_yes_0 : decode cX5_yes 0 = .ok (.aload_n 0, 1) := by decide +kernel
theorem dX5_yes_1 : decode cX5_yes 1 = .ok (.iload_n 1, 1) := by decide +kernel
theorem dX5_yes_2 : decode cX5_yes 2 = .ok (.invokevirtual 103, 3) := by decide +kernel
theorem dX5_yes_5 : decode cX5_yes 5 = .ok (.astore 4, 2) := by decide +kernel
theorem dX5_yes_7 : decode cX5_yes 7 = .ok (.aload 4, 2) := by decide +kernel
theorem dX5_yes_9 : decode cX5_yes 9 = .ok (.ifnull 29, 3) := by decide +kernel
theorem dX5_yes_12 : decode cX5_yes 12 = .ok (.aload 4, 2) := by decide +kernel
theorem dX5_yes_14 : decode cX5_yes 14 = .ok (.iload_n 2, 1) := by decide +kernel
theorem dX5_yes_15 : decode cX5_yes 15 = .ok (.invokevirtual 107, 3) := by decide +kernel
theorem dX5_yes_18 : decode cX5_yes 18 = .ok (.ifCond .eq 20, 3) := by decide +kernel
theorem dX5_yes_21 : decode cX5_yes 21 = .ok (.iload_n 3, 1) := by decide +kernel
theorem dX5_yes_22 : decode cX5_yes 22 = .ok (.aload 4, 2) := by decide +kernel
theorem dX5_yes_24 : decode cX5_yes 24 = .ok (.getfield 110, 3) := by decide +kernel
theorem dX5_yes_27 : decode cX5_yes 27 = .ok (.if_icmp .lt 11, 3) := by decide +kernel
theorem dX5_yes_30 : decode cX5_yes 30 = .ok (.iload_n 3, 1) := by decide +kernel
theorem dX5_yes_31 : decode cX5_yes 31 = .ok (.aload_n 0, 1) := by decide +kernel
theorem dX5_yes_32 : decode cX5_yes 32 = .ok (.getfield 83, 3) := by decide +kernel
theorem dX5_yes_35 : decode cX5_yes 35 = .ok (.if_icmp .le 5, 3) := by decide +kernel
theorem dX5_yes_38 : decode cX5_yes 38 = .ok (.iconst (-1), 1) := by decide +kernel
theorem dX5_yes_39 : decode cX5_yes 39 = .ok (.ireturn, 1) := by decide +kernel
theorem dX5_yes_40 : decode cX5_yes 40 = .ok (.aload 4, 2) := by decide +kernel
theorem dX5_yes_42 : decode cX5_yes 42 = .ok (.iload_n 2, 1) := by decide +kernel
theorem dX5_yes_43 : decode cX5_yes 43 = .ok (.iload_n 3, 1) := by decide +kernel
theorem dX5_yes_44 : decode cX5_yes 44 = .ok (.invokevirtual 113, 3) := by decide +kernel
theorem dX5_yes_47 : decode cX5_yes 47 = .ok (.aload 4, 2) := by decide +kernel
theorem dX5_yes_49 : decode cX5_yes 49 = .ok (.invokevirtual 116, 3) := by decide +kernel
theorem dX5_yes_52 : decode cX5_yes 52 = .ok (.ifCond .ne 5, 3) := by decide +kernel
theorem dX5_yes_55 : decode cX5_yes 55 = .ok (.iconst 0, 1) := by decide +kernel
theorem dX5_yes_56 : decode cX5_yes 56 = .ok (.ireturn, 1) := by decide +kernel
theorem dX5_yes_57 : decode cX5_yes 57 = .ok (.aload 4, 2) := by decide +kernel
theorem dX5_yes_59 : decode cX5_yes 59 = .ok (.invokevirtual 120, 3) := by decide +kernel
theorem dX5_yes_62 : decode cX5_yes 62 = .ok (.istore 5, 2) := by decide +kernel
theorem dX5_yes_64 : decode cX5_yes 64 = .ok (.iload 5, 2) := by decide +kernel
theorem dX5_yes_66 : decode cX5_yes 66 = .ok (.ifCond .eq 11, 3) := by decide +kernel
theorem dX5_yes_69 : decode cX5_yes 69 = .ok (.aload 4, 2) := by decide +kernel
theorem dX5_yes_71 : decode cX5_yes 71 = .ok (.invokevirtual 123, 3) := by decide +kernel
theorem dX5_yes_74 : decode cX5_yes 74 = .ok (.goto 8, 3) := by decide +kernel
theorem dX5_yes_77 : decode cX5_yes 77 = .ok (.aload 4, 2) := by decide +kernel
theorem dX5_yes_79 : decode cX5_yes 79 = .ok (.getfield 110, 3) := by decide +kernel
theorem dX5_yes_82 : decode cX5_yes 82 = .ok (.istore 6, 2) := by decide +kernel
theorem dX5_yes_84 : decode cX5_yes 84 = .ok (.aload_n 0, 1) := by decide +kernel
theorem dX5_yes_85 : decode cX5_yes 85 = .ok (.iconst 3, 1) := by decide +kernel
theorem dX5_yes_86 : decode cX5_yes 86 = .ok (.aload 4, 2) := by decide +kernel
theorem dX5_yes_88 : decode cX5_yes 88 = .ok (.getfield 127, 3) := by decide +kernel
theorem dX5_yes_91 : decode cX5_yes 91 = .ok (.iconst (-1), 1) := by decide +kernel
theorem dX5_yes_92 : decode cX5_yes 92 = .ok (.iconst (-1), 1) := by decide +kernel
theorem dX5_yes_93 : decode cX5_yes 93 = .ok (.aload 4, 2) := by decide +kernel
theorem dX5_yes_95 : decode cX5_yes 95 = .ok (.getfield 130, 3) := by decide +kernel
theorem dX5_yes_98 : decode cX5_yes 98 = .ok (.aload 4, 2) := by decide +kernel
theorem dX5_yes_100 : decode cX5_yes 100 = .ok (.getfield 133, 3) := by decide +kernel
theorem dX5_yes_103 : decode cX5_yes 103 = .ok (.iload 6, 2) := by decide +kernel
theorem dX5_yes_105 : decode cX5_yes 105 = .ok (.invokevirtual 86, 3) := by decide +kernel
theorem dX5_yes_108 : decode cX5_yes 108 = .ok (.iconst (-1), 1) := by decide +kernel
theorem dX5_yes_109 : decode cX5_yes 109 = .ok (.if_icmp .ne 12, 3) := by decide +kernel
theorem dX5_yes_112 : decode cX5_yes 112 = .ok (.aload 4, 2) := by decide +kernel
theorem dX5_yes_114 : decode cX5_yes 114 = .ok (.iload_n 2, 1) := by decide +kernel
theorem dX5_yes_115 : decode cX5_yes 115 = .ok (.iconst (-1), 1) := by decide +kernel
theorem dX5_yes_116 : decode cX5_yes 116 = .ok (.invokevirtual 113, 3) := by decide +kernel
theorem dX5_yes_119 : decode cX5_yes 119 = .ok (.iconst 3, 1) := by decide +kernel
theorem dX5_yes_120 : decode cX5_yes 120 = .ok (.ireturn, 1) := by decide +kernel
theorem dX5_yes_121 : decode cX5_yes 121 = .ok (.aload 4, 2) := by decide +kernel
theorem dX5_yes_123 : decode cX5_yes 123 = .ok (.iconst 1, 1) := by decide +kernel
theorem dX5_yes_124 : decode cX5_yes 124 = .ok (.putfield 136, 3) := by decide +kernel
theorem dX5_yes_127 : decode cX5_yes 127 = .ok (.iload 5, 2) := by decide +kernel
theorem dX5_yes_129 : decode cX5_yes 129 = .ok (.ifCond .eq 7, 3) := by decide +kernel
theorem dX5_yes_132 : decode cX5_yes 132 = .ok (.iconst 2, 1) := by decide +kernel
theorem dX5_yes_133 : decode cX5_yes 133 = .ok (.goto 4, 3) := by decide +kernel
theorem dX5_yes_136 : decode cX5_yes 136 = .ok (.iconst 1, 1) := by decide +kernel
theorem dX5_yes_137 : decode cX5_yes 137 = .ok (.ireturn, 1) := by decide +kernel
theorem dX5_no_0 : decode cX5_no 0 = .ok (.aload_n 0, 1) := by decide +kernel
theorem dX5_no_1 : decode cX5_no 1 = .ok (.iload_n 1, 1) := by decide +kernel
theorem dX5_no_2 : decode cX5_no 2 = .ok (.invokevirtual 103, 3) := by decide +kernel
theorem dX5_no_5 : decode cX5_no 5 = .ok (.astore_n 3, 1) := by decide +kernel
theorem dX5_no_6 : decode cX5_no 6 = .ok (.aload_n 3, 1) := by decide +kernel
theorem dX5_no_7 : decode cX5_no 7 = .ok (.ifnull 18, 3) := by decide +kernel
theorem dX5_no_10 : decode cX5_no 10 = .ok (.aload_n 3, 1) := by decide +kernel
theorem dX5_no_11 : decode cX5_no 11 = .ok (.getfield 136, 3) := by decide +kernel
theorem dX5_no_14 : decode cX5_no 14 = .ok (.ifCond .ne 11, 3) := by decide +kernel
theorem dX5_no_17 : decode cX5_no 17 = .ok (.aload_n 3, 1) := by decide +kernel
theorem dX5_no_18 : decode cX5_no 18 = .ok (.iload_n 2, 1) := by decide +kernel
theorem dX5_no_19 : decode cX5_no 19 = .ok (.invokevirtual 140, 3) := by decide +kernel
theorem dX5_no_22 : decode cX5_no 22 = .ok (.ifCond .ne 5, 3) := by decide +kernel
theorem dX5_no_25 : decode cX5_no 25 = .ok (.iconst 0, 1) := by decide +kernel
theorem dX5_no_26 : decode cX5_no 26 = .ok (.ireturn, 1) := by decide +kernel
theorem dX5_no_27 : decode cX5_no 27 = .ok (.aload_n 3, 1) := by decide +kernel
theorem dX5_no_28 : decode cX5_no 28 = .ok (.iconst 1, 1) := by decide +kernel
theorem dX5_no_29 : decode cX5_no 29 = .ok (.putfield 136, 3) := by decide +kernel
theorem dX5_no_32 : decode cX5_no 32 = .ok (.iconst 1, 1) := by decide +kernel
theorem dX5_no_33 : decode cX5_no 33 = .ok (.ireturn, 1) := by decide +kernel
theorem dX5_about_0 : decode cX5_about 0 = .ok (.iload_n 1, 1) := by decide +kernel
theorem dX5_about_1 : decode cX5_about 1 = .ok (.tableswitch 104 0 6 #[43, 51, 59, 67, 75, 80, 85], 43) := by decide +kernel
theorem dX5_about_44 : decode cX5_about 44 = .ok (.aload_n 0, 1) := by decide +kernel
theorem dX5_about_45 : decode cX5_about 45 = .ok (.getfield 10, 3) := by decide +kernel
theorem dX5_about_48 : decode cX5_about 48 = .ok (.getfield 143, 3) := by decide +kernel
theorem dX5_about_51 : decode cX5_about 51 = .ok (.ireturn, 1) := by decide +kernel
theorem dX5_about_52 : decode cX5_about 52 = .ok (.aload_n 0, 1) := by decide +kernel
theorem dX5_about_53 : decode cX5_about 53 = .ok (.getfield 10, 3) := by decide +kernel
theorem dX5_about_56 : decode cX5_about 56 = .ok (.getfield 146, 3) := by decide +kernel
theorem dX5_about_59 : decode cX5_about 59 = .ok (.ireturn, 1) := by decide +kernel
theorem dX5_about_60 : decode cX5_about 60 = .ok (.aload_n 0, 1) := by decide +kernel
theorem dX5_about_61 : decode cX5_about 61 = .ok (.getfield 10, 3) := by decide +kernel
theorem dX5_about_64 : decode cX5_about 64 = .ok (.getfield 149, 3) := by decide +kernel
theorem dX5_about_67 : decode cX5_about 67 = .ok (.ireturn, 1) := by decide +kernel
theorem dX5_about_68 : decode cX5_about 68 = .ok (.aload_n 0, 1) := by decide +kernel
theorem dX5_about_69 : decode cX5_about 69 = .ok (.getfield 19, 3) := by decide +kernel
theorem dX5_about_72 : decode cX5_about 72 = .ok (.getfield 152, 3) := by decide +kernel
theorem dX5_about_75 : decode cX5_about 75 = .ok (.ireturn, 1) := by decide +kernel
theorem dX5_about_76 : decode cX5_about 76 = .ok (.aload_n 0, 1) := by decide +kernel
theorem dX5_about_77 : decode cX5_about 77 = .ok (.getfield 83, 3) := by decide +kernel
theorem dX5_about_80 : decode cX5_about 80 = .ok (.ireturn, 1) := by decide +kernel
theorem dX5_about_81 : decode cX5_about 81 = .ok (.aload_n 0, 1) := by decide +kernel
theorem dX5_about_82 : decode cX5_about 82 = .ok (.getfield 97, 3) := by decide +kernel
theorem dX5_about_85 : decode cX5_about 85 = .ok (.ireturn, 1) := by decide +kernel
theorem dX5_about_86 : decode cX5_about 86 = .ok (.aload_n 0, 1) := by decide +kernel
theorem dX5_about_87 : decode cX5_about 87 = .ok (.getfield 155, 3) := by decide +kernel
theorem dX5_about_90 : decode cX5_about 90 = .ok (.ifCond .eq 13, 3) := by decide +kernel
theorem dX5_about_93 : decode cX5_about 93 = .ok (.aload_n 0, 1) := by decide +kernel
theorem dX5_about_94 : decode cX5_about 94 = .ok (.getfield 23, 3) := by decide +kernel
theorem dX5_about_97 : decode cX5_about 97 = .ok (.getfield 152, 3) := by decide +kernel
theorem dX5_about_100 : decode cX5_about 100 = .ok (.goto 4, 3) := by decide +kernel
theorem dX5_about_103 : decode cX5_about 103 = .ok (.iconst (-1), 1) := by decide +kernel
theorem dX5_about_104 : decode cX5_about 104 = .ok (.ireturn, 1) := by decide +kernel
theorem dX5_about_105 : decode cX5_about 105 = .ok (.iconst (-1), 1) := by decide +kernel
theorem dX5_about_106 : decode cX5_about 106 = .ok (.ireturn, 1) := by decide +kernel
theorem dX5_slipOf_0 : decode cX5_slipOf 0 = .ok (.aload_n 0, 1) := by decide +kernel
theorem dX5_slipOf_1 : decode cX5_slipOf 1 = .ok (.getfield 19, 3) := by decide +kernel
theorem dX5_slipOf_4 : decode cX5_slipOf 4 = .ok (.iload_n 1, 1) := by decide +kernel
theorem dX5_slipOf_5 : decode cX5_slipOf 5 = .ok (.invokevirtual 158, 3) := by decide +kernel
theorem dX5_slipOf_8 : decode cX5_slipOf 8 = .ok (.ifCond .ne 5, 3) := by decide +kernel
theorem dX5_slipOf_11 : decode cX5_slipOf 11 = .ok (.iconst (-1), 1) := by decide +kernel
theorem dX5_slipOf_12 : decode cX5_slipOf 12 = .ok (.ireturn, 1) := by decide +kernel
theorem dX5_slipOf_13 : decode cX5_slipOf 13 = .ok (.iload_n 2, 1) := by decide +kernel
theorem dX5_slipOf_14 : decode cX5_slipOf 14 = .ok (.bipush 8, 2) := by decide +kernel
theorem dX5_slipOf_16 : decode cX5_slipOf 16 = .ok (.if_icmp .ne 20, 3) := by decide +kernel
theorem dX5_slipOf_19 : decode cX5_slipOf 19 = .ok (.aload_n 0, 1) := by decide +kernel
theorem dX5_slipOf_20 : decode cX5_slipOf 20 = .ok (.getfield 19, 3) := by decide +kernel
theorem dX5_slipOf_23 : decode cX5_slipOf 23 = .ok (.iload_n 1, 1) := by decide +kernel
theorem dX5_slipOf_24 : decode cX5_slipOf 24 = .ok (.invokevirtual 161, 3) := by decide +kernel
theorem dX5_slipOf_27 : decode cX5_slipOf 27 = .ok (.ifCond .eq 7, 3) := by decide +kernel
theorem dX5_slipOf_30 : decode cX5_slipOf 30 = .ok (.iconst 1, 1) := by decide +kernel
theorem dX5_slipOf_31 : decode cX5_slipOf 31 = .ok (.goto 4, 3) := by decide +kernel
theorem dX5_slipOf_34 : decode cX5_slipOf 34 = .ok (.iconst 0, 1) := by decide +kernel
theorem dX5_slipOf_35 : decode cX5_slipOf 35 = .ok (.ireturn, 1) := by decide +kernel
theorem dX5_slipOf_36 : decode cX5_slipOf 36 = .ok (.aload_n 0, 1) := by decide +kernel
theorem dX5_slipOf_37 : decode cX5_slipOf 37 = .ok (.getfield 19, 3) := by decide +kernel
theorem dX5_slipOf_40 : decode cX5_slipOf 40 = .ok (.iload_n 1, 1) := by decide +kernel
theorem dX5_slipOf_41 : decode cX5_slipOf 41 = .ok (.iload_n 2, 1) := by decide +kernel
theorem dX5_slipOf_42 : decode cX5_slipOf 42 = .ok (.invokevirtual 163, 3) := by decide +kernel
theorem dX5_slipOf_45 : decode cX5_slipOf 45 = .ok (.ireturn, 1) := by decide +kernel
theorem dX5_where_0 : decode cX5_where 0 = .ok (.aload_n 0, 1) := by decide +kernel
theorem dX5_where_1 : decode cX5_where 1 = .ok (.getfield 10, 3) := by decide +kernel
theorem dX5_where_4 : decode cX5_where 4 = .ok (.iload_n 1, 1) := by decide +kernel
theorem dX5_where_5 : decode cX5_where 5 = .ok (.invokevirtual 90, 3) := by decide +kernel
theorem dX5_where_8 : decode cX5_where 8 = .ok (.ifCond .ne 5, 3) := by decide +kernel
theorem dX5_where_11 : decode cX5_where 11 = .ok (.iconst (-1), 1) := by decide +kernel
theorem dX5_where_12 : decode cX5_where 12 = .ok (.ireturn, 1) := by decide +kernel
theorem dX5_where_13 : decode cX5_where 13 = .ok (.aload_n 0, 1) := by decide +kernel
theorem dX5_where_14 : decode cX5_where 14 = .ok (.getfield 31, 3) := by decide +kernel
theorem dX5_where_17 : decode cX5_where 17 = .ok (.aload_n 0, 1) := by decide +kernel
theorem dX5_where_18 : decode cX5_where 18 = .ok (.getfield 19, 3) := by decide +kernel
theorem dX5_where_21 : decode cX5_where 21 = .ok (.iload_n 2, 1) := by decide +kernel
theorem dX5_where_22 : decode cX5_where 22 = .ok (.iload_n 3, 1) := by decide +kernel
theorem dX5_where_23 : decode cX5_where 23 = .ok (.invokevirtual 166, 3) := by decide +kernel
theorem dX5_where_26 : decode cX5_where 26 = .ok (.aload_n 0, 1) := by decide +kernel
theorem dX5_where_27 : decode cX5_where 27 = .ok (.getfield 31, 3) := by decide +kernel
theorem dX5_where_30 : decode cX5_where 30 = .ok (.iload_n 1, 1) := by decide +kernel
theorem dX5_where_31 : decode cX5_where 31 = .ok (.iload 4, 2) := by decide +kernel
theorem dX5_where_33 : decode cX5_where 33 = .ok (.invokevirtual 170, 3) := by decide +kernel
theorem dX5_where_36 : decode cX5_where 36 = .ok (.ireturn, 1) := by decide +kernel
theorem dX5_chain_0 : decode cX5_chain 0 = .ok (.aload_n 0, 1) := by decide +kernel
theorem dX5_chain_1 : decode cX5_chain 1 = .ok (.getfield 10, 3) := by decide +kernel
theorem dX5_chain_4 : decode cX5_chain 4 = .ok (.iload_n 1, 1) := by decide +kernel
theorem dX5_chain_5 : decode cX5_chain 5 = .ok (.invokevirtual 90, 3) := by decide +kernel
theorem dX5_chain_8 : decode cX5_chain 8 = .ok (.ifCond .ne 5, 3) := by decide +kernel
theorem dX5_chain_11 : decode cX5_chain 11 = .ok (.iconst (-1), 1) := by decide +kernel
theorem dX5_chain_12 : decode cX5_chain 12 = .ok (.ireturn, 1) := by decide +kernel
theorem dX5_chain_13 : decode cX5_chain 13 = .ok (.aload_n 0, 1) := by decide +kernel
theorem dX5_chain_14 : decode cX5_chain 14 = .ok (.getfield 40, 3) := by decide +kernel
theorem dX5_chain_17 : decode cX5_chain 17 = .ok (.iload_n 1, 1) := by decide +kernel
theorem dX5_chain_18 : decode cX5_chain 18 = .ok (.invokevirtual 173, 3) := by decide +kernel
theorem dX5_chain_21 : decode cX5_chain 21 = .ok (.aload_n 0, 1) := by decide +kernel
theorem dX5_chain_22 : decode cX5_chain 22 = .ok (.getfield 40, 3) := by decide +kernel
theorem dX5_chain_25 : decode cX5_chain 25 = .ok (.iload_n 2, 1) := by decide +kernel
theorem dX5_chain_26 : decode cX5_chain 26 = .ok (.invokevirtual 177, 3) := by decide +kernel
theorem dX5_chain_29 : decode cX5_chain 29 = .ok (.ireturn, 1) := by decide +kernel
theorem dX5_gap_0 : decode cX5_gap 0 = .ok (.aload_n 0, 1) := by decide +kernel
theorem dX5_gap_1 : decode cX5_gap 1 = .ok (.getfield 10, 3) := by decide +kernel
theorem dX5_gap_4 : decode cX5_gap 4 = .ok (.iload_n 1, 1) := by decide +kernel
theorem dX5_gap_5 : decode cX5_gap 5 = .ok (.invokevirtual 90, 3) := by decide +kernel
theorem dX5_gap_8 : decode cX5_gap 8 = .ok (.ifCond .ne 5, 3) := by decide +kernel
theorem dX5_gap_11 : decode cX5_gap 11 = .ok (.iconst (-1), 1) := by decide +kernel
theorem dX5_gap_12 : decode cX5_gap 12 = .ok (.ireturn, 1) := by decide +kernel
theorem dX5_gap_13 : decode cX5_gap 13 = .ok (.aload_n 0, 1) := by decide +kernel
theorem dX5_gap_14 : decode cX5_gap 14 = .ok (.getfield 40, 3) := by decide +kernel
theorem dX5_gap_17 : decode cX5_gap 17 = .ok (.iload_n 1, 1) := by decide +kernel
theorem dX5_gap_18 : decode cX5_gap 18 = .ok (.invokevirtual 173, 3) := by decide +kernel
theorem dX5_gap_21 : decode cX5_gap 21 = .ok (.aload_n 0, 1) := by decide +kernel
theorem dX5_gap_22 : decode cX5_gap 22 = .ok (.getfield 40, 3) := by decide +kernel
theorem dX5_gap_25 : decode cX5_gap 25 = .ok (.iload_n 2, 1) := by decide +kernel
theorem dX5_gap_26 : decode cX5_gap 26 = .ok (.invokevirtual 181, 3) := by decide +kernel
theorem dX5_gap_29 : decode cX5_gap 29 = .ok (.istore 4, 2) := by decide +kernel
theorem dX5_gap_31 : decode cX5_gap 31 = .ok (.iload 4, 2) := by decide +kernel
theorem dX5_gap_33 : decode cX5_gap 33 = .ok (.iconst (-1), 1) := by decide +kernel
theorem dX5_gap_34 : decode cX5_gap 34 = .ok (.if_icmp .ne 5, 3) := by decide +kernel
theorem dX5_gap_37 : decode cX5_gap 37 = .ok (.iconst (-1), 1) := by decide +kernel
theorem dX5_gap_38 : decode cX5_gap 38 = .ok (.ireturn, 1) := by decide +kernel
theorem dX5_gap_39 : decode cX5_gap 39 = .ok (.aload_n 0, 1) := by decide +kernel
theorem dX5_gap_40 : decode cX5_gap 40 = .ok (.getfield 40, 3) := by decide +kernel
theorem dX5_gap_43 : decode cX5_gap 43 = .ok (.iload 4, 2) := by decide +kernel
theorem dX5_gap_45 : decode cX5_gap 45 = .ok (.iconst 1, 1) := by decide +kernel
theorem dX5_gap_46 : decode cX5_gap 46 = .ok (.isub, 1) := by decide +kernel
theorem dX5_gap_47 : decode cX5_gap 47 = .ok (.invokevirtual 177, 3) := by decide +kernel
theorem dX5_gap_50 : decode cX5_gap 50 = .ok (.istore 5, 2) := by decide +kernel
theorem dX5_gap_52 : decode cX5_gap 52 = .ok (.aload_n 0, 1) := by decide +kernel
theorem dX5_gap_53 : decode cX5_gap 53 = .ok (.getfield 40, 3) := by decide +kernel
theorem dX5_gap_56 : decode cX5_gap 56 = .ok (.iload 4, 2) := by decide +kernel
theorem dX5_gap_58 : decode cX5_gap 58 = .ok (.invokevirtual 177, 3) := by decide +kernel
theorem dX5_gap_61 : decode cX5_gap 61 = .ok (.istore 6, 2) := by decide +kernel
theorem dX5_gap_63 : decode cX5_gap 63 = .ok (.iload_n 3, 1) := by decide +kernel
theorem dX5_gap_64 : decode cX5_gap 64 = .ok (.tableswitch 62 0 3 #[32, 44, 56, 59], 32) := by decide +kernel
theorem dX5_gap_96 : decode cX5_gap 96 = .ok (.aload_n 0, 1) := by decide +kernel
theorem dX5_gap_97 : decode cX5_gap 97 = .ok (.getfield 19, 3) := by decide +kernel
theorem dX5_gap_100 : decode cX5_gap 100 = .ok (.iload 5, 2) := by decide +kernel
theorem dX5_gap_102 : decode cX5_gap 102 = .ok (.bipush 6, 2) := by decide +kernel
theorem dX5_gap_104 : decode cX5_gap 104 = .ok (.invokevirtual 163, 3) := by decide +kernel
theorem dX5_gap_107 : decode cX5_gap 107 = .ok (.ireturn, 1) := by decide +kernel
theorem dX5_gap_108 : decode cX5_gap 108 = .ok (.aload_n 0, 1) := by decide +kernel
theorem dX5_gap_109 : decode cX5_gap 109 = .ok (.getfield 19, 3) := by decide +kernel
theorem dX5_gap_112 : decode cX5_gap 112 = .ok (.iload 6, 2) := by decide +kernel
theorem dX5_gap_114 : decode cX5_gap 114 = .ok (.bipush 6, 2) := by decide +kernel
theorem dX5_gap_116 : decode cX5_gap 116 = .ok (.invokevirtual 163, 3) := by decide +kernel
theorem dX5_gap_119 : decode cX5_gap 119 = .ok (.ireturn, 1) := by decide +kernel
theorem dX5_gap_120 : decode cX5_gap 120 = .ok (.iload 5, 2) := by decide +kernel
theorem dX5_gap_122 : decode cX5_gap 122 = .ok (.ireturn, 1) := by decide +kernel
theorem dX5_gap_123 : decode cX5_gap 123 = .ok (.iload 6, 2) := by decide +kernel
theorem dX5_gap_125 : decode cX5_gap 125 = .ok (.ireturn, 1) := by decide +kernel
theorem dX5_gap_126 : decode cX5_gap 126 = .ok (.iconst (-1), 1) := by decide +kernel
theorem dX5_gap_127 : decode cX5_gap 127 = .ok (.ireturn, 1) := by decide +kernel
theorem dX5_breaks_0 : decode cX5_breaks 0 = .ok (.aload_n 0, 1) := by decide +kernel
theorem dX5_breaks_1 : decode cX5_breaks 1 = .ok (.getfield 10, 3) := by decide +kernel
theorem dX5_breaks_4 : decode cX5_breaks 4 = .ok (.iload_n 1, 1) := by decide +kernel
theorem dX5_breaks_5 : decode cX5_breaks 5 = .ok (.invokevirtual 184, 3) := by decide +kernel
theorem dX5_breaks_8 : decode cX5_breaks 8 = .ok (.ifCond .eq 14, 3) := by decide +kernel
theorem dX5_breaks_11 : decode cX5_breaks 11 = .ok (.aload_n 0, 1) := by decide +kernel
theorem dX5_breaks_12 : decode cX5_breaks 12 = .ok (.getfield 19, 3) := by decide +kernel
theorem dX5_breaks_15 : decode cX5_breaks 15 = .ok (.iload_n 1, 1) := by decide +kernel
theorem dX5_breaks_16 : decode cX5_breaks 16 = .ok (.invokevirtual 187, 3) := by decide +kernel
theorem dX5_breaks_19 : decode cX5_breaks 19 = .ok (.goto 4, 3) := by decide +kernel
theorem dX5_breaks_22 : decode cX5_breaks 22 = .ok (.iconst (-1), 1) := by decide +kernel
theorem dX5_breaks_23 : decode cX5_breaks 23 = .ok (.ireturn, 1) := by decide +kernel
theorem dX5_due_0 : decode cX5_due 0 = .ok (.iload_n 1, 1) := by decide +kernel
theorem dX5_due_1 : decode cX5_due 1 = .ok (.ifCond .lt 7, 3) := by decide +kernel
theorem dX5_due_4 : decode cX5_due 4 = .ok (.iload_n 2, 1) := by decide +kernel
theorem dX5_due_5 : decode cX5_due 5 = .ok (.ifCond .ge 5, 3) := by decide +kernel
theorem dX5_due_8 : decode cX5_due 8 = .ok (.iconst (-1), 1) := by decide +kernel
theorem dX5_due_9 : decode cX5_due 9 = .ok (.ireturn, 1) := by decide +kernel
theorem dX5_due_10 : decode cX5_due 10 = .ok (.aload_n 0, 1) := by decide +kernel
theorem dX5_due_11 : decode cX5_due 11 = .ok (.getfield 31, 3) := by decide +kernel
theorem dX5_due_14 : decode cX5_due 14 = .ok (.aload_n 0, 1) := by decide +kernel
theorem dX5_due_15 : decode cX5_due 15 = .ok (.getfield 19, 3) := by decide +kernel
theorem dX5_due_18 : decode cX5_due 18 = .ok (.invokevirtual 190, 3) := by decide +kernel
theorem dX5_due_21 : decode cX5_due 21 = .ok (.pop, 1) := by decide +kernel
theorem dX5_due_22 : decode cX5_due 22 = .ok (.aload_n 0, 1) := by decide +kernel
theorem dX5_due_23 : decode cX5_due 23 = .ok (.getfield 31, 3) := by decide +kernel
theorem dX5_due_26 : decode cX5_due 26 = .ok (.iload_n 1, 1) := by decide +kernel
theorem dX5_due_27 : decode cX5_due 27 = .ok (.iload_n 2, 1) := by decide +kernel
theorem dX5_due_28 : decode cX5_due 28 = .ok (.invokevirtual 194, 3) := by decide +kernel
theorem dX5_due_31 : decode cX5_due 31 = .ok (.ireturn, 1) := by decide +kernel
theorem dX5_freeze_0 : decode cX5_freeze 0 = .ok (.aload_n 0, 1) := by decide +kernel
theorem dX5_freeze_1 : decode cX5_freeze 1 = .ok (.getfield 23, 3) := by decide +kernel
theorem dX5_freeze_4 : decode cX5_freeze 4 = .ok (.aload_n 0, 1) := by decide +kernel
theorem dX5_freeze_5 : decode cX5_freeze 5 = .ok (.getfield 19, 3) := by decide +kernel
theorem dX5_freeze_8 : decode cX5_freeze 8 = .ok (.invokevirtual 197, 3) := by decide +kernel
theorem dX5_freeze_11 : decode cX5_freeze 11 = .ok (.aload_n 0, 1) := by decide +kernel
theorem dX5_freeze_12 : decode cX5_freeze 12 = .ok (.iconst 1, 1) := by decide +kernel
theorem dX5_freeze_13 : decode cX5_freeze 13 = .ok (.putfield 155, 3) := by decide +kernel
theorem dX5_freeze_16 : decode cX5_freeze 16 = .ok (.aload_n 0, 1) := by decide +kernel
theorem dX5_freeze_17 : decode cX5_freeze 17 = .ok (.getfield 23, 3) := by decide +kernel
theorem dX5_freeze_20 : decode cX5_freeze 20 = .ok (.getfield 152, 3) := by decide +kernel
theorem dX5_freeze_23 : decode cX5_freeze 23 = .ok (.ireturn, 1) := by decide +kernel
theorem dX5_alter_0 : decode cX5_alter 0 = .ok (.aload_n 0, 1) := by decide +kernel
theorem dX5_alter_1 : decode cX5_alter 1 = .ok (.getfield 155, 3) := by decide +kernel
theorem dX5_alter_4 : decode cX5_alter 4 = .ok (.ifCond .eq 24, 3) := by decide +kernel
theorem dX5_alter_7 : decode cX5_alter 7 = .ok (.aload_n 0, 1) := by decide +kernel
theorem dX5_alter_8 : decode cX5_alter 8 = .ok (.getfield 23, 3) := by decide +kernel
theorem dX5_alter_11 : decode cX5_alter 11 = .ok (.iload_n 1, 1) := by decide +kernel
theorem dX5_alter_12 : decode cX5_alter 12 = .ok (.invokevirtual 158, 3) := by decide +kernel
theorem dX5_alter_15 : decode cX5_alter 15 = .ok (.ifCond .eq 13, 3) := by decide +kernel
theorem dX5_alter_18 : decode cX5_alter 18 = .ok (.iload_n 2, 1) := by decide +kernel
theorem dX5_alter_19 : decode cX5_alter 19 = .ok (.ifCond .lt 9, 3) := by decide +kernel
theorem dX5_alter_22 : decode cX5_alter 22 = .ok (.iload_n 2, 1) := by decide +kernel
theorem dX5_alter_23 : decode cX5_alter 23 = .ok (.bipush 6, 2) := by decide +kernel
theorem dX5_alter_25 : decode cX5_alter 25 = .ok (.if_icmp .le 5, 3) := by decide +kernel
theorem dX5_alter_28 : decode cX5_alter 28 = .ok (.iconst 0, 1) := by decide +kernel
theorem dX5_alter_29 : decode cX5_alter 29 = .ok (.ireturn, 1) := by decide +kernel
theorem dX5_alter_30 : decode cX5_alter 30 = .ok (.aload_n 0, 1) := by decide +kernel
theorem dX5_alter_31 : decode cX5_alter 31 = .ok (.getfield 23, 3) := by decide +kernel
theorem dX5_alter_34 : decode cX5_alter 34 = .ok (.iload_n 1, 1) := by decide +kernel
theorem dX5_alter_35 : decode cX5_alter 35 = .ok (.iload_n 2, 1) := by decide +kernel
theorem dX5_alter_36 : decode cX5_alter 36 = .ok (.iload_n 3, 1) := by decide +kernel
theorem dX5_alter_37 : decode cX5_alter 37 = .ok (.invokevirtual 200, 3) := by decide +kernel
theorem dX5_alter_40 : decode cX5_alter 40 = .ok (.iconst 1, 1) := by decide +kernel
theorem dX5_alter_41 : decode cX5_alter 41 = .ok (.ireturn, 1) := by decide +kernel
theorem dX5_check_0 : decode cX5_check 0 = .ok (.aload_n 0, 1) := by decide +kernel
theorem dX5_check_1 : decode cX5_check 1 = .ok (.getfield 155, 3) := by decide +kernel
theorem dX5_check_4 : decode cX5_check 4 = .ok (.ifCond .eq 17, 3) := by decide +kernel
theorem dX5_check_7 : decode cX5_check 7 = .ok (.aload_n 0, 1) := by decide +kernel
theorem dX5_check_8 : decode cX5_check 8 = .ok (.getfield 31, 3) := by decide +kernel
theorem dX5_check_11 : decode cX5_check 11 = .ok (.aload_n 0, 1) := by decide +kernel
theorem dX5_check_12 : decode cX5_check 12 = .ok (.getfield 23, 3) := by decide +kernel
theorem dX5_check_15 : decode cX5_check 15 = .ok (.invokevirtual 190, 3) := by decide +kernel
theorem dX5_check_18 : decode cX5_check 18 = .ok (.goto 5, 3) := by decide +kernel
theorem dX5_check_21 : decode cX5_check 21 = .ok (.bipush (-2), 2) := by decide +kernel
theorem dX5_check_23 : decode cX5_check 23 = .ok (.ireturn, 1) := by decide +kernel
theorem dX5_thaw_0 : decode cX5_thaw 0 = .ok (.aload_n 0, 1) := by decide +kernel
theorem dX5_thaw_1 : decode cX5_thaw 1 = .ok (.getfield 155, 3) := by decide +kernel
theorem dX5_thaw_4 : decode cX5_thaw 4 = .ok (.ifCond .eq 18, 3) := by decide +kernel
theorem dX5_thaw_7 : decode cX5_thaw 7 = .ok (.aload_n 0, 1) := by decide +kernel
theorem dX5_thaw_8 : decode cX5_thaw 8 = .ok (.getfield 31, 3) := by decide +kernel
theorem dX5_thaw_11 : decode cX5_thaw 11 = .ok (.aload_n 0, 1) := by decide +kernel
theorem dX5_thaw_12 : decode cX5_thaw 12 = .ok (.getfield 23, 3) := by decide +kernel
theorem dX5_thaw_15 : decode cX5_thaw 15 = .ok (.invokevirtual 190, 3) := by decide +kernel
theorem dX5_thaw_18 : decode cX5_thaw 18 = .ok (.iconst (-1), 1) := by decide +kernel
theorem dX5_thaw_19 : decode cX5_thaw 19 = .ok (.if_icmp .eq 5, 3) := by decide +kernel
theorem dX5_thaw_22 : decode cX5_thaw 22 = .ok (.iconst 0, 1) := by decide +kernel
theorem dX5_thaw_23 : decode cX5_thaw 23 = .ok (.ireturn, 1) := by decide +kernel
theorem dX5_thaw_24 : decode cX5_thaw 24 = .ok (.aload_n 0, 1) := by decide +kernel
theorem dX5_thaw_25 : decode cX5_thaw 25 = .ok (.getfield 19, 3) := by decide +kernel
theorem dX5_thaw_28 : decode cX5_thaw 28 = .ok (.aload_n 0, 1) := by decide +kernel
theorem dX5_thaw_29 : decode cX5_thaw 29 = .ok (.getfield 23, 3) := by decide +kernel
theorem dX5_thaw_32 : decode cX5_thaw 32 = .ok (.invokevirtual 197, 3) := by decide +kernel
theorem dX5_thaw_35 : decode cX5_thaw 35 = .ok (.iconst 1, 1) := by decide +kernel
theorem dX5_thaw_36 : decode cX5_thaw 36 = .ok (.ireturn, 1) := by decide +kernel
theorem dX5_findHanding_0 : decode cX5_findHanding 0 = .ok (.iload_n 1, 1) := by decide +kernel
theorem dX5_findHanding_1 : decode cX5_findHanding 1 = .ok (.ifCond .lt 11, 3) := by decide +kernel
theorem dX5_findHanding_4 : decode cX5_findHanding 4 = .ok (.iload_n 1, 1) := by decide +kernel
theorem dX5_findHanding_5 : decode cX5_findHanding 5 = .ok (.aload_n 0, 1) := by decide +kernel
theorem dX5_findHanding_6 : decode cX5_findHanding 6 = .ok (.getfield 97, 3) := by decide +kernel
theorem dX5_findHanding_9 : decode cX5_findHanding 9 = .ok (.if_icmp .lt 7, 3) := by decide +kernel
theorem dX5_findHanding_12 : decode cX5_findHanding 12 = .ok (.aconst_null, 1) := by decide +kernel
theorem dX5_findHanding_13 : decode cX5_findHanding 13 = .ok (.goto 9, 3) := by decide +kernel
theorem dX5_findHanding_16 : decode cX5_findHanding 16 = .ok (.aload_n 0, 1) := by decide +kernel
theorem dX5_findHanding_17 : decode cX5_findHanding 17 = .ok (.getfield 46, 3) := by decide +kernel
theorem dX5_findHanding_20 : decode cX5_findHanding 20 = .ok (.iload_n 1, 1) := by decide +kernel
theorem dX5_findHanding_21 : decode cX5_findHanding 21 = .ok (.aaload, 1) := by decide +kernel
theorem dX5_findHanding_22 : decode cX5_findHanding 22 = .ok (.areturn, 1) := by decide +kernel
theorem dX5_write_0 : decode cX5_write 0 = .ok (.aload_n 0, 1) := by decide +kernel
theorem dX5_write_1 : decode cX5_write 1 = .ok (.iconst (-1), 1) := by decide +kernel
theorem dX5_write_2 : decode cX5_write 2 = .ok (.putfield 58, 3) := by decide +kernel
theorem dX5_write_5 : decode cX5_write 5 = .ok (.aload_n 0, 1) := by decide +kernel
theorem dX5_write_6 : decode cX5_write 6 = .ok (.aload_n 0, 1) := by decide +kernel
theorem dX5_write_7 : decode cX5_write 7 = .ok (.iload_n 1, 1) := by decide +kernel
theorem dX5_write_8 : decode cX5_write 8 = .ok (.iload_n 2, 1) := by decide +kernel
theorem dX5_write_9 : decode cX5_write 9 = .ok (.iload 7, 2) := by decide +kernel
theorem dX5_write_11 : decode cX5_write 11 = .ok (.invokevirtual 204, 3) := by decide +kernel
theorem dX5_write_14 : decode cX5_write 14 = .ok (.putfield 54, 3) := by decide +kernel
theorem dX5_write_17 : decode cX5_write 17 = .ok (.aload_n 0, 1) := by decide +kernel
theorem dX5_write_18 : decode cX5_write 18 = .ok (.getfield 54, 3) := by decide +kernel
theorem dX5_write_21 : decode cX5_write 21 = .ok (.ifCond .eq 5, 3) := by decide +kernel
theorem dX5_write_24 : decode cX5_write 24 = .ok (.iconst (-1), 1) := by decide +kernel
theorem dX5_write_25 : decode cX5_write 25 = .ok (.ireturn, 1) := by decide +kernel
theorem dX5_write_26 : decode cX5_write 26 = .ok (.aload_n 0, 1) := by decide +kernel
theorem dX5_write_27 : decode cX5_write 27 = .ok (.getfield 50, 3) := by decide +kernel
theorem dX5_write_30 : decode cX5_write 30 = .ok (.iconst 0, 1) := by decide +kernel
theorem dX5_write_31 : decode cX5_write 31 = .ok (.iload_n 1, 1) := by decide +kernel
theorem dX5_write_32 : decode cX5_write 32 = .ok (.iastore, 1) := by decide +kernel
theorem dX5_write_33 : decode cX5_write 33 = .ok (.aload_n 0, 1) := by decide +kernel
theorem dX5_write_34 : decode cX5_write 34 = .ok (.getfield 50, 3) := by decide +kernel
theorem dX5_write_37 : decode cX5_write 37 = .ok (.iconst 1, 1) := by decide +kernel
theorem dX5_write_38 : decode cX5_write 38 = .ok (.iload_n 2, 1) := by decide +kernel
theorem dX5_write_39 : decode cX5_write 39 = .ok (.iastore, 1) := by decide +kernel
theorem dX5_write_40 : decode cX5_write 40 = .ok (.aload_n 0, 1) := by decide +kernel
theorem dX5_write_41 : decode cX5_write 41 = .ok (.getfield 50, 3) := by decide +kernel
theorem dX5_write_44 : decode cX5_write 44 = .ok (.iconst 2, 1) := by decide +kernel
theorem dX5_write_45 : decode cX5_write 45 = .ok (.iload_n 3, 1) := by decide +kernel
theorem dX5_write_46 : decode cX5_write 46 = .ok (.iastore, 1) := by decide +kernel
theorem dX5_write_47 : decode cX5_write 47 = .ok (.aload_n 0, 1) := by decide +kernel
theorem dX5_write_48 : decode cX5_write 48 = .ok (.getfield 50, 3) := by decide +kernel
theorem dX5_write_51 : decode cX5_write 51 = .ok (.iconst 3, 1) := by decide +kernel
theorem dX5_write_52 : decode cX5_write 52 = .ok (.iload 4, 2) := by decide +kernel
theorem dX5_write_54 : decode cX5_write 54 = .ok (.iastore, 1) := by decide +kernel
theorem dX5_write_55 : decode cX5_write 55 = .ok (.aload_n 0, 1) := by decide +kernel
theorem dX5_write_56 : decode cX5_write 56 = .ok (.getfield 50, 3) := by decide +kernel
theorem dX5_write_59 : decode cX5_write 59 = .ok (.iconst 4, 1) := by decide +kernel
theorem dX5_write_60 : decode cX5_write 60 = .ok (.iload 5, 2) := by decide +kernel
theorem dX5_write_62 : decode cX5_write 62 = .ok (.iastore, 1) := by decide +kernel
theorem dX5_write_63 : decode cX5_write 63 = .ok (.aload_n 0, 1) := by decide +kernel
theorem dX5_write_64 : decode cX5_write 64 = .ok (.getfield 50, 3) := by decide +kernel
theorem dX5_write_67 : decode cX5_write 67 = .ok (.iconst 5, 1) := by decide +kernel
theorem dX5_write_68 : decode cX5_write 68 = .ok (.iload 6, 2) := by decide +kernel
theorem dX5_write_70 : decode cX5_write 70 = .ok (.iastore, 1) := by decide +kernel
theorem dX5_write_71 : decode cX5_write 71 = .ok (.aload_n 0, 1) := by decide +kernel
theorem dX5_write_72 : decode cX5_write 72 = .ok (.getfield 50, 3) := by decide +kernel
theorem dX5_write_75 : decode cX5_write 75 = .ok (.bipush 6, 2) := by decide +kernel
theorem dX5_write_77 : decode cX5_write 77 = .ok (.iload 7, 2) := by decide +kernel
theorem dX5_write_79 : decode cX5_write 79 = .ok (.iastore, 1) := by decide +kernel
theorem dX5_write_80 : decode cX5_write 80 = .ok (.aload_n 0, 1) := by decide +kernel
theorem dX5_write_81 : decode cX5_write 81 = .ok (.getfield 50, 3) := by decide +kernel
theorem dX5_write_84 : decode cX5_write 84 = .ok (.bipush 7, 2) := by decide +kernel
theorem dX5_write_86 : decode cX5_write 86 = .ok (.aload_n 0, 1) := by decide +kernel
theorem dX5_write_87 : decode cX5_write 87 = .ok (.getfield 83, 3) := by decide +kernel
theorem dX5_write_90 : decode cX5_write 90 = .ok (.iastore, 1) := by decide +kernel
theorem dX5_write_91 : decode cX5_write 91 = .ok (.aload_n 0, 1) := by decide +kernel
theorem dX5_write_92 : decode cX5_write 92 = .ok (.getfield 19, 3) := by decide +kernel
theorem dX5_write_95 : decode cX5_write 95 = .ok (.aload_n 0, 1) := by decide +kernel
theorem dX5_write_96 : decode cX5_write 96 = .ok (.getfield 50, 3) := by decide +kernel
theorem dX5_write_99 : decode cX5_write 99 = .ok (.invokevirtual 208, 3) := by decide +kernel
theorem dX5_write_102 : decode cX5_write 102 = .ok (.aload_n 0, 1) := by decide +kernel
theorem dX5_write_103 : decode cX5_write 103 = .ok (.getfield 31, 3) := by decide +kernel
theorem dX5_write_106 : decode cX5_write 106 = .ok (.aload_n 0, 1) := by decide +kernel
theorem dX5_write_107 : decode cX5_write 107 = .ok (.getfield 19, 3) := by decide +kernel
theorem dX5_write_110 : decode cX5_write 110 = .ok (.invokevirtual 190, 3) := by decide +kernel
theorem dX5_write_113 : decode cX5_write 113 = .ok (.istore 8, 2) := by decide +kernel
theorem dX5_write_115 : decode cX5_write 115 = .ok (.iload 8, 2) := by decide +kernel
theorem dX5_write_117 : decode cX5_write 117 = .ok (.iconst (-1), 1) := by decide +kernel
theorem dX5_write_118 : decode cX5_write 118 = .ok (.if_icmp .eq 23, 3) := by decide +kernel
theorem dX5_write_121 : decode cX5_write 121 = .ok (.aload_n 0, 1) := by decide +kernel
theorem dX5_write_122 : decode cX5_write 122 = .ok (.getfield 19, 3) := by decide +kernel
theorem dX5_write_125 : decode cX5_write 125 = .ok (.invokevirtual 212, 3) := by decide +kernel
theorem dX5_write_128 : decode cX5_write 128 = .ok (.aload_n 0, 1) := by decide +kernel
theorem dX5_write_129 : decode cX5_write 129 = .ok (.iconst 5, 1) := by decide +kernel
theorem dX5_write_130 : decode cX5_write 130 = .ok (.putfield 54, 3) := by decide +kernel
theorem dX5_write_133 : decode cX5_write 133 = .ok (.aload_n 0, 1) := by decide +kernel
theorem dX5_write_134 : decode cX5_write 134 = .ok (.iload 8, 2) := by decide +kernel
theorem dX5_write_136 : decode cX5_write 136 = .ok (.putfield 58, 3) := by decide +kernel
theorem dX5_write_139 : decode cX5_write 139 = .ok (.iconst (-1), 1) := by decide +kernel
theorem dX5_write_140 : decode cX5_write 140 = .ok (.ireturn, 1) := by decide +kernel
theorem dX5_write_141 : decode cX5_write 141 = .ok (.aload_n 0, 1) := by decide +kernel
theorem dX5_write_142 : decode cX5_write 142 = .ok (.getfield 19, 3) := by decide +kernel
theorem dX5_write_145 : decode cX5_write 145 = .ok (.getfield 152, 3) := by decide +kernel
theorem dX5_write_148 : decode cX5_write 148 = .ok (.iconst 1, 1) := by decide +kernel
theorem dX5_write_149 : decode cX5_write 149 = .ok (.isub, 1) := by decide +kernel
theorem dX5_write_150 : decode cX5_write 150 = .ok (.ireturn, 1) := by decide +kernel
theorem dX5_faultAhead_0 : decode cX5_faultAhead 0 = .ok (.aload_n 0, 1) := by decide +kernel
theorem dX5_faultAhead_1 : decode cX5_faultAhead 1 = .ok (.getfield 19, 3) := by decide +kernel
theorem dX5_faultAhead_4 : decode cX5_faultAhead 4 = .ok (.getfield 152, 3) := by decide +kernel
theorem dX5_faultAhead_7 : decode cX5_faultAhead 7 = .ok (.sipush 400, 3) := by decide +kernel
theorem dX5_faultAhead_10 : decode cX5_faultAhead 10 = .ok (.if_icmp .lt 5, 3) := by decide +kernel
theorem dX5_faultAhead_13 : decode cX5_faultAhead 13 = .ok (.iconst 1, 1) := by decide +kernel
theorem dX5_faultAhead_14 : decode cX5_faultAhead 14 = .ok (.ireturn, 1) := by decide +kernel
theorem dX5_faultAhead_15 : decode cX5_faultAhead 15 = .ok (.iload_n 1, 1) := by decide +kernel
theorem dX5_faultAhead_16 : decode cX5_faultAhead 16 = .ok (.iconst 1, 1) := by decide +kernel
theorem dX5_faultAhead_17 : decode cX5_faultAhead 17 = .ok (.if_icmp .lt 9, 3) := by decide +kernel
theorem dX5_faultAhead_20 : decode cX5_faultAhead 20 = .ok (.iload_n 1, 1) := by decide +kernel
theorem dX5_faultAhead_21 : decode cX5_faultAhead 21 = .ok (.bipush 19, 2) := by decide +kernel
theorem dX5_faultAhead_23 : decode cX5_faultAhead 23 = .ok (.if_icmp .le 5, 3) := by decide +kernel
theorem dX5_faultAhead_26 : decode cX5_faultAhead 26 = .ok (.iconst 2, 1) := by decide +kernel
theorem dX5_faultAhead_27 : decode cX5_faultAhead 27 = .ok (.ireturn, 1) := by decide +kernel
theorem dX5_faultAhead_28 : decode cX5_faultAhead 28 = .ok (.aload_n 0, 1) := by decide +kernel
theorem dX5_faultAhead_29 : decode cX5_faultAhead 29 = .ok (.getfield 10, 3) := by decide +kernel
theorem dX5_faultAhead_32 : decode cX5_faultAhead 32 = .ok (.iload_n 2, 1) := by decide +kernel
theorem dX5_faultAhead_33 : decode cX5_faultAhead 33 = .ok (.invokevirtual 90, 3) := by decide +kernel
theorem dX5_faultAhead_36 : decode cX5_faultAhead 36 = .ok (.ifCond .ne 5, 3) := by decide +kernel
theorem dX5_faultAhead_39 : decode cX5_faultAhead 39 = .ok (.iconst 3, 1) := by decide +kernel
theorem dX5_faultAhead_40 : decode cX5_faultAhead 40 = .ok (.ireturn, 1) := by decide +kernel
theorem dX5_faultAhead_41 : decode cX5_faultAhead 41 = .ok (.iload_n 3, 1) := by decide +kernel
theorem dX5_faultAhead_42 : decode cX5_faultAhead 42 = .ok (.ifCond .lt 11, 3) := by decide +kernel
theorem dX5_faultAhead_45 : decode cX5_faultAhead 45 = .ok (.iload_n 3, 1) := by decide +kernel
theorem dX5_faultAhead_46 : decode cX5_faultAhead 46 = .ok (.aload_n 0, 1) := by decide +kernel
theorem dX5_faultAhead_47 : decode cX5_faultAhead 47 = .ok (.getfield 83, 3) := by decide +kernel
theorem dX5_faultAhead_50 : decode cX5_faultAhead 50 = .ok (.if_icmp .le 7, 3) := by decide +kernel
theorem dX5_faultAhead_53 : decode cX5_faultAhead 53 = .ok (.iconst 4, 1) := by decide +kernel
theorem dX5_faultAhead_54 : decode cX5_faultAhead 54 = .ok (.goto 4, 3) := by decide +kernel
theorem dX5_faultAhead_57 : decode cX5_faultAhead 57 = .ok (.iconst 0, 1) := by decide +kernel
theorem dX5_faultAhead_58 : decode cX5_faultAhead 58 = .ok (.ireturn, 1) := by decide +kernel
theorem dX6_init_0 : decode cX6_init 0 = .ok (.aload_n 0, 1) := by decide +kernel
theorem dX6_init_1 : decode cX6_init 1 = .ok (.invokespecial 1, 3) := by decide +kernel
theorem dX6_init_4 : decode cX6_init 4 = .ok (.aload_n 0, 1) := by decide +kernel
theorem dX6_init_5 : decode cX6_init 5 = .ok (.iconst (-1), 1) := by decide +kernel
theorem dX6_init_6 : decode cX6_init 6 = .ok (.putfield 9, 3) := by decide +kernel
theorem dX6_init_9 : decode cX6_init 9 = .ok (.aload_n 0, 1) := by decide +kernel
theorem dX6_init_10 : decode cX6_init 10 = .ok (.bipush 20, 2) := by decide +kernel
theorem dX6_init_12 : decode cX6_init 12 = .ok (.newarray .boolean, 2) := by decide +kernel
theorem dX6_init_14 : decode cX6_init 14 = .ok (.putfield 13, 3) := by decide +kernel
theorem dX6_init_17 : decode cX6_init 17 = .ok (.aload_n 0, 1) := by decide +kernel
theorem dX6_init_18 : decode cX6_init 18 = .ok (.bipush 8, 2) := by decide +kernel
theorem dX6_init_20 : decode cX6_init 20 = .ok (.newarray .boolean, 2) := by decide +kernel
theorem dX6_init_22 : decode cX6_init 22 = .ok (.putfield 17, 3) := by decide +kernel
theorem dX6_init_25 : decode cX6_init 25 = .ok (.aload_n 0, 1) := by decide +kernel
theorem dX6_init_26 : decode cX6_init 26 = .ok (.bipush 6, 2) := by decide +kernel
theorem dX6_init_28 : decode cX6_init 28 = .ok (.newarray .int, 2) := by decide +kernel
theorem dX6_init_30 : decode cX6_init 30 = .ok (.putfield 20, 3) := by decide +kernel
theorem dX6_init_33 : decode cX6_init 33 = .ok (.aload_n 0, 1) := by decide +kernel
theorem dX6_init_34 : decode cX6_init 34 = .ok (.bipush 60, 2) := by decide +kernel
theorem dX6_init_36 : decode cX6_init 36 = .ok (.newarray .int, 2) := by decide +kernel
theorem dX6_init_38 : decode cX6_init 38 = .ok (.putfield 24, 3) := by decide +kernel
theorem dX6_init_41 : decode cX6_init 41 = .ok (.aload_n 0, 1) := by decide +kernel
theorem dX6_init_42 : decode cX6_init 42 = .ok (.bipush 60, 2) := by decide +kernel
theorem dX6_init_44 : decode cX6_init 44 = .ok (.newarray .int, 2) := by decide +kernel
theorem dX6_init_46 : decode cX6_init 46 = .ok (.putfield 27, 3) := by decide +kernel
theorem dX6_init_49 : decode cX6_init 49 = .ok (.aload_n 0, 1) := by decide +kernel
theorem dX6_init_50 : decode cX6_init 50 = .ok (.sipush 3208, 3) := by decide +kernel
theorem dX6_init_53 : decode cX6_init 53 = .ok (.newarray .int, 2) := by decide +kernel
theorem dX6_init_55 : decode cX6_init 55 = .ok (.putfield 30, 3) := by decide +kernel
theorem dX6_init_58 : decode cX6_init 58 = .ok (.aload_n 0, 1) := by decide +kernel
theorem dX6_init_59 : decode cX6_init 59 = .ok (.sipush 3208, 3) := by decide +kernel
theorem dX6_init_62 : decode cX6_init 62 = .ok (.newarray .int, 2) := by decide +kernel
theorem dX6_init_64 : decode cX6_init 64 = .ok (.putfield 33, 3) := by decide +kernel
theorem dX6_init_67 : decode cX6_init 67 = .ok (.aload_n 0, 1) := by decide +kernel
theorem dX6_init_68 : decode cX6_init 68 = .ok (.sipush 420, 3) := by decide +kernel
theorem dX6_init_71 : decode cX6_init 71 = .ok (.newarray .int, 2) := by decide +kernel
theorem dX6_init_73 : decode cX6_init 73 = .ok (.putfield 36, 3) := by decide +kernel
theorem dX6_init_76 : decode cX6_init 76 = .ok (.aload_n 0, 1) := by decide +kernel
theorem dX6_init_77 : decode cX6_init 77 = .ok (.iconst (-1), 1) := by decide +kernel
theorem dX6_init_78 : decode cX6_init 78 = .ok (.putfield 39, 3) := by decide +kernel
theorem dX6_init_81 : decode cX6_init 81 = .ok (.aload_n 0, 1) := by decide +kernel
theorem dX6_init_82 : decode cX6_init 82 = .ok (.iconst (-1), 1) := by decide +kernel
theorem dX6_init_83 : decode cX6_init 83 = .ok (.putfield 42, 3) := by decide +kernel
theorem dX6_init_86 : decode cX6_init 86 = .ok (.aload_n 0, 1) := by decide +kernel
theorem dX6_init_87 : decode cX6_init 87 = .ok (.bipush 60, 2) := by decide +kernel
theorem dX6_init_89 : decode cX6_init 89 = .ok (.newarray .int, 2) := by decide +kernel
theorem dX6_init_91 : decode cX6_init 91 = .ok (.putfield 45, 3) := by decide +kernel
theorem dX6_init_94 : decode cX6_init 94 = .ok (.aload_n 0, 1) := by decide +kernel
theorem dX6_init_95 : decode cX6_init 95 = .ok (.bipush 60, 2) := by decide +kernel
theorem dX6_init_97 : decode cX6_init 97 = .ok (.newarray .int, 2) := by decide +kernel
theorem dX6_init_99 : decode cX6_init 99 = .ok (.putfield 48, 3) := by decide +kernel
theorem dX6_init_102 : decode cX6_init 102 = .ok (.aload_n 0, 1) := by decide +kernel
theorem dX6_init_103 : decode cX6_init 103 = .ok (.bipush 60, 2) := by decide +kernel
theorem dX6_init_105 : decode cX6_init 105 = .ok (.newarray .int, 2) := by decide +kernel
theorem dX6_init_107 : decode cX6_init 107 = .ok (.putfield 51, 3) := by decide +kernel
theorem dX6_init_110 : decode cX6_init 110 = .ok (.aload_n 0, 1) := by decide +kernel
theorem dX6_init_111 : decode cX6_init 111 = .ok (.bipush 60, 2) := by decide +kernel
theorem dX6_init_113 : decode cX6_init 113 = .ok (.newarray .int, 2) := by decide +kernel
theorem dX6_init_115 : decode cX6_init 115 = .ok (.putfield 54, 3) := by decide +kernel
theorem dX6_init_118 : decode cX6_init 118 = .ok (.aload_n 0, 1) := by decide +kernel
theorem dX6_init_119 : decode cX6_init 119 = .ok (.bipush 60, 2) := by decide +kernel
theorem dX6_init_121 : decode cX6_init 121 = .ok (.newarray .int, 2) := by decide +kernel
theorem dX6_init_123 : decode cX6_init 123 = .ok (.putfield 57, 3) := by decide +kernel
theorem dX6_init_126 : decode cX6_init 126 = .ok (.aload_n 0, 1) := by decide +kernel
theorem dX6_init_127 : decode cX6_init 127 = .ok (.bipush 60, 2) := by decide +kernel
theorem dX6_init_129 : decode cX6_init 129 = .ok (.newarray .int, 2) := by decide +kernel
theorem dX6_init_131 : decode cX6_init 131 = .ok (.putfield 60, 3) := by decide +kernel
theorem dX6_init_134 : decode cX6_init 134 = .ok (.aload_n 0, 1) := by decide +kernel
theorem dX6_init_135 : decode cX6_init 135 = .ok (.bipush 60, 2) := by decide +kernel
theorem dX6_init_137 : decode cX6_init 137 = .ok (.newarray .boolean, 2) := by decide +kernel
theorem dX6_init_139 : decode cX6_init 139 = .ok (.putfield 63, 3) := by decide +kernel
theorem dX6_init_142 : decode cX6_init 142 = .ok (.aload_n 0, 1) := by decide +kernel
theorem dX6_init_143 : decode cX6_init 143 = .ok (.bipush 60, 2) := by decide +kernel
theorem dX6_init_145 : decode cX6_init 145 = .ok (.newarray .int, 2) := by decide +kernel
theorem dX6_init_147 : decode cX6_init 147 = .ok (.putfield 66, 3) := by decide +kernel
theorem dX6_init_150 : decode cX6_init 150 = .ok (.aload_n 0, 1) := by decide +kernel
theorem dX6_init_151 : decode cX6_init 151 = .ok (.bipush 60, 2) := by decide +kernel
theorem dX6_init_153 : decode cX6_init 153 = .ok (.newarray .int, 2) := by decide +kernel
theorem dX6_init_155 : decode cX6_init 155 = .ok (.putfield 69, 3) := by decide +kernel
theorem dX6_init_158 : decode cX6_init 158 = .ok (.aload_n 0, 1) := by decide +kernel
theorem dX6_init_159 : decode cX6_init 159 = .ok (.bipush 60, 2) := by decide +kernel
theorem dX6_init_161 : decode cX6_init 161 = .ok (.newarray .boolean, 2) := by decide +kernel
theorem dX6_init_163 : decode cX6_init 163 = .ok (.putfield 72, 3) := by decide +kernel
theorem dX6_init_166 : decode cX6_init 166 = .ok (.aload_n 0, 1) := by decide +kernel
theorem dX6_init_167 : decode cX6_init 167 = .ok (.sipush 600, 3) := by decide +kernel
theorem dX6_init_170 : decode cX6_init 170 = .ok (.newarray .boolean, 2) := by decide +kernel
theorem dX6_init_172 : decode cX6_init 172 = .ok (.putfield 75, 3) := by decide +kernel
theorem dX6_init_175 : decode cX6_init 175 = .ok (.aload_n 0, 1) := by decide +kernel
theorem dX6_init_176 : decode cX6_init 176 = .ok (.sipush 401, 3) := by decide +kernel
theorem dX6_init_179 : decode cX6_init 179 = .ok (.newarray .int, 2) := by decide +kernel
theorem dX6_init_181 : decode cX6_init 181 = .ok (.putfield 78, 3) := by decide +kernel
theorem dX6_init_184 : decode cX6_init 184 = .ok (.aload_n 0, 1) := by decide +kernel
theorem dX6_init_185 : decode cX6_init 185 = .ok (.sipush 800, 3) := by decide +kernel
theorem dX6_init_188 : decode cX6_init 188 = .ok (.newarray .int, 2) := by decide +kernel
theorem dX6_init_190 : decode cX6_init 190 = .ok (.putfield 81, 3) := by decide +kernel
theorem dX6_init_193 : decode cX6_init 193 = .ok (.aload_n 0, 1) := by decide +kernel
theorem dX6_init_194 : decode cX6_init 194 = .ok (.bipush 60, 2) := by decide +kernel
theorem dX6_init_196 : decode cX6_init 196 = .ok (.newarray .int, 2) := by decide +kernel
theorem dX6_init_198 : decode cX6_init 198 = .ok (.putfield 84, 3) := by decide +kernel
theorem dX6_init_201 : decode cX6_init 201 = .ok (.aload_n 0, 1) := by decide +kernel
theorem dX6_init_202 : decode cX6_init 202 = .ok (.bipush 60, 2) := by decide +kernel
theorem dX6_init_204 : decode cX6_init 204 = .ok (.newarray .int, 2) := by decide +kernel
theorem dX6_init_206 : decode cX6_init 206 = .ok (.putfield 87, 3) := by decide +kernel
theorem dX6_init_209 : decode cX6_init 209 = .ok (.iconst 0, 1) := by decide +kernel
theorem dX6_init_210 : decode cX6_init 210 = .ok (.istore_n 1, 1) := by decide +kernel
theorem dX6_init_211 : decode cX6_init 211 = .ok (.iload_n 1, 1) := by decide +kernel
theorem dX6_init_212 : decode cX6_init 212 = .ok (.bipush 6, 2) := by decide +kernel
theorem dX6_init_214 : decode cX6_init 214 = .ok (.if_icmp .ge 16, 3) := by decide +kernel
theorem dX6_init_217 : decode cX6_init 217 = .ok (.aload_n 0, 1) := by decide +kernel
theorem dX6_init_218 : decode cX6_init 218 = .ok (.getfield 20, 3) := by decide +kernel
theorem dX6_init_221 : decode cX6_init 221 = .ok (.iload_n 1, 1) := by decide +kernel
theorem dX6_init_222 : decode cX6_init 222 = .ok (.iconst (-1), 1) := by decide +kernel
theorem dX6_init_223 : decode cX6_init 223 = .ok (.iastore, 1) := by decide +kernel
theorem dX6_init_224 : decode cX6_init 224 = .ok (.iinc 1 1, 3) := by decide +kernel
theorem dX6_init_227 : decode cX6_init 227 = .ok (.goto (-16), 3) := by decide +kernel
theorem dX6_init_230 : decode cX6_init 230 = .ok (.aload_n 0, 1) := by decide +kernel
theorem dX6_init_231 : decode cX6_init 231 = .ok (.invokevirtual 90, 3) := by decide +kernel
theorem dX6_init_234 : decode cX6_init 234 = .ok (.return_, 1) := by decide +kernel
theorem dX6_isIn_0 : decode cX6_isIn 0 = .ok (.iload_n 0, 1) := by decide +kernel
theorem dX6_isIn_1 : decode cX6_isIn 1 = .ok (.iload_n 1, 1) := by decide +kernel
theorem dX6_isIn_2 : decode cX6_isIn 2 = .ok (.if_icmp .lt 12, 3) := by decide +kernel
theorem dX6_isIn_5 : decode cX6_isIn 5 = .ok (.iload_n 0, 1) := by decide +kernel
theorem dX6_isIn_6 : decode cX6_isIn 6 = .ok (.iload_n 2, 1) := by decide +kernel
theorem dX6_isIn_7 : decode cX6_isIn 7 = .ok (.if_icmp .gt 7, 3) := by decide +kernel
theorem dX6_isIn_10 : decode cX6_isIn 10 = .ok (.iconst 1, 1) := by decide +kernel
theorem dX6_isIn_11 : decode cX6_isIn 11 = .ok (.goto 4, 3) := by decide +kernel
theorem dX6_isIn_14 : decode cX6_isIn 14 = .ok (.iconst 0, 1) := by decide +kernel
theorem dX6_isIn_15 : decode cX6_isIn 15 = .ok (.ireturn, 1) := by decide +kernel
theorem dX6_begin_0 : decode cX6_begin 0 = .ok (.iconst 0, 1) := by decide +kernel
theorem dX6_begin_1 : decode cX6_begin 1 = .ok (.istore_n 1, 1) := by decide +kernel
theorem dX6_begin_2 : decode cX6_begin 2 = .ok (.iload_n 1, 1) := by decide +kernel
theorem dX6_begin_3 : decode cX6_begin 3 = .ok (.bipush 60, 2) := by decide +kernel
theorem dX6_begin_5 : decode cX6_begin 5 = .ok (.if_icmp .ge 84, 3) := by decide +kernel
theorem dX6_begin_8 : decode cX6_begin 8 = .ok (.aload_n 0, 1) := by decide +kernel
theorem dX6_begin_9 : decode cX6_begin 9 = .ok (.getfield 45, 3) := by decide +kernel
theorem dX6_begin_12 : decode cX6_begin 12 = .ok (.iload_n 1, 1) := by decide +kernel
theorem dX6_begin_13 : decode cX6_begin 13 = .ok (.iconst 0, 1) := by decide +kernel
theorem dX6_begin_14 : decode cX6_begin 14 = .ok (.iastore, 1) := by decide +kernel
theorem dX6_begin_15 : decode cX6_begin 15 = .ok (.aload_n 0, 1) := by decide +kernel
theorem dX6_begin_16 : decode cX6_begin 16 = .ok (.getfield 48, 3) := by decide +kernel
theorem dX6_begin_19 : decode cX6_begin 19 = .ok (.iload_n 1, 1) := by decide +kernel
theorem dX6_begin_20 : decode cX6_begin 20 = .ok (.iconst (-1), 1) := by decide +kernel
theorem dX6_begin_21 : decode cX6_begin 21 = .ok (.iastore, 1) := by decide +kernel
theorem dX6_begin_22 : decode cX6_begin 22 = .ok (.aload_n 0, 1) := by decide +kernel
theorem dX6_begin_23 : decode cX6_begin 23 = .ok (.getfield 51, 3) := by decide +kernel
theorem dX6_begin_26 : decode cX6_begin 26 = .ok (.iload_n 1, 1) := by decide +kernel
theorem dX6_begin_27 : decode cX6_begin 27 = .ok (.aload_n 0, 1) := by decide +kernel
theorem dX6_begin_28 : decode cX6_begin 28 = .ok (.getfield 27, 3) := by decide +kernel
theorem dX6_begin_31 : decode cX6_begin 31 = .ok (.iload_n 1, 1) := by decide +kernel
theorem dX6_begin_32 : decode cX6_begin 32 = .ok (.iaload, 1) := by decide +kernel
theorem dX6_begin_33 : decode cX6_begin 33 = .ok (.iastore, 1) := by decide +kernel
theorem dX6_begin_34 : decode cX6_begin 34 = .ok (.aload_n 0, 1) := by decide +kernel
theorem dX6_begin_35 : decode cX6_begin 35 = .ok (.getfield 54, 3) := by decide +kernel
theorem dX6_begin_38 : decode cX6_begin 38 = .ok (.iload_n 1, 1) := by decide +kernel
theorem dX6_begin_39 : decode cX6_begin 39 = .ok (.iconst (-1), 1) := by decide +kernel
theorem dX6_begin_40 : decode cX6_begin 40 = .ok (.iastore, 1) := by decide +kernel
theorem dX6_begin_41 : decode cX6_begin 41 = .ok (.aload_n 0, 1) := by decide +kernel
theorem dX6_begin_42 : decode cX6_begin 42 = .ok (.getfield 57, 3) := by decide +kernel
theorem dX6_begin_45 : decode cX6_begin 45 = .ok (.iload_n 1, 1) := by decide +kernel
theorem dX6_begin_46 : decode cX6_begin 46 = .ok (.iconst (-1), 1) := by decide +kernel
theorem dX6_begin_47 : decode cX6_begin 47 = .ok (.iastore, 1) := by decide +kernel
theorem dX6_begin_48 : decode cX6_begin 48 = .ok (.aload_n 0, 1) := by decide +kernel
theorem dX6_begin_49 : decode cX6_begin 49 = .ok (.getfield 60, 3) := by decide +kernel
theorem dX6_begin_52 : decode cX6_begin 52 = .ok (.iload_n 1, 1) := by decide +kernel
theorem dX6_begin_53 : decode cX6_begin 53 = .ok (.iconst (-1), 1) := by decide +kernel
theorem dX6_begin_54 : decode cX6_begin 54 = .ok (.iastore, 1) := by decide +kernel
theorem dX6_begin_55 : decode cX6_begin 55 = .ok (.aload_n 0, 1) := by decide +kernel
theorem dX6_begin_56 : decode cX6_begin 56 = .ok (.getfield 63, 3) := by decide +kernel
theorem dX6_begin_59 : decode cX6_begin 59 = .ok (.iload_n 1, 1) := by decide +kernel
theorem dX6_begin_60 : decode cX6_begin 60 = .ok (.iconst 0, 1) := by decide +kernel
theorem dX6_begin_61 : decode cX6_begin 61 = .ok (.bastore, 1) := by decide +kernel
theorem dX6_begin_62 : decode cX6_begin 62 = .ok (.aload_n 0, 1) := by decide +kernel
theorem dX6_begin_63 : decode cX6_begin 63 = .ok (.getfield 66, 3) := by decide +kernel
theorem dX6_begin_66 : decode cX6_begin 66 = .ok (.iload_n 1, 1) := by decide +kernel
theorem dX6_begin_67 : decode cX6_begin 67 = .ok (.iconst 0, 1) := by decide +kernel
theorem dX6_begin_68 : decode cX6_begin 68 = .ok (.iastore, 1) := by decide +kernel
theorem dX6_begin_69 : decode cX6_begin 69 = .ok (.aload_n 0, 1) := by decide +kernel
theorem dX6_begin_70 : decode cX6_begin 70 = .ok (.getfield 69, 3) := by decide +kernel
theorem dX6_begin_73 : decode cX6_begin 73 = .ok (.iload_n 1, 1) := by decide +kernel
theorem dX6_begin_74 : decode cX6_begin 74 = .ok (.iconst (-1), 1) := by decide +kernel
theorem dX6_begin_75 : decode cX6_begin 75 = .ok (.iastore, 1) := by decide +kernel
theorem dX6_begin_76 : decode cX6_begin 76 = .ok (.aload_n 0, 1) := by decide +kernel
theorem dX6_begin_77 : decode cX6_begin 77 = .ok (.getfield 72, 3) := by decide +kernel
theorem dX6_begin_80 : decode cX6_begin 80 = .ok (.iload_n 1, 1) := by decide +kernel
theorem dX6_begin_81 : decode cX6_begin 81 = .ok (.iconst 0, 1) := by decide +kernel
theorem dX6_begin_82 : decode cX6_begin 82 = .ok (.bastore, 1) := by decide +kernel
theorem dX6_begin_83 : decode cX6_begin 83 = .ok (.iinc 1 1, 3) := by decide +kernel
theorem dX6_begin_86 : decode cX6_begin 86 = .ok (.goto (-84), 3) := by decide +kernel
theorem dX6_begin_89 : decode cX6_begin 89 = .ok (.iconst 0, 1) := by decide +kernel
theorem dX6_begin_90 : decode cX6_begin 90 = .ok (.istore_n 1, 1) := by decide +kernel
theorem dX6_begin_91 : decode cX6_begin 91 = .ok (.iload_n 1, 1) := by decide +kernel
theorem dX6_begin_92 : decode cX6_begin 92 = .ok (.sipush 600, 3) := by decide +kernel
theorem dX6_begin_95 : decode cX6_begin 95 = .ok (.if_icmp .ge 16, 3) := by decide +kernel
theorem dX6_begin_98 : decode cX6_begin 98 = .ok (.aload_n 0, 1) := by decide +kernel
theorem dX6_begin_99 : decode cX6_begin 99 = .ok (.getfield 75, 3) := by decide +kernel
theorem dX6_begin_102 : decode cX6_begin 102 = .ok (.iload_n 1, 1) := by decide +kernel
theorem dX6_begin_103 : decode cX6_begin 103 = .ok (.iconst 0, 1) := by decide +kernel
theorem dX6_begin_104 : decode cX6_begin 104 = .ok (.bastore, 1) := by decide +kernel
theorem dX6_begin_105 : decode cX6_begin 105 = .ok (.iinc 1 1, 3) := by decide +kernel
theorem dX6_begin_108 : decode cX6_begin 108 = .ok (.goto (-17), 3) := by decide +kernel
theorem dX6_begin_111 : decode cX6_begin 111 = .ok (.return_, 1) := by decide +kernel
theorem dX6_isBag_0 : decode cX6_isBag 0 = .ok (.aload_n 0, 1) := by decide +kernel
theorem dX6_isBag_1 : decode cX6_isBag 1 = .ok (.getfield 24, 3) := by decide +kernel
theorem dX6_isBag_4 : decode cX6_isBag 4 = .ok (.iload_n 1, 1) := by decide +kernel
theorem dX6_isBag_5 : decode cX6_isBag 5 = .ok (.iaload, 1) := by decide +kernel
theorem dX6_isBag_6 : decode cX6_isBag 6 = .ok (.iconst 1, 1) := by decide +kernel
theorem dX6_isBag_7 : decode cX6_isBag 7 = .ok (.if_icmp .eq 13, 3) := by decide +kernel
theorem dX6_isBag_10 : decode cX6_isBag 10 = .ok (.aload_n 0, 1) := by decide +kernel
theorem dX6_isBag_11 : decode cX6_isBag 11 = .ok (.getfield 24, 3) := by decide +kernel
theorem dX6_isBag_14 : decode cX6_isBag 14 = .ok (.iload_n 1, 1) := by decide +kernel
theorem dX6_isBag_15 : decode cX6_isBag 15 = .ok (.iaload, 1) := by decide +kernel
theorem dX6_isBag_16 : decode cX6_isBag 16 = .ok (.iconst 3, 1) := by decide +kernel
theorem dX6_isBag_17 : decode cX6_isBag 17 = .ok (.if_icmp .le 7, 3) := by decide +kernel
theorem dX6_isBag_20 : decode cX6_isBag 20 = .ok (.iconst 1, 1) := by decide +kernel
theorem dX6_isBag_21 : decode cX6_isBag 21 = .ok (.goto 4, 3) := by decide +kernel
theorem dX6_isBag_24 : decode cX6_isBag 24 = .ok (.iconst 0, 1) := by decide +kernel
theorem dX6_isBag_25 : decode cX6_isBag 25 = .ok (.ireturn, 1) := by decide +kernel
theorem dX6_isKept_0 : decode cX6_isKept 0 = .ok (.iload_n 1, 1) := by decide +kernel
theorem dX6_isKept_1 : decode cX6_isKept 1 = .ok (.iconst 0, 1) := by decide +kernel
theorem dX6_isKept_2 : decode cX6_isKept 2 = .ok (.aload_n 0, 1) := by decide +kernel
theorem dX6_isKept_3 : decode cX6_isKept 3 = .ok (.getfield 93, 3) := by decide +kernel
theorem dX6_isKept_6 : decode cX6_isKept 6 = .ok (.iconst 1, 1) := by decide +kernel
theorem dX6_isKept_7 : decode cX6_isKept 7 = .ok (.isub, 1) := by decide +kernel
theorem dX6_isKept_8 : decode cX6_isKept 8 = .ok (.invokestatic 96, 3) := by decide +kernel
theorem dX6_isKept_11 : decode cX6_isKept 11 = .ok (.ifCond .eq 26, 3) := by decide +kernel
theorem dX6_isKept_14 : decode cX6_isKept 14 = .ok (.aload_n 0, 1) := by decide +kernel
theorem dX6_isKept_15 : decode cX6_isKept 15 = .ok (.getfield 45, 3) := by decide +kernel
theorem dX6_isKept_18 : decode cX6_isKept 18 = .ok (.iload_n 1, 1) := by decide +kernel
theorem dX6_isKept_19 : decode cX6_isKept 19 = .ok (.iaload, 1) := by decide +kernel
theorem dX6_isKept_20 : decode cX6_isKept 20 = .ok (.ifCond .eq 17, 3) := by decide +kernel
theorem dX6_isKept_23 : decode cX6_isKept 23 = .ok (.aload_n 0, 1) := by decide +kernel
theorem dX6_isKept_24 : decode cX6_isKept 24 = .ok (.getfield 45, 3) := by decide +kernel
theorem dX6_isKept_27 : decode cX6_isKept 27 = .ok (.iload_n 1, 1) := by decide +kernel
theorem dX6_isKept_28 : decode cX6_isKept 28 = .ok (.iaload, 1) := by decide +kernel
theorem dX6_isKept_29 : decode cX6_isKept 29 = .ok (.iconst 4, 1) := by decide +kernel
theorem dX6_isKept_30 : decode cX6_isKept 30 = .ok (.if_icmp .eq 7, 3) := by decide +kernel
theorem dX6_isKept_33 : decode cX6_isKept 33 = .ok (.iconst 1, 1) := by decide +kernel
theorem dX6_isKept_34 : decode cX6_isKept 34 = .ok (.goto 4, 3) := by decide +kernel
theorem dX6_isKept_37 : decode cX6_isKept 37 = .ok (.iconst 0, 1) := by decide +kernel
theorem dX6_isKept_38 : decode cX6_isKept 38 = .ok (.ireturn, 1) := by decide +kernel
theorem dX6_isKeeper_0 : decode cX6_isKeeper 0 = .ok (.iload_n 1, 1) := by decide +kernel
theorem dX6_isKeeper_1 : decode cX6_isKeeper 1 = .ok (.iconst 0, 1) := by decide +kernel
theorem dX6_isKeeper_2 : decode cX6_isKeeper 2 = .ok (.aload_n 0, 1) := by decide +kernel
theorem dX6_isKeeper_3 : decode cX6_isKeeper 3 = .ok (.getfield 100, 3) := by decide +kernel
theorem dX6_isKeeper_6 : decode cX6_isKeeper 6 = .ok (.iconst 1, 1) := by decide +kernel
theorem dX6_isKeeper_7 : decode cX6_isKeeper 7 = .ok (.isub, 1) := by decide +kernel
theorem dX6_isKeeper_8 : decode cX6_isKeeper 8 = .ok (.invokestatic 96, 3) := by decide +kernel
theorem dX6_isKeeper_11 : decode cX6_isKeeper 11 = .ok (.ifCond .eq 16, 3) := by decide +kernel
theorem dX6_isKeeper_14 : decode cX6_isKeeper 14 = .ok (.aload_n 0, 1) := by decide +kernel
theorem dX6_isKeeper_15 : decode cX6_isKeeper 15 = .ok (.getfield 13, 3) := by decide +kernel
theorem dX6_isKeeper_18 : decode cX6_isKeeper 18 = .ok (.iload_n 1, 1) := by decide +kernel
theorem dX6_isKeeper_19 : decode cX6_isKeeper 19 = .ok (.baload, 1) := by decide +kernel
theorem dX6_isKeeper_20 : decode cX6_isKeeper 20 = .ok (.ifCond .eq 7, 3) := by decide +kernel
theorem dX6_isKeeper_23 : decode cX6_isKeeper 23 = .ok (.iconst 1, 1) := by decide +kernel
theorem dX6_isKeeper_24 : decode cX6_isKeeper 24 = .ok (.goto 4, 3) := by decide +kernel
theorem dX6_isKeeper_27 : decode cX6_isKeeper 27 = .ok (.iconst 0, 1) := by decide +kernel
theorem dX6_isKeeper_28 : decode cX6_isKeeper 28 = .ok (.ireturn, 1) := by decide +kernel
theorem dX6_isHand_0 : decode cX6_isHand 0 = .ok (.iload_n 1, 1) := by decide +kernel
theorem dX6_isHand_1 : decode cX6_isHand 1 = .ok (.iconst 0, 1) := by decide +kernel
theorem dX6_isHand_2 : decode cX6_isHand 2 = .ok (.aload_n 0, 1) := by decide +kernel
theorem dX6_isHand_3 : decode cX6_isHand 3 = .ok (.getfield 100, 3) := by decide +kernel
theorem dX6_isHand_6 : decode cX6_isHand 6 = .ok (.iconst 1, 1) := by decide +kernel
theorem dX6_isHand_7 : decode cX6_isHand 7 = .ok (.isub, 1) := by decide +kernel
theorem dX6_isHand_8 : decode cX6_isHand 8 = .ok (.invokestatic 96, 3) := by decide +kernel
theorem dX6_isHand_11 : decode cX6_isHand 11 = .ok (.ireturn, 1) := by decide +kernel
theorem dX6_isEmpty_0 : decode cX6_isEmpty 0 = .ok (.iload_n 1, 1) := by decide +kernel
theorem dX6_isEmpty_1 : decode cX6_isEmpty 1 = .ok (.iconst 0, 1) := by decide +kernel
theorem dX6_isEmpty_2 : decode cX6_isEmpty 2 = .ok (.bipush 12, 2) := by decide +kernel
theorem dX6_isEmpty_4 : decode cX6_isEmpty 4 = .ok (.aload_n 0, 1) := by decide +kernel
theorem dX6_isEmpty_5 : decode cX6_isEmpty 5 = .ok (.getfield 103, 3) := by decide +kernel
theorem dX6_isEmpty_8 : decode cX6_isEmpty 8 = .ok (.imul, 1) := by decide +kernel
theorem dX6_isEmpty_9 : decode cX6_isEmpty 9 = .ok (.iconst 1, 1) := by decide +kernel
theorem dX6_isEmpty_10 : decode cX6_isEmpty 10 = .ok (.isub, 1) := by decide +kernel
theorem dX6_isEmpty_11 : decode cX6_isEmpty 11 = .ok (.invokestatic 96, 3) := by decide +kernel
theorem dX6_isEmpty_14 : decode cX6_isEmpty 14 = .ok (.ifCond .ne 5, 3) := by decide +kernel
theorem dX6_isEmpty_17 : decode cX6_isEmpty 17 = .ok (.iconst 0, 1) := by decide +kernel
theorem dX6_isEmpty_18 : decode cX6_isEmpty 18 = .ok (.ireturn, 1) := by decide +kernel
theorem dX6_isEmpty_19 : decode cX6_isEmpty 19 = .ok (.iconst 0, 1) := by decide +kernel
theorem dX6_isEmpty_20 : decode cX6_isEmpty 20 = .ok (.istore_n 2, 1) := by decide +kernel
theorem dX6_isEmpty_21 : decode cX6_isEmpty 21 = .ok (.iload_n 2, 1) := by decide +kernel
theorem dX6_isEmpty_22 : decode cX6_isEmpty 22 = .ok (.aload_n 0, 1) := by decide +kernel
theorem dX6_isEmpty_23 : decode cX6_isEmpty 23 = .ok (.getfield 93, 3) := by decide +kernel
theorem dX6_isEmpty_26 : decode cX6_isEmpty 26 = .ok (.if_icmp .ge 31, 3) := by decide +kernel
theorem dX6_isEmpty_29 : decode cX6_isEmpty 29 = .ok (.aload_n 0, 1) := by decide +kernel
theorem dX6_isEmpty_30 : decode cX6_isEmpty 30 = .ok (.getfield 45, 3) := by decide +kernel
theorem dX6_isEmpty_33 : decode cX6_isEmpty 33 = .ok (.iload_n 2, 1) := by decide +kernel
theorem dX6_isEmpty_34 : decode cX6_isEmpty 34 = .ok (.iaload, 1) := by decide +kernel
theorem dX6_isEmpty_35 : decode cX6_isEmpty 35 = .ok (.iconst 1, 1) := by decide +kernel
theorem dX6_isEmpty_36 : decode cX6_isEmpty 36 = .ok (.if_icmp .ne 15, 3) := by decide +kernel
theorem dX6_isEmpty_39 : decode cX6_isEmpty 39 = .ok (.aload_n 0, 1) := by decide +kernel
theorem dX6_isEmpty_40 : decode cX6_isEmpty 40 = .ok (.getfield 48, 3) := by decide +kernel
theorem dX6_isEmpty_43 : decode cX6_isEmpty 43 = .ok (.iload_n 2, 1) := by decide +kernel
theorem dX6_isEmpty_44 : decode cX6_isEmpty 44 = .ok (.iaload, 1) := by decide +kernel
theorem dX6_isEmpty_45 : decode cX6_isEmpty 45 = .ok (.iload_n 1, 1) := by decide +kernel
theorem dX6_isEmpty_46 : decode cX6_isEmpty 46 = .ok (.if_icmp .ne 5, 3) := by decide +kernel
theorem dX6_isEmpty_49 : decode cX6_isEmpty 49 = .ok (.iconst 0, 1) := by decide +kernel
theorem dX6_isEmpty_50 : decode cX6_isEmpty 50 = .ok (.ireturn, 1) := by decide +kernel
theorem dX6_isEmpty_51 : decode cX6_isEmpty 51 = .ok (.iinc 2 1, 3) := by decide +kernel
theorem dX6_isEmpty_54 : decode cX6_isEmpty 54 = .ok (.goto (-33), 3) := by decide +kernel
theorem dX6_isEmpty_57 : decode cX6_isEmpty 57 = .ok (.iconst 1, 1) := by decide +kernel
theorem dX6_isEmpty_58 : decode cX6_isEmpty 58 = .ok (.ireturn, 1) := by decide +kernel
theorem dX6_fits_0 : decode cX6_fits 0 = .ok (.aload_n 0, 1) := by decide +kernel
theorem dX6_fits_1 : decode cX6_fits 1 = .ok (.iload_n 2, 1) := by decide +kernel
theorem dX6_fits_2 : decode cX6_fits 2 = .ok (.invokevirtual 106, 3) := by decide +kernel
theorem dX6_fits_5 : decode cX6_fits 5 = .ok (.ifCond .eq 29, 3) := by decide +kernel
theorem dX6_fits_8 : decode cX6_fits 8 = .ok (.aload_n 0, 1) := by decide +kernel
theorem dX6_fits_9 : decode cX6_fits 9 = .ok (.getfield 24, 3) := by decide +kernel
theorem dX6_fits_12 : decode cX6_fits 12 = .ok (.iload_n 1, 1) := by decide +kernel
theorem dX6_fits_13 : decode cX6_fits 13 = .ok (.iaload, 1) := by decide +kernel
theorem dX6_fits_14 : decode cX6_fits 14 = .ok (.iconst 4, 1) := by decide +kernel
theorem dX6_fits_15 : decode cX6_fits 15 = .ok (.if_icmp .ne 15, 3) := by decide +kernel
theorem dX6_fits_18 : decode cX6_fits 18 = .ok (.aload_n 0, 1) := by decide +kernel
theorem dX6_fits_19 : decode cX6_fits 19 = .ok (.getfield 17, 3) := by decide +kernel
theorem dX6_fits_22 : decode cX6_fits 22 = .ok (.iload_n 2, 1) := by decide +kernel
theorem dX6_fits_23 : decode cX6_fits 23 = .ok (.bipush 12, 2) := by decide +kernel
theorem dX6_fits_25 : decode cX6_fits 25 = .ok (.idiv, 1) := by decide +kernel
theorem dX6_fits_26 : decode cX6_fits 26 = .ok (.baload, 1) := by decide +kernel
theorem dX6_fits_27 : decode cX6_fits 27 = .ok (.ifCond .eq 7, 3) := by decide +kernel
theorem dX6_fits_30 : decode cX6_fits 30 = .ok (.iconst 1, 1) := by decide +kernel
theorem dX6_fits_31 : decode cX6_fits 31 = .ok (.goto 4, 3) := by decide +kernel
theorem dX6_fits_34 : decode cX6_fits 34 = .ok (.iconst 0, 1) := by decide +kernel
theorem dX6_fits_35 : decode cX6_fits 35 = .ok (.ireturn, 1) := by decide +kernel

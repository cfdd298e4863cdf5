theorem dX7_seesCovered_20 : decode cX7_seesCovered 20 = .ok (.invokevirtual 44, 3) := by decide +kernel
theorem dX7_seesCovered_23 : decode cX7_seesCovered 23 = .ok (.aload_n 0, 1) := by decide +kernel
theorem dX7_seesCovered_24 : decode cX7_seesCovered 24 = .ok (.getfield 12, 3) := by decide +kernel
theorem dX7_seesCovered_27 : decode cX7_seesCovered 27 = .ok (.iconst 1, 1) := by decide +kernel
theorem dX7_seesCovered_28 : decode cX7_seesCovered 28 = .ok (.invokevirtual 50, 3) := by decide +kernel
theorem dX7_seesCovered_31 : decode cX7_seesCovered 31 = .ok (.ireturn, 1) := by decide +kernel
theorem dX7_bestCovers_0 : decode cX7_bestCovers 0 = .ok (.iconst 0, 1) := by decide +kernel
theorem dX7_bestCovers_1 : decode cX7_bestCovers 1 = .ok (.istore_n 3, 1) := by decide +kernel
theorem dX7_bestCovers_2 : decode cX7_bestCovers 2 = .ok (.aload_n 1, 1) := by decide +kernel
theorem dX7_bestCovers_3 : decode cX7_bestCovers 3 = .ok (.iconst 1, 1) := by decide +kernel
theorem dX7_bestCovers_4 : decode cX7_bestCovers 4 = .ok (.invokevirtual 50, 3) := by decide +kernel
theorem dX7_bestCovers_7 : decode cX7_bestCovers 7 = .ok (.istore 4, 2) := by decide +kernel
theorem dX7_bestCovers_9 : decode cX7_bestCovers 9 = .ok (.iconst 0, 1) := by decide +kernel
theorem dX7_bestCovers_10 : decode cX7_bestCovers 10 = .ok (.istore 5, 2) := by decide +kernel
theorem dX7_bestCovers_12 : decode cX7_bestCovers 12 = .ok (.iconst 1, 1) := by decide +kernel
theorem dX7_bestCovers_13 : decode cX7_bestCovers 13 = .ok (.istore 6, 2) := by decide +kernel
theorem dX7_bestCovers_15 : decode cX7_bestCovers 15 = .ok (.iload 6, 2) := by decide +kernel
theorem dX7_bestCovers_17 : decode cX7_bestCovers 17 = .ok (.iconst 1, 1) := by decide +kernel
theorem dX7_bestCovers_18 : decode cX7_bestCovers 18 = .ok (.aload_n 1, 1) := by decide +kernel
theorem dX7_bestCovers_19 : decode cX7_bestCovers 19 = .ok (.getfield 40, 3) := by decide +kernel
theorem dX7_bestCovers_22 : decode cX7_bestCovers 22 = .ok (.getfield 54, 3) := by decide +kernel
theorem dX7_bestCovers_25 : decode cX7_bestCovers 25 = .ok (.ishl, 1) := by decide +kernel
theorem dX7_bestCovers_26 : decode cX7_bestCovers 26 = .ok (.if_icmp .ge 70, 3) := by decide +kernel
theorem dX7_bestCovers_29 : decode cX7_bestCovers 29 = .ok (.aload_n 1, 1) := by decide +kernel
theorem dX7_bestCovers_30 : decode cX7_bestCovers 30 = .ok (.getfield 40, 3) := by decide +kernel
theorem dX7_bestCovers_33 : decode cX7_bestCovers 33 = .ok (.iload 6, 2) := by decide +kernel
theorem dX7_bestCovers_35 : decode cX7_bestCovers 35 = .ok (.invokevirtual 58, 3) := by decide +kernel
theorem dX7_bestCovers_38 : decode cX7_bestCovers 38 = .ok (.istore 7, 2) := by decide +kernel
theorem dX7_bestCovers_40 : decode cX7_bestCovers 40 = .ok (.iload 7, 2) := by decide +kernel
theorem dX7_bestCovers_42 : decode cX7_bestCovers 42 = .ok (.iload_n 2, 1) := by decide +kernel
theorem dX7_bestCovers_43 : decode cX7_bestCovers 43 = .ok (.if_icmp .le 6, 3) := by decide +kernel
theorem dX7_bestCovers_46 : decode cX7_bestCovers 46 = .ok (.goto 44, 3) := by decide +kernel
theorem dX7_bestCovers_49 : decode cX7_bestCovers 49 = .ok (.aload_n 0, 1) := by decide +kernel
theorem dX7_bestCovers_50 : decode cX7_bestCovers 50 = .ok (.aload_n 1, 1) := by decide +kernel
theorem dX7_bestCovers_51 : decode cX7_bestCovers 51 = .ok (.iload 6, 2) := by decide +kernel
theorem dX7_bestCovers_53 : decode cX7_bestCovers 53 = .ok (.invokevirtual 61, 3) := by decide +kernel
theorem dX7_bestCovers_56 : decode cX7_bestCovers 56 = .ok (.istore 8, 2) := by decide +kernel
theorem dX7_bestCovers_58 : decode cX7_bestCovers 58 = .ok (.iload 8, 2) := by decide +kernel
theorem dX7_bestCovers_60 : decode cX7_bestCovers 60 = .ok (.iload 4, 2) := by decide +kernel
theorem dX7_bestCovers_62 : decode cX7_bestCovers 62 = .ok (.if_icmp .lt 17, 3) := by decide +kernel
theorem dX7_bestCovers_65 : decode cX7_bestCovers 65 = .ok (.iload 8, 2) := by decide +kernel
theorem dX7_bestCovers_67 : decode cX7_bestCovers 67 = .ok (.iload 4, 2) := by decide +kernel
theorem dX7_bestCovers_69 : decode cX7_bestCovers 69 = .ok (.if_icmp .ne 21, 3) := by decide +kernel
theorem dX7_bestCovers_72 : decode cX7_bestCovers 72 = .ok (.iload 7, 2) := by decide +kernel
theorem dX7_bestCovers_74 : decode cX7_bestCovers 74 = .ok (.iload 5, 2) := by decide +kernel
theorem dX7_bestCovers_76 : decode cX7_bestCovers 76 = .ok (.if_icmp .ge 14, 3) := by decide +kernel
theorem dX7_bestCovers_79 : decode cX7_bestCovers 79 = .ok (.iload 6, 2) := by decide +kernel
theorem dX7_bestCovers_81 : decode cX7_bestCovers 81 = .ok (.istore_n 3, 1) := by decide +kernel
theorem dX7_bestCovers_82 : decode cX7_bestCovers 82 = .ok (.iload 8, 2) := by decide +kernel
theorem dX7_bestCovers_84 : decode cX7_bestCovers 84 = .ok (.istore 4, 2) := by decide +kernel
theorem dX7_bestCovers_86 : decode cX7_bestCovers 86 = .ok (.iload 7, 2) := by decide +kernel
theorem dX7_bestCovers_88 : decode cX7_bestCovers 88 = .ok (.istore 5, 2) := by decide +kernel
theorem dX7_bestCovers_90 : decode cX7_bestCovers 90 = .ok (.iinc 6 1, 3) := by decide +kernel
theorem dX7_bestCovers_93 : decode cX7_bestCovers 93 = .ok (.goto (-78), 3) := by decide +kernel
theorem dX7_bestCovers_96 : decode cX7_bestCovers 96 = .ok (.iload_n 3, 1) := by decide +kernel
theorem dX7_bestCovers_97 : decode cX7_bestCovers 97 = .ok (.ireturn, 1) := by decide +kernel
theorem dX7_seesWarned_0 : decode cX7_seesWarned 0 = .ok (.aload_n 0, 1) := by decide +kernel
theorem dX7_seesWarned_1 : decode cX7_seesWarned 1 = .ok (.getfield 12, 3) := by decide +kernel
theorem dX7_seesWarned_4 : decode cX7_seesWarned 4 = .ok (.aload_n 1, 1) := by decide +kernel
theorem dX7_seesWarned_5 : decode cX7_seesWarned 5 = .ok (.invokevirtual 18, 3) := by decide +kernel
theorem dX7_seesWarned_8 : decode cX7_seesWarned 8 = .ok (.aload_n 0, 1) := by decide +kernel
theorem dX7_seesWarned_9 : decode cX7_seesWarned 9 = .ok (.getfield 12, 3) := by decide +kernel
theorem dX7_seesWarned_12 : decode cX7_seesWarned 12 = .ok (.getfield 65, 3) := by decide +kernel
theorem dX7_seesWarned_15 : decode cX7_seesWarned 15 = .ok (.invokevirtual 69, 3) := by decide +kernel
theorem dX7_seesWarned_18 : decode cX7_seesWarned 18 = .ok (.aload_n 0, 1) := by decide +kernel
theorem dX7_seesWarned_19 : decode cX7_seesWarned 19 = .ok (.getfield 12, 3) := by decide +kernel
theorem dX7_seesWarned_22 : decode cX7_seesWarned 22 = .ok (.iconst 1, 1) := by decide +kernel
theorem dX7_seesWarned_23 : decode cX7_seesWarned 23 = .ok (.invokevirtual 50, 3) := by decide +kernel
theorem dX7_seesWarned_26 : decode cX7_seesWarned 26 = .ok (.ireturn, 1) := by decide +kernel
theorem dX7_fittingPoints_0 : decode cX7_fittingPoints 0 = .ok (.aload_n 0, 1) := by decide +kernel
theorem dX7_fittingPoints_1 : decode cX7_fittingPoints 1 = .ok (.getfield 12, 3) := by decide +kernel
theorem dX7_fittingPoints_4 : decode cX7_fittingPoints 4 = .ok (.aload_n 1, 1) := by decide +kernel
theorem dX7_fittingPoints_5 : decode cX7_fittingPoints 5 = .ok (.invokevirtual 18, 3) := by decide +kernel
theorem dX7_fittingPoints_8 : decode cX7_fittingPoints 8 = .ok (.aload_n 0, 1) := by decide +kernel
theorem dX7_fittingPoints_9 : decode cX7_fittingPoints 9 = .ok (.getfield 12, 3) := by decide +kernel
theorem dX7_fittingPoints_12 : decode cX7_fittingPoints 12 = .ok (.getfield 74, 3) := by decide +kernel
theorem dX7_fittingPoints_15 : decode cX7_fittingPoints 15 = .ok (.iconst 0, 1) := by decide +kernel
theorem dX7_fittingPoints_16 : decode cX7_fittingPoints 16 = .ok (.iload_n 2, 1) := by decide +kernel
theorem dX7_fittingPoints_17 : decode cX7_fittingPoints 17 = .ok (.iastore, 1) := by decide +kernel
theorem dX7_fittingPoints_18 : decode cX7_fittingPoints 18 = .ok (.aload_n 0, 1) := by decide +kernel
theorem dX7_fittingPoints_19 : decode cX7_fittingPoints 19 = .ok (.getfield 12, 3) := by decide +kernel
theorem dX7_fittingPoints_22 : decode cX7_fittingPoints 22 = .ok (.invokevirtual 77, 3) := by decide +kernel
theorem dX7_fittingPoints_25 : decode cX7_fittingPoints 25 = .ok (.ireturn, 1) := by decide +kernel
theorem dX7_lookThatFits_0 : decode cX7_lookThatFits 0 = .ok (.iconst 0, 1) := by decide +kernel
theorem dX7_lookThatFits_1 : decode cX7_lookThatFits 1 = .ok (.istore_n 2, 1) := by decide +kernel
theorem dX7_lookThatFits_2 : decode cX7_lookThatFits 2 = .ok (.aload_n 0, 1) := by decide +kernel
theorem dX7_lookThatFits_3 : decode cX7_lookThatFits 3 = .ok (.aload_n 1, 1) := by decide +kernel
theorem dX7_lookThatFits_4 : decode cX7_lookThatFits 4 = .ok (.iconst 0, 1) := by decide +kernel
theorem dX7_lookThatFits_5 : decode cX7_lookThatFits 5 = .ok (.invokevirtual 81, 3) := by decide +kernel
theorem dX7_lookThatFits_8 : decode cX7_lookThatFits 8 = .ok (.istore_n 3, 1) := by decide +kernel
theorem dX7_lookThatFits_9 : decode cX7_lookThatFits 9 = .ok (.iconst 1, 1) := by decide +kernel
theorem dX7_lookThatFits_10 : decode cX7_lookThatFits 10 = .ok (.istore 4, 2) := by decide +kernel
theorem dX7_lookThatFits_12 : decode cX7_lookThatFits 12 = .ok (.iload 4, 2) := by decide +kernel
theorem dX7_lookThatFits_14 : decode cX7_lookThatFits 14 = .ok (.getstatic 84, 3) := by decide +kernel
theorem dX7_lookThatFits_17 : decode cX7_lookThatFits 17 = .ok (.iconst 0, 1) := by decide +kernel
theorem dX7_lookThatFits_18 : decode cX7_lookThatFits 18 = .ok (.iaload, 1) := by decide +kernel
theorem dX7_lookThatFits_19 : decode cX7_lookThatFits 19 = .ok (.if_icmp .gt 30, 3) := by decide +kernel
theorem dX7_lookThatFits_22 : decode cX7_lookThatFits 22 = .ok (.aload_n 0, 1) := by decide +kernel
theorem dX7_lookThatFits_23 : decode cX7_lookThatFits 23 = .ok (.aload_n 1, 1) := by decide +kernel
theorem dX7_lookThatFits_24 : decode cX7_lookThatFits 24 = .ok (.iload 4, 2) := by decide +kernel
theorem dX7_lookThatFits_26 : decode cX7_lookThatFits 26 = .ok (.invokevirtual 81, 3) := by decide +kernel
theorem dX7_lookThatFits_29 : decode cX7_lookThatFits 29 = .ok (.istore 5, 2) := by decide +kernel
theorem dX7_lookThatFits_31 : decode cX7_lookThatFits 31 = .ok (.iload 5, 2) := by decide +kernel
theorem dX7_lookThatFits_33 : decode cX7_lookThatFits 33 = .ok (.iload_n 3, 1) := by decide +kernel
theorem dX7_lookThatFits_34 : decode cX7_lookThatFits 34 = .ok (.if_icmp .le 9, 3) := by decide +kernel
theorem dX7_lookThatFits_37 : decode cX7_lookThatFits 37 = .ok (.iload 5, 2) := by decide +kernel
theorem dX7_lookThatFits_39 : decode cX7_lookThatFits 39 = .ok (.istore_n 3, 1) := by decide +kernel
theorem dX7_lookThatFits_40 : decode cX7_lookThatFits 40 = .ok (.iload 4, 2) := by decide +kernel
theorem dX7_lookThatFits_42 : decode cX7_lookThatFits 42 = .ok (.istore_n 2, 1) := by decide +kernel
theorem dX7_lookThatFits_43 : decode cX7_lookThatFits 43 = .ok (.iinc 4 1, 3) := by decide +kernel
theorem dX7_lookThatFits_46 : decode cX7_lookThatFits 46 = .ok (.goto (-34), 3) := by decide +kernel
theorem dX7_lookThatFits_49 : decode cX7_lookThatFits 49 = .ok (.iload_n 2, 1) := by decide +kernel
theorem dX7_lookThatFits_50 : decode cX7_lookThatFits 50 = .ok (.ireturn, 1) := by decide +kernel

theorem dX8_init_0 : decode cX8_init 0 = .ok (.aload_n 0, 1) := by decide +kernel
theorem dX8_init_1 : decode cX8_init 1 = .ok (.invokespecial 1, 3) := by decide +kernel
theorem dX8_init_4 : decode cX8_init 4 = .ok (.aload_n 0, 1) := by decide +kernel
theorem dX8_init_5 : decode cX8_init 5 = .ok (.new 7, 3) := by decide +kernel
theorem dX8_init_8 : decode cX8_init 8 = .ok (.dup, 1) := by decide +kernel
theorem dX8_init_9 : decode cX8_init 9 = .ok (.invokespecial 9, 3) := by decide +kernel
theorem dX8_init_12 : decode cX8_init 12 = .ok (.putfield 10, 3) := by decide +kernel
theorem dX8_init_15 : decode cX8_init 15 = .ok (.aload_n 0, 1) := by decide +kernel
theorem dX8_init_16 : decode cX8_init 16 = .ok (.new 7, 3) := by decide +kernel
theorem dX8_init_19 : decode cX8_init 19 = .ok (.dup, 1) := by decide +kernel
theorem dX8_init_20 : decode cX8_init 20 = .ok (.invokespecial 9, 3) := by decide +kernel
theorem dX8_init_23 : decode cX8_init 23 = .ok (.putfield 16, 3) := by decide +kernel
theorem dX8_init_26 : decode cX8_init 26 = .ok (.aload_n 0, 1) := by decide +kernel
theorem dX8_init_27 : decode cX8_init 27 = .ok (.new 19, 3) := by decide +kernel
theorem dX8_init_30 : decode cX8_init 30 = .ok (.dup, 1) := by decide +kernel
theorem dX8_init_31 : decode cX8_init 31 = .ok (.invokespecial 21, 3) := by decide +kernel
theorem dX8_init_34 : decode cX8_init 34 = .ok (.putfield 22, 3) := by decide +kernel
theorem dX8_init_37 : decode cX8_init 37 = .ok (.aload_n 0, 1) := by decide +kernel
theorem dX8_init_38 : decode cX8_init 38 = .ok (.new 26, 3) := by decide +kernel
theorem dX8_init_41 : decode cX8_init 41 = .ok (.dup, 1) := by decide +kernel
theorem dX8_init_42 : decode cX8_init 42 = .ok (.invokespecial 28, 3) := by decide +kernel
theorem dX8_init_45 : decode cX8_init 45 = .ok (.putfield 29, 3) := by decide +kernel
theorem dX8_init_48 : decode cX8_init 48 = .ok (.aload_n 0, 1) := by decide +kernel
theorem dX8_init_49 : decode cX8_init 49 = .ok (.new 33, 3) := by decide +kernel
theorem dX8_init_52 : decode cX8_init 52 = .ok (.dup, 1) := by decide +kernel
theorem dX8_init_53 : decode cX8_init 53 = .ok (.invokespecial 35, 3) := by decide +kernel
theorem dX8_init_56 : decode cX8_init 56 = .ok (.putfield 36, 3) := by decide +kernel
theorem dX8_init_59 : decode cX8_init 59 = .ok (.return_, 1) := by decide +kernel
theorem dX8_act_0 : decode cX8_act 0 = .ok (.iload_n 1, 1) := by decide +kernel
theorem dX8_act_1 : decode cX8_act 1 = .ok (.bipush 16, 2) := by decide +kernel
theorem dX8_act_3 : decode cX8_act 3 = .ok (.invokestatic 40, 3) := by decide +kernel
theorem dX8_act_6 : decode cX8_act 6 = .ok (.ifCond .eq 29, 3) := by decide +kernel
theorem dX8_act_9 : decode cX8_act 9 = .ok (.iload_n 2, 1) := by decide +kernel
theorem dX8_act_10 : decode cX8_act 10 = .ok (.iconst 2, 1) := by decide +kernel
theorem dX8_act_11 : decode cX8_act 11 = .ok (.invokestatic 40, 3) := by decide +kernel
theorem dX8_act_14 : decode cX8_act 14 = .ok (.ifCond .eq 21, 3) := by decide +kernel
theorem dX8_act_17 : decode cX8_act 17 = .ok (.iload_n 3, 1) := by decide +kernel
theorem dX8_act_18 : decode cX8_act 18 = .ok (.iconst 4, 1) := by decide +kernel
theorem dX8_act_19 : decode cX8_act 19 = .ok (.invokestatic 40, 3) := by decide +kernel
theorem dX8_act_22 : decode cX8_act 22 = .ok (.ifCond .eq 13, 3) := by decide +kernel
theorem dX8_act_25 : decode cX8_act 25 = .ok (.iload 4, 2) := by decide +kernel
theorem dX8_act_27 : decode cX8_act 27 = .ok (.bipush 10, 2) := by decide +kernel
theorem dX8_act_29 : decode cX8_act 29 = .ok (.invokestatic 40, 3) := by decide +kernel
theorem dX8_act_32 : decode cX8_act 32 = .ok (.ifCond .ne 5, 3) := by decide +kernel
theorem dX8_act_35 : decode cX8_act 35 = .ok (.iconst (-1), 1) := by decide +kernel
theorem dX8_act_36 : decode cX8_act 36 = .ok (.ireturn, 1) := by decide +kernel
theorem dX8_act_37 : decode cX8_act 37 = .ok (.iload 4, 2) := by decide +kernel
theorem dX8_act_39 : decode cX8_act 39 = .ok (.ifCond .ne 7, 3) := by decide +kernel
theorem dX8_act_42 : decode cX8_act 42 = .ok (.iconst 0, 1) := by decide +kernel
theorem dX8_act_43 : decode cX8_act 43 = .ok (.goto 10, 3) := by decide +kernel
theorem dX8_act_46 : decode cX8_act 46 = .ok (.bipush 10, 2) := by decide +kernel
theorem dX8_act_48 : decode cX8_act 48 = .ok (.iload_n 3, 1) := by decide +kernel
theorem dX8_act_49 : decode cX8_act 49 = .ok (.imul, 1) := by decide +kernel
theorem dX8_act_50 : decode cX8_act 50 = .ok (.iload 4, 2) := by decide +kernel
theorem dX8_act_52 : decode cX8_act 52 = .ok (.iadd, 1) := by decide +kernel
theorem dX8_act_53 : decode cX8_act 53 = .ok (.istore 5, 2) := by decide +kernel
theorem dX8_act_55 : decode cX8_act 55 = .ok (.iload_n 2, 1) := by decide +kernel
theorem dX8_act_56 : decode cX8_act 56 = .ok (.ifCond .ne 16, 3) := by decide +kernel
theorem dX8_act_59 : decode cX8_act 59 = .ok (.aload_n 0, 1) := by decide +kernel
theorem dX8_act_60 : decode cX8_act 60 = .ok (.getfield 10, 3) := by decide +kernel
theorem dX8_act_63 : decode cX8_act 63 = .ok (.getfield 44, 3) := by decide +kernel
theorem dX8_act_66 : decode cX8_act 66 = .ok (.getfield 48, 3) := by decide +kernel
theorem dX8_act_69 : decode cX8_act 69 = .ok (.goto 13, 3) := by decide +kernel
theorem dX8_act_72 : decode cX8_act 72 = .ok (.aload_n 0, 1) := by decide +kernel
theorem dX8_act_73 : decode cX8_act 73 = .ok (.getfield 10, 3) := by decide +kernel
theorem dX8_act_76 : decode cX8_act 76 = .ok (.getfield 44, 3) := by decide +kernel
theorem dX8_act_79 : decode cX8_act 79 = .ok (.getfield 54, 3) := by decide +kernel
theorem dX8_act_82 : decode cX8_act 82 = .ok (.iload_n 1, 1) := by decide +kernel
theorem dX8_act_83 : decode cX8_act 83 = .ok (.iload 5, 2) := by decide +kernel
theorem dX8_act_85 : decode cX8_act 85 = .ok (.invokestatic 57, 3) := by decide +kernel
theorem dX8_act_88 : decode cX8_act 88 = .ok (.ireturn, 1) := by decide +kernel
theorem dX8_cue_0 : decode cX8_cue 0 = .ok (.iload_n 1, 1) := by decide +kernel
theorem dX8_cue_1 : decode cX8_cue 1 = .ok (.bipush 16, 2) := by decide +kernel
theorem dX8_cue_3 : decode cX8_cue 3 = .ok (.invokestatic 40, 3) := by decide +kernel
theorem dX8_cue_6 : decode cX8_cue 6 = .ok (.ifCond .eq 11, 3) := by decide +kernel
theorem dX8_cue_9 : decode cX8_cue 9 = .ok (.iload_n 2, 1) := by decide +kernel
theorem dX8_cue_10 : decode cX8_cue 10 = .ok (.iconst 3, 1) := by decide +kernel
theorem dX8_cue_11 : decode cX8_cue 11 = .ok (.invokestatic 40, 3) := by decide +kernel
theorem dX8_cue_14 : decode cX8_cue 14 = .ok (.ifCond .ne 5, 3) := by decide +kernel
theorem dX8_cue_17 : decode cX8_cue 17 = .ok (.iconst (-1), 1) := by decide +kernel
theorem dX8_cue_18 : decode cX8_cue 18 = .ok (.ireturn, 1) := by decide +kernel
theorem dX8_cue_19 : decode cX8_cue 19 = .ok (.iload_n 2, 1) := by decide +kernel
theorem dX8_cue_20 : decode cX8_cue 20 = .ok (.iconst 2, 1) := by decide +kernel
theorem dX8_cue_21 : decode cX8_cue 21 = .ok (.if_icmp .ne 33, 3) := by decide +kernel
theorem dX8_cue_24 : decode cX8_cue 24 = .ok (.iload_n 3, 1) := by decide +kernel
theorem dX8_cue_25 : decode cX8_cue 25 = .ok (.iconst 2, 1) := by decide +kernel
theorem dX8_cue_26 : decode cX8_cue 26 = .ok (.invokestatic 40, 3) := by decide +kernel
theorem dX8_cue_29 : decode cX8_cue 29 = .ok (.ifCond .eq 23, 3) := by decide +kernel
theorem dX8_cue_32 : decode cX8_cue 32 = .ok (.iconst 1, 1) := by decide +kernel
theorem dX8_cue_33 : decode cX8_cue 33 = .ok (.aload_n 0, 1) := by decide +kernel
theorem dX8_cue_34 : decode cX8_cue 34 = .ok (.getfield 10, 3) := by decide +kernel
theorem dX8_cue_37 : decode cX8_cue 37 = .ok (.getfield 44, 3) := by decide +kernel
theorem dX8_cue_40 : decode cX8_cue 40 = .ok (.getfield 61, 3) := by decide +kernel
theorem dX8_cue_43 : decode cX8_cue 43 = .ok (.iload_n 1, 1) := by decide +kernel
theorem dX8_cue_44 : decode cX8_cue 44 = .ok (.iload_n 3, 1) := by decide +kernel
theorem dX8_cue_45 : decode cX8_cue 45 = .ok (.invokestatic 57, 3) := by decide +kernel
theorem dX8_cue_48 : decode cX8_cue 48 = .ok (.iadd, 1) := by decide +kernel
theorem dX8_cue_49 : decode cX8_cue 49 = .ok (.goto 4, 3) := by decide +kernel
theorem dX8_cue_52 : decode cX8_cue 52 = .ok (.iconst (-1), 1) := by decide +kernel
theorem dX8_cue_53 : decode cX8_cue 53 = .ok (.ireturn, 1) := by decide +kernel
theorem dX8_cue_54 : decode cX8_cue 54 = .ok (.iload_n 3, 1) := by decide +kernel
theorem dX8_cue_55 : decode cX8_cue 55 = .ok (.iconst (-1), 1) := by decide +kernel
theorem dX8_cue_56 : decode cX8_cue 56 = .ok (.if_icmp .lt 8, 3) := by decide +kernel
theorem dX8_cue_59 : decode cX8_cue 59 = .ok (.iload_n 3, 1) := by decide +kernel
theorem dX8_cue_60 : decode cX8_cue 60 = .ok (.iconst 4, 1) := by decide +kernel
theorem dX8_cue_61 : decode cX8_cue 61 = .ok (.if_icmp .lt 5, 3) := by decide +kernel
theorem dX8_cue_64 : decode cX8_cue 64 = .ok (.iconst (-1), 1) := by decide +kernel
theorem dX8_cue_65 : decode cX8_cue 65 = .ok (.ireturn, 1) := by decide +kernel
theorem dX8_cue_66 : decode cX8_cue 66 = .ok (.iload_n 2, 1) := by decide +kernel
theorem dX8_cue_67 : decode cX8_cue 67 = .ok (.ifCond .ne 16, 3) := by decide +kernel
theorem dX8_cue_70 : decode cX8_cue 70 = .ok (.aload_n 0, 1) := by decide +kernel
theorem dX8_cue_71 : decode cX8_cue 71 = .ok (.getfield 10, 3) := by decide +kernel
theorem dX8_cue_74 : decode cX8_cue 74 = .ok (.getfield 44, 3) := by decide +kernel
theorem dX8_cue_77 : decode cX8_cue 77 = .ok (.getfield 64, 3) := by decide +kernel
theorem dX8_cue_80 : decode cX8_cue 80 = .ok (.goto 13, 3) := by decide +kernel
theorem dX8_cue_83 : decode cX8_cue 83 = .ok (.aload_n 0, 1) := by decide +kernel
theorem dX8_cue_84 : decode cX8_cue 84 = .ok (.getfield 10, 3) := by decide +kernel
theorem dX8_cue_87 : decode cX8_cue 87 = .ok (.getfield 44, 3) := by decide +kernel
theorem dX8_cue_90 : decode cX8_cue 90 = .ok (.getfield 67, 3) := by decide +kernel
theorem dX8_cue_93 : decode cX8_cue 93 = .ok (.iload_n 1, 1) := by decide +kernel
theorem dX8_cue_94 : decode cX8_cue 94 = .ok (.iconst 1, 1) := by decide +kernel
theorem dX8_cue_95 : decode cX8_cue 95 = .ok (.iload_n 3, 1) := by decide +kernel
theorem dX8_cue_96 : decode cX8_cue 96 = .ok (.iadd, 1) := by decide +kernel
theorem dX8_cue_97 : decode cX8_cue 97 = .ok (.invokestatic 57, 3) := by decide +kernel
theorem dX8_cue_100 : decode cX8_cue 100 = .ok (.ireturn, 1) := by decide +kernel
theorem dX8_stand_0 : decode cX8_stand 0 = .ok (.iload_n 1, 1) := by decide +kernel
theorem dX8_stand_1 : decode cX8_stand 1 = .ok (.iconst 4, 1) := by decide +kernel
theorem dX8_stand_2 : decode cX8_stand 2 = .ok (.invokestatic 40, 3) := by decide +kernel
theorem dX8_stand_5 : decode cX8_stand 5 = .ok (.ifCond .ne 5, 3) := by decide +kernel
theorem dX8_stand_8 : decode cX8_stand 8 = .ok (.iconst (-1), 1) := by decide +kernel
theorem dX8_stand_9 : decode cX8_stand 9 = .ok (.ireturn, 1) := by decide +kernel
theorem dX8_stand_10 : decode cX8_stand 10 = .ok (.aload_n 0, 1) := by decide +kernel
theorem dX8_stand_11 : decode cX8_stand 11 = .ok (.getfield 10, 3) := by decide +kernel
theorem dX8_stand_14 : decode cX8_stand 14 = .ok (.getfield 70, 3) := by decide +kernel
theorem dX8_stand_17 : decode cX8_stand 17 = .ok (.istore_n 2, 1) := by decide +kernel
theorem dX8_stand_18 : decode cX8_stand 18 = .ok (.aload_n 0, 1) := by decide +kernel
theorem dX8_stand_19 : decode cX8_stand 19 = .ok (.getfield 10, 3) := by decide +kernel
theorem dX8_stand_22 : decode cX8_stand 22 = .ok (.iload_n 1, 1) := by decide +kernel
theorem dX8_stand_23 : decode cX8_stand 23 = .ok (.putfield 70, 3) := by decide +kernel
theorem dX8_stand_26 : decode cX8_stand 26 = .ok (.iload_n 2, 1) := by decide +kernel
theorem dX8_stand_27 : decode cX8_stand 27 = .ok (.ireturn, 1) := by decide +kernel
theorem dX8_habit_0 : decode cX8_habit 0 = .ok (.iload_n 1, 1) := by decide +kernel
theorem dX8_habit_1 : decode cX8_habit 1 = .ok (.iconst 5, 1) := by decide +kernel
theorem dX8_habit_2 : decode cX8_habit 2 = .ok (.invokestatic 40, 3) := by decide +kernel
theorem dX8_habit_5 : decode cX8_habit 5 = .ok (.ifCond .eq 16, 3) := by decide +kernel
theorem dX8_habit_8 : decode cX8_habit 8 = .ok (.iload_n 2, 1) := by decide +kernel
theorem dX8_habit_9 : decode cX8_habit 9 = .ok (.ifCond .lt 12, 3) := by decide +kernel
theorem dX8_habit_12 : decode cX8_habit 12 = .ok (.iload_n 2, 1) := by decide +kernel
theorem dX8_habit_13 : decode cX8_habit 13 = .ok (.getstatic 74, 3) := by decide +kernel
theorem dX8_habit_16 : decode cX8_habit 16 = .ok (.iload_n 1, 1) := by decide +kernel
theorem dX8_habit_17 : decode cX8_habit 17 = .ok (.iaload, 1) := by decide +kernel
theorem dX8_habit_18 : decode cX8_habit 18 = .ok (.if_icmp .le 5, 3) := by decide +kernel
theorem dX8_habit_21 : decode cX8_habit 21 = .ok (.iconst (-1), 1) := by decide +kernel
theorem dX8_habit_22 : decode cX8_habit 22 = .ok (.ireturn, 1) := by decide +kernel
theorem dX8_habit_23 : decode cX8_habit 23 = .ok (.aload_n 0, 1) := by decide +kernel
theorem dX8_habit_24 : decode cX8_habit 24 = .ok (.getfield 10, 3) := by decide +kernel
theorem dX8_habit_27 : decode cX8_habit 27 = .ok (.getfield 77, 3) := by decide +kernel
theorem dX8_habit_30 : decode cX8_habit 30 = .ok (.iload_n 1, 1) := by decide +kernel
theorem dX8_habit_31 : decode cX8_habit 31 = .ok (.iload_n 2, 1) := by decide +kernel
theorem dX8_habit_32 : decode cX8_habit 32 = .ok (.invokestatic 57, 3) := by decide +kernel
theorem dX8_habit_35 : decode cX8_habit 35 = .ok (.ireturn, 1) := by decide +kernel
theorem dX8_watcher_0 : decode cX8_watcher 0 = .ok (.iload_n 1, 1) := by decide +kernel
theorem dX8_watcher_1 : decode cX8_watcher 1 = .ok (.bipush 12, 2) := by decide +kernel
theorem dX8_watcher_3 : decode cX8_watcher 3 = .ok (.invokestatic 40, 3) := by decide +kernel
theorem dX8_watcher_6 : decode cX8_watcher 6 = .ok (.ifCond .eq 11, 3) := by decide +kernel
theorem dX8_watcher_9 : decode cX8_watcher 9 = .ok (.iload_n 2, 1) := by decide +kernel
theorem dX8_watcher_10 : decode cX8_watcher 10 = .ok (.iconst 4, 1) := by decide +kernel
theorem dX8_watcher_11 : decode cX8_watcher 11 = .ok (.invokestatic 40, 3) := by decide +kernel
theorem dX8_watcher_14 : decode cX8_watcher 14 = .ok (.ifCond .ne 5, 3) := by decide +kernel
theorem dX8_watcher_17 : decode cX8_watcher 17 = .ok (.iconst (-1), 1) := by decide +kernel
theorem dX8_watcher_18 : decode cX8_watcher 18 = .ok (.ireturn, 1) := by decide +kernel
theorem dX8_watcher_19 : decode cX8_watcher 19 = .ok (.aload_n 0, 1) := by decide +kernel
theorem dX8_watcher_20 : decode cX8_watcher 20 = .ok (.getfield 10, 3) := by decide +kernel
theorem dX8_watcher_23 : decode cX8_watcher 23 = .ok (.getfield 80, 3) := by decide +kernel
theorem dX8_watcher_26 : decode cX8_watcher 26 = .ok (.iload_n 1, 1) := by decide +kernel
theorem dX8_watcher_27 : decode cX8_watcher 27 = .ok (.invokevirtual 84, 3) := by decide +kernel
theorem dX8_watcher_30 : decode cX8_watcher 30 = .ok (.ifCond .eq 6, 3) := by decide +kernel
theorem dX8_watcher_33 : decode cX8_watcher 33 = .ok (.bipush (-2), 2) := by decide +kernel
theorem dX8_watcher_35 : decode cX8_watcher 35 = .ok (.ireturn, 1) := by decide +kernel
theorem dX8_watcher_36 : decode cX8_watcher 36 = .ok (.aload_n 0, 1) := by decide +kernel
theorem dX8_watcher_37 : decode cX8_watcher 37 = .ok (.getfield 10, 3) := by decide +kernel
theorem dX8_watcher_40 : decode cX8_watcher 40 = .ok (.getfield 80, 3) := by decide +kernel
theorem dX8_watcher_43 : decode cX8_watcher 43 = .ok (.getfield 90, 3) := by decide +kernel
theorem dX8_watcher_46 : decode cX8_watcher 46 = .ok (.bipush 8, 2) := by decide +kernel
theorem dX8_watcher_48 : decode cX8_watcher 48 = .ok (.if_icmp .lt 6, 3) := by decide +kernel
theorem dX8_watcher_51 : decode cX8_watcher 51 = .ok (.bipush (-3), 2) := by decide +kernel
theorem dX8_watcher_53 : decode cX8_watcher 53 = .ok (.ireturn, 1) := by decide +kernel
theorem dX8_watcher_54 : decode cX8_watcher 54 = .ok (.aload_n 0, 1) := by decide +kernel
theorem dX8_watcher_55 : decode cX8_watcher 55 = .ok (.getfield 10, 3) := by decide +kernel
theorem dX8_watcher_58 : decode cX8_watcher 58 = .ok (.getfield 80, 3) := by decide +kernel
theorem dX8_watcher_61 : decode cX8_watcher 61 = .ok (.iload_n 1, 1) := by decide +kernel
theorem dX8_watcher_62 : decode cX8_watcher 62 = .ok (.iload_n 2, 1) := by decide +kernel
theorem dX8_watcher_63 : decode cX8_watcher 63 = .ok (.invokevirtual 93, 3) := by decide +kernel
theorem dX8_watcher_66 : decode cX8_watcher 66 = .ok (.aload_n 0, 1) := by decide +kernel
theorem dX8_watcher_67 : decode cX8_watcher 67 = .ok (.getfield 10, 3) := by decide +kernel
theorem dX8_watcher_70 : decode cX8_watcher 70 = .ok (.getfield 80, 3) := by decide +kernel
theorem dX8_watcher_73 : decode cX8_watcher 73 = .ok (.getfield 90, 3) := by decide +kernel
theorem dX8_watcher_76 : decode cX8_watcher 76 = .ok (.iconst 1, 1) := by decide +kernel
theorem dX8_watcher_77 : decode cX8_watcher 77 = .ok (.isub, 1) := by decide +kernel
theorem dX8_watcher_78 : decode cX8_watcher 78 = .ok (.ireturn, 1) := by decide +kernel
theorem dX8_doubt_0 : decode cX8_doubt 0 = .ok (.iload_n 1, 1) := by decide +kernel
theorem dX8_doubt_1 : decode cX8_doubt 1 = .ok (.aload_n 0, 1) := by decide +kernel
theorem dX8_doubt_2 : decode cX8_doubt 2 = .ok (.getfield 10, 3) := by decide +kernel
theorem dX8_doubt_5 : decode cX8_doubt 5 = .ok (.getfield 80, 3) := by decide +kernel
theorem dX8_doubt_8 : decode cX8_doubt 8 = .ok (.getfield 90, 3) := by decide +kernel
theorem dX8_doubt_11 : decode cX8_doubt 11 = .ok (.invokestatic 40, 3) := by decide +kernel
theorem dX8_doubt_14 : decode cX8_doubt 14 = .ok (.ifCond .eq 12, 3) := by decide +kernel
theorem dX8_doubt_17 : decode cX8_doubt 17 = .ok (.iload_n 2, 1) := by decide +kernel
theorem dX8_doubt_18 : decode cX8_doubt 18 = .ok (.bipush 10, 2) := by decide +kernel
theorem dX8_doubt_20 : decode cX8_doubt 20 = .ok (.invokestatic 40, 3) := by decide +kernel
theorem dX8_doubt_23 : decode cX8_doubt 23 = .ok (.ifCond .ne 5, 3) := by decide +kernel
theorem dX8_doubt_26 : decode cX8_doubt 26 = .ok (.iconst (-1), 1) := by decide +kernel
theorem dX8_doubt_27 : decode cX8_doubt 27 = .ok (.ireturn, 1) := by decide +kernel
theorem dX8_doubt_28 : decode cX8_doubt 28 = .ok (.aload_n 0, 1) := by decide +kernel
theorem dX8_doubt_29 : decode cX8_doubt 29 = .ok (.getfield 10, 3) := by decide +kernel
theorem dX8_doubt_32 : decode cX8_doubt 32 = .ok (.getfield 80, 3) := by decide +kernel
theorem dX8_doubt_35 : decode cX8_doubt 35 = .ok (.getfield 97, 3) := by decide +kernel
theorem dX8_doubt_38 : decode cX8_doubt 38 = .ok (.iload_n 1, 1) := by decide +kernel
theorem dX8_doubt_39 : decode cX8_doubt 39 = .ok (.iaload, 1) := by decide +kernel
theorem dX8_doubt_40 : decode cX8_doubt 40 = .ok (.iconst 1, 1) := by decide +kernel
theorem dX8_doubt_41 : decode cX8_doubt 41 = .ok (.if_icmp .eq 6, 3) := by decide +kernel
theorem dX8_doubt_44 : decode cX8_doubt 44 = .ok (.bipush (-12), 2) := by decide +kernel
theorem dX8_doubt_46 : decode cX8_doubt 46 = .ok (.ireturn, 1) := by decide +kernel
theorem dX8_doubt_47 : decode cX8_doubt 47 = .ok (.aload_n 0, 1) := by decide +kernel
theorem dX8_doubt_48 : decode cX8_doubt 48 = .ok (.getfield 10, 3) := by decide +kernel
theorem dX8_doubt_51 : decode cX8_doubt 51 = .ok (.getfield 80, 3) := by decide +kernel
theorem dX8_doubt_54 : decode cX8_doubt 54 = .ok (.getfield 100, 3) := by decide +kernel
theorem dX8_doubt_57 : decode cX8_doubt 57 = .ok (.iload_n 1, 1) := by decide +kernel
theorem dX8_doubt_58 : decode cX8_doubt 58 = .ok (.iload_n 2, 1) := by decide +kernel
theorem dX8_doubt_59 : decode cX8_doubt 59 = .ok (.invokestatic 57, 3) := by decide +kernel
theorem dX8_doubt_62 : decode cX8_doubt 62 = .ok (.ireturn, 1) := by decide +kernel
theorem dX8_told_0 : decode cX8_told 0 = .ok (.iload_n 1, 1) := by decide +kernel
theorem dX8_told_1 : decode cX8_told 1 = .ok (.aload_n 0, 1) := by decide +kernel
theorem dX8_told_2 : decode cX8_told 2 = .ok (.getfield 10, 3) := by decide +kernel
theorem dX8_told_5 : decode cX8_told 5 = .ok (.getfield 80, 3) := by decide +kernel
theorem dX8_told_8 : decode cX8_told 8 = .ok (.getfield 90, 3) := by decide +kernel
theorem dX8_told_11 : decode cX8_told 11 = .ok (.invokestatic 40, 3) := by decide +kernel
theorem dX8_told_14 : decode cX8_told 14 = .ok (.ifCond .eq 11, 3) := by decide +kernel
theorem dX8_told_17 : decode cX8_told 17 = .ok (.iload_n 2, 1) := by decide +kernel
theorem dX8_told_18 : decode cX8_told 18 = .ok (.iconst 3, 1) := by decide +kernel
theorem dX8_told_19 : decode cX8_told 19 = .ok (.invokestatic 40, 3) := by decide +kernel
theorem dX8_told_22 : decode cX8_told 22 = .ok (.ifCond .ne 5, 3) := by decide +kernel
theorem dX8_told_25 : decode cX8_told 25 = .ok (.iconst (-1), 1) := by decide +kernel
theorem dX8_told_26 : decode cX8_told 26 = .ok (.ireturn, 1) := by decide +kernel
theorem dX8_told_27 : decode cX8_told 27 = .ok (.iload_n 2, 1) := by decide +kernel
theorem dX8_told_28 : decode cX8_told 28 = .ok (.ifCond .ne 16, 3) := by decide +kernel
theorem dX8_told_31 : decode cX8_told 31 = .ok (.aload_n 0, 1) := by decide +kernel
theorem dX8_told_32 : decode cX8_told 32 = .ok (.getfield 10, 3) := by decide +kernel
theorem dX8_told_35 : decode cX8_told 35 = .ok (.getfield 80, 3) := by decide +kernel
theorem dX8_told_38 : decode cX8_told 38 = .ok (.getfield 103, 3) := by decide +kernel
theorem dX8_told_41 : decode cX8_told 41 = .ok (.iload_n 1, 1) := by decide +kernel
theorem dX8_told_42 : decode cX8_told 42 = .ok (.iaload, 1) := by decide +kernel
theorem dX8_told_43 : decode cX8_told 43 = .ok (.ireturn, 1) := by decide +kernel
theorem dX8_told_44 : decode cX8_told 44 = .ok (.aload_n 0, 1) := by decide +kernel
theorem dX8_told_45 : decode cX8_told 45 = .ok (.getfield 10, 3) := by decide +kernel
theorem dX8_told_48 : decode cX8_told 48 = .ok (.getfield 80, 3) := by decide +kernel
theorem dX8_told_51 : decode cX8_told 51 = .ok (.getfield 97, 3) := by decide +kernel
theorem dX8_told_54 : decode cX8_told 54 = .ok (.iload_n 1, 1) := by decide +kernel
theorem dX8_told_55 : decode cX8_told 55 = .ok (.iaload, 1) := by decide +kernel
theorem dX8_told_56 : decode cX8_told 56 = .ok (.istore_n 3, 1) := by decide +kernel
theorem dX8_told_57 : decode cX8_told 57 = .ok (.iload_n 2, 1) := by decide +kernel
theorem dX8_told_58 : decode cX8_told 58 = .ok (.iconst 1, 1) := by decide +kernel
theorem dX8_told_59 : decode cX8_told 59 = .ok (.if_icmp .ne 7, 3) := by decide +kernel
theorem dX8_told_62 : decode cX8_told 62 = .ok (.iload_n 3, 1) := by decide +kernel
theorem dX8_told_63 : decode cX8_told 63 = .ok (.goto 34, 3) := by decide +kernel
theorem dX8_told_66 : decode cX8_told 66 = .ok (.aload_n 0, 1) := by decide +kernel
theorem dX8_told_67 : decode cX8_told 67 = .ok (.getfield 10, 3) := by decide +kernel
theorem dX8_told_70 : decode cX8_told 70 = .ok (.getfield 44, 3) := by decide +kernel
theorem dX8_told_73 : decode cX8_told 73 = .ok (.bipush 15, 2) := by decide +kernel
theorem dX8_told_75 : decode cX8_told 75 = .ok (.iload_n 3, 1) := by decide +kernel
theorem dX8_told_76 : decode cX8_told 76 = .ok (.iconst 2, 1) := by decide +kernel
theorem dX8_told_77 : decode cX8_told 77 = .ok (.if_icmp .ne 7, 3) := by decide +kernel
theorem dX8_told_80 : decode cX8_told 80 = .ok (.iconst 1, 1) := by decide +kernel
theorem dX8_told_81 : decode cX8_told 81 = .ok (.goto 4, 3) := by decide +kernel
theorem dX8_told_84 : decode cX8_told 84 = .ok (.iconst 0, 1) := by decide +kernel
theorem dX8_told_85 : decode cX8_told 85 = .ok (.aload_n 0, 1) := by decide +kernel
theorem dX8_told_86 : decode cX8_told 86 = .ok (.getfield 10, 3) := by decide +kernel
theorem dX8_told_89 : decode cX8_told 89 = .ok (.getfield 77, 3) := by decide +kernel
theorem dX8_told_92 : decode cX8_told 92 = .ok (.iconst 2, 1) := by decide +kernel
theorem dX8_told_93 : decode cX8_told 93 = .ok (.iaload, 1) := by decide +kernel
theorem dX8_told_94 : decode cX8_told 94 = .ok (.invokevirtual 106, 3) := by decide +kernel
theorem dX8_told_97 : decode cX8_told 97 = .ok (.ireturn, 1) := by decide +kernel
theorem dX8_leave_0 : decode cX8_leave 0 = .ok (.iload_n 1, 1) := by decide +kernel
theorem dX8_leave_1 : decode cX8_leave 1 = .ok (.aload_n 0, 1) := by decide +kernel
theorem dX8_leave_2 : decode cX8_leave 2 = .ok (.getfield 10, 3) := by decide +kernel
theorem dX8_leave_5 : decode cX8_leave 5 = .ok (.getfield 80, 3) := by decide +kernel
theorem dX8_leave_8 : decode cX8_leave 8 = .ok (.getfield 90, 3) := by decide +kernel
theorem dX8_leave_11 : decode cX8_leave 11 = .ok (.invokestatic 40, 3) := by decide +kernel
theorem dX8_leave_14 : decode cX8_leave 14 = .ok (.ifCond .ne 5, 3) := by decide +kernel
theorem dX8_leave_17 : decode cX8_leave 17 = .ok (.iconst (-1), 1) := by decide +kernel
theorem dX8_leave_18 : decode cX8_leave 18 = .ok (.ireturn, 1) := by decide +kernel
theorem dX8_leave_19 : decode cX8_leave 19 = .ok (.aload_n 0, 1) := by decide +kernel
theorem dX8_leave_20 : decode cX8_leave 20 = .ok (.getfield 10, 3) := by decide +kernel
theorem dX8_leave_23 : decode cX8_leave 23 = .ok (.getfield 80, 3) := by decide +kernel
theorem dX8_leave_26 : decode cX8_leave 26 = .ok (.iload_n 1, 1) := by decide +kernel
theorem dX8_leave_27 : decode cX8_leave 27 = .ok (.invokevirtual 110, 3) := by decide +kernel
theorem dX8_leave_30 : decode cX8_leave 30 = .ok (.aload_n 0, 1) := by decide +kernel
theorem dX8_leave_31 : decode cX8_leave 31 = .ok (.getfield 10, 3) := by decide +kernel
theorem dX8_leave_34 : decode cX8_leave 34 = .ok (.getfield 80, 3) := by decide +kernel
theorem dX8_leave_37 : decode cX8_leave 37 = .ok (.getfield 90, 3) := by decide +kernel
theorem dX8_leave_40 : decode cX8_leave 40 = .ok (.ireturn, 1) := by decide +kernel
theorem dX8_type_0 : decode cX8_type 0 = .ok (.iload_n 3, 1) := by decide +kernel
theorem dX8_type_1 : decode cX8_type 1 = .ok (.iconst 1, 1) := by decide +kernel
theorem dX8_type_2 : decode cX8_type 2 = .ok (.if_icmp .lt 17, 3) := by decide +kernel
theorem dX8_type_5 : decode cX8_type 5 = .ok (.iload_n 3, 1) := by decide +kernel
theorem dX8_type_6 : decode cX8_type 6 = .ok (.bipush 8, 2) := by decide +kernel
theorem dX8_type_8 : decode cX8_type 8 = .ok (.if_icmp .gt 11, 3) := by decide +kernel
theorem dX8_type_11 : decode cX8_type 11 = .ok (.lload_n 1, 1) := by decide +kernel
theorem dX8_type_12 : decode cX8_type 12 = .ok (.iload_n 3, 1) := by decide +kernel
theorem dX8_type_13 : decode cX8_type 13 = .ok (.invokestatic 114, 3) := by decide +kernel
theorem dX8_type_16 : decode cX8_type 16 = .ok (.ifCond .ne 5, 3) := by decide +kernel
theorem dX8_type_19 : decode cX8_type 19 = .ok (.iconst (-1), 1) := by decide +kernel
theorem dX8_type_20 : decode cX8_type 20 = .ok (.ireturn, 1) := by decide +kernel
theorem dX8_type_21 : decode cX8_type 21 = .ok (.aload_n 0, 1) := by decide +kernel
theorem dX8_type_22 : decode cX8_type 22 = .ok (.getfield 29, 3) := by decide +kernel
theorem dX8_type_25 : decode cX8_type 25 = .ok (.getfield 118, 3) := by decide +kernel
theorem dX8_type_28 : decode cX8_type 28 = .ok (.iload_n 3, 1) := by decide +kernel
theorem dX8_type_29 : decode cX8_type 29 = .ok (.iadd, 1) := by decide +kernel
theorem dX8_type_30 : decode cX8_type 30 = .ok (.bipush 100, 2) := by decide +kernel
theorem dX8_type_32 : decode cX8_type 32 = .ok (.if_icmp .le 6, 3) := by decide +kernel
theorem dX8_type_35 : decode cX8_type 35 = .ok (.bipush (-3), 2) := by decide +kernel
theorem dX8_type_37 : decode cX8_type 37 = .ok (.ireturn, 1) := by decide +kernel
theorem dX8_type_38 : decode cX8_type 38 = .ok (.aload_n 0, 1) := by decide +kernel
theorem dX8_type_39 : decode cX8_type 39 = .ok (.getfield 29, 3) := by decide +kernel
theorem dX8_type_42 : decode cX8_type 42 = .ok (.lload_n 1, 1) := by decide +kernel
theorem dX8_type_43 : decode cX8_type 43 = .ok (.iload_n 3, 1) := by decide +kernel
theorem dX8_type_44 : decode cX8_type 44 = .ok (.invokevirtual 121, 3) := by decide +kernel
theorem dX8_type_47 : decode cX8_type 47 = .ok (.aload_n 0, 1) := by decide +kernel
theorem dX8_type_48 : decode cX8_type 48 = .ok (.getfield 29, 3) := by decide +kernel
theorem dX8_type_51 : decode cX8_type 51 = .ok (.getfield 118, 3) := by decide +kernel
theorem dX8_type_54 : decode cX8_type 54 = .ok (.ireturn, 1) := by decide +kernel
theorem dX8_routine_0 : decode cX8_routine 0 = .ok (.aload_n 0, 1) := by decide +kernel
theorem dX8_routine_1 : decode cX8_routine 1 = .ok (.getfield 22, 3) := by decide +kernel
theorem dX8_routine_4 : decode cX8_routine 4 = .ok (.getfield 125, 3) := by decide +kernel
theorem dX8_routine_7 : decode cX8_routine 7 = .ok (.getfield 44, 3) := by decide +kernel
theorem dX8_routine_10 : decode cX8_routine 10 = .ok (.astore_n 1, 1) := by decide +kernel
theorem dX8_routine_11 : decode cX8_routine 11 = .ok (.aload_n 1, 1) := by decide +kernel
theorem dX8_routine_12 : decode cX8_routine 12 = .ok (.aload_n 0, 1) := by decide +kernel
theorem dX8_routine_13 : decode cX8_routine 13 = .ok (.getfield 10, 3) := by decide +kernel
theorem dX8_routine_16 : decode cX8_routine 16 = .ok (.getfield 44, 3) := by decide +kernel
theorem dX8_routine_19 : decode cX8_routine 19 = .ok (.invokevirtual 128, 3) := by decide +kernel
theorem dX8_routine_22 : decode cX8_routine 22 = .ok (.aload_n 0, 1) := by decide +kernel
theorem dX8_routine_23 : decode cX8_routine 23 = .ok (.getfield 29, 3) := by decide +kernel
theorem dX8_routine_26 : decode cX8_routine 26 = .ok (.aload_n 1, 1) := by decide +kernel
theorem dX8_routine_27 : decode cX8_routine 27 = .ok (.invokevirtual 132, 3) := by decide +kernel
theorem dX8_routine_30 : decode cX8_routine 30 = .ok (.istore_n 2, 1) := by decide +kernel
theorem dX8_routine_31 : decode cX8_routine 31 = .ok (.aload_n 0, 1) := by decide +kernel
theorem dX8_routine_32 : decode cX8_routine 32 = .ok (.getfield 29, 3) := by decide +kernel
theorem dX8_routine_35 : decode cX8_routine 35 = .ok (.iconst 0, 1) := by decide +kernel
theorem dX8_routine_36 : decode cX8_routine 36 = .ok (.putfield 118, 3) := by decide +kernel
theorem dX8_routine_39 : decode cX8_routine 39 = .ok (.iload_n 2, 1) := by decide +kernel
theorem dX8_routine_40 : decode cX8_routine 40 = .ok (.ifCond .le 14, 3) := by decide +kernel
theorem dX8_routine_43 : decode cX8_routine 43 = .ok (.aload_n 0, 1) := by decide +kernel
theorem dX8_routine_44 : decode cX8_routine 44 = .ok (.getfield 10, 3) := by decide +kernel
theorem dX8_routine_47 : decode cX8_routine 47 = .ok (.getfield 44, 3) := by decide +kernel
theorem dX8_routine_50 : decode cX8_routine 50 = .ok (.aload_n 1, 1) := by decide +kernel
theorem dX8_routine_51 : decode cX8_routine 51 = .ok (.invokevirtual 128, 3) := by decide +kernel
theorem dX8_routine_54 : decode cX8_routine 54 = .ok (.iload_n 2, 1) := by decide +kernel
theorem dX8_routine_55 : decode cX8_routine 55 = .ok (.ireturn, 1) := by decide +kernel
theorem dX8_house_0 : decode cX8_house 0 = .ok (.aload_n 0, 1) := by decide +kernel
theorem dX8_house_1 : decode cX8_house 1 = .ok (.getfield 22, 3) := by decide +kernel
theorem dX8_house_4 : decode cX8_house 4 = .ok (.getfield 125, 3) := by decide +kernel
theorem dX8_house_7 : decode cX8_house 7 = .ok (.getfield 80, 3) := by decide +kernel
theorem dX8_house_10 : decode cX8_house 10 = .ok (.astore_n 1, 1) := by decide +kernel
theorem dX8_house_11 : decode cX8_house 11 = .ok (.aload_n 1, 1) := by decide +kernel
theorem dX8_house_12 : decode cX8_house 12 = .ok (.aload_n 0, 1) := by decide +kernel
theorem dX8_house_13 : decode cX8_house 13 = .ok (.getfield 10, 3) := by decide +kernel
theorem dX8_house_16 : decode cX8_house 16 = .ok (.getfield 80, 3) := by decide +kernel
theorem dX8_house_19 : decode cX8_house 19 = .ok (.invokevirtual 136, 3) := by decide +kernel
theorem dX8_house_22 : decode cX8_house 22 = .ok (.aload_n 0, 1) := by decide +kernel
theorem dX8_house_23 : decode cX8_house 23 = .ok (.getfield 29, 3) := by decide +kernel
theorem dX8_house_26 : decode cX8_house 26 = .ok (.aload_n 1, 1) := by decide +kernel
theorem dX8_house_27 : decode cX8_house 27 = .ok (.invokevirtual 139, 3) := by decide +kernel
theorem dX8_house_30 : decode cX8_house 30 = .ok (.istore_n 2, 1) := by decide +kernel
theorem dX8_house_31 : decode cX8_house 31 = .ok (.aload_n 0, 1) := by decide +kernel
theorem dX8_house_32 : decode cX8_house 32 = .ok (.getfield 29, 3) := by decide +kernel
theorem dX8_house_35 : decode cX8_house 35 = .ok (.iconst 0, 1) := by decide +kernel
theorem dX8_house_36 : decode cX8_house 36 = .ok (.putfield 118, 3) := by decide +kernel
theorem dX8_house_39 : decode cX8_house 39 = .ok (.iload_n 2, 1) := by decide +kernel
theorem dX8_house_40 : decode cX8_house 40 = .ok (.ifCond .le 15, 3) := by decide +kernel
theorem dX8_house_43 : decode cX8_house 43 = .ok (.aload_n 1, 1) := by decide +kernel
theorem dX8_house_44 : decode cX8_house 44 = .ok (.getfield 90, 3) := by decide +kernel
theorem dX8_house_47 : decode cX8_house 47 = .ok (.bipush 8, 2) := by decide +kernel
theorem dX8_house_49 : decode cX8_house 49 = .ok (.if_icmp .le 6, 3) := by decide +kernel
theorem dX8_house_52 : decode cX8_house 52 = .ok (.bipush (-3), 2) := by decide +kernel
theorem dX8_house_54 : decode cX8_house 54 = .ok (.ireturn, 1) := by decide +kernel
theorem dX8_house_55 : decode cX8_house 55 = .ok (.iload_n 2, 1) := by decide +kernel
theorem dX8_house_56 : decode cX8_house 56 = .ok (.ifCond .le 14, 3) := by decide +kernel
theorem dX8_house_59 : decode cX8_house 59 = .ok (.aload_n 0, 1) := by decide +kernel
theorem dX8_house_60 : decode cX8_house 60 = .ok (.getfield 10, 3) := by decide +kernel
theorem dX8_house_63 : decode cX8_house 63 = .ok (.getfield 80, 3) := by decide +kernel
theorem dX8_house_66 : decode cX8_house 66 = .ok (.aload_n 1, 1) := by decide +kernel
theorem dX8_house_67 : decode cX8_house 67 = .ok (.invokevirtual 136, 3) := by decide +kernel
theorem dX8_house_70 : decode cX8_house 70 = .ok (.iload_n 2, 1) := by decide +kernel
theorem dX8_house_71 : decode cX8_house 71 = .ok (.ireturn, 1) := by decide +kernel
theorem dX8_count_0 : decode cX8_count 0 = .ok (.iload_n 1, 1) := by decide +kernel
theorem dX8_count_1 : decode cX8_count 1 = .ok (.tableswitch 114 0 5 #[39, 50, 64, 78, 92, 103], 39) := by decide +kernel
theorem dX8_count_40 : decode cX8_count 40 = .ok (.aload_n 0, 1) := by decide +kernel
theorem dX8_count_41 : decode cX8_count 41 = .ok (.getfield 10, 3) := by decide +kernel
theorem dX8_count_44 : decode cX8_count 44 = .ok (.getfield 80, 3) := by decide +kernel
theorem dX8_count_47 : decode cX8_count 47 = .ok (.getfield 90, 3) := by decide +kernel
theorem dX8_count_50 : decode cX8_count 50 = .ok (.ireturn, 1) := by decide +kernel
theorem dX8_count_51 : decode cX8_count 51 = .ok (.aload_n 0, 1) := by decide +kernel
theorem dX8_count_52 : decode cX8_count 52 = .ok (.getfield 10, 3) := by decide +kernel
theorem dX8_count_55 : decode cX8_count 55 = .ok (.getfield 44, 3) := by decide +kernel
theorem dX8_count_58 : decode cX8_count 58 = .ok (.getfield 54, 3) := by decide +kernel
theorem dX8_count_61 : decode cX8_count 61 = .ok (.invokestatic 143, 3) := by decide +kernel
theorem dX8_count_64 : decode cX8_count 64 = .ok (.ireturn, 1) := by decide +kernel
theorem dX8_count_65 : decode cX8_count 65 = .ok (.aload_n 0, 1) := by decide +kernel
theorem dX8_count_66 : decode cX8_count 66 = .ok (.getfield 10, 3) := by decide +kernel
theorem dX8_count_69 : decode cX8_count 69 = .ok (.getfield 44, 3) := by decide +kernel
theorem dX8_count_72 : decode cX8_count 72 = .ok (.getfield 48, 3) := by decide +kernel
theorem dX8_count_75 : decode cX8_count 75 = .ok (.invokestatic 143, 3) := by decide +kernel
theorem dX8_count_78 : decode cX8_count 78 = .ok (.ireturn, 1) := by decide +kernel
theorem dX8_count_79 : decode cX8_count 79 = .ok (.aload_n 0, 1) := by decide +kernel
theorem dX8_count_80 : decode cX8_count 80 = .ok (.getfield 10, 3) := by decide +kernel
theorem dX8_count_83 : decode cX8_count 83 = .ok (.getfield 44, 3) := by decide +kernel
theorem dX8_count_86 : decode cX8_count 86 = .ok (.getfield 61, 3) := by decide +kernel
theorem dX8_count_89 : decode cX8_count 89 = .ok (.invokestatic 143, 3) := by decide +kernel
theorem dX8_count_92 : decode cX8_count 92 = .ok (.ireturn, 1) := by decide +kernel
theorem dX8_count_93 : decode cX8_count 93 = .ok (.aload_n 0, 1) := by decide +kernel
theorem dX8_count_94 : decode cX8_count 94 = .ok (.getfield 10, 3) := by decide +kernel
theorem dX8_count_97 : decode cX8_count 97 = .ok (.getfield 147, 3) := by decide +kernel
theorem dX8_count_100 : decode cX8_count 100 = .ok (.getfield 151, 3) := by decide +kernel
theorem dX8_count_103 : decode cX8_count 103 = .ok (.ireturn, 1) := by decide +kernel
theorem dX8_count_104 : decode cX8_count 104 = .ok (.aload_n 0, 1) := by decide +kernel
theorem dX8_count_105 : decode cX8_count 105 = .ok (.getfield 10, 3) := by decide +kernel
theorem dX8_count_108 : decode cX8_count 108 = .ok (.getfield 154, 3) := by decide +kernel
theorem dX8_count_111 : decode cX8_count 111 = .ok (.getfield 158, 3) := by decide +kernel
theorem dX8_count_114 : decode cX8_count 114 = .ok (.ireturn, 1) := by decide +kernel
theorem dX8_count_115 : decode cX8_count 115 = .ok (.iconst (-1), 1) := by decide +kernel
theorem dX8_count_116 : decode cX8_count 116 = .ok (.ireturn, 1) := by decide +kernel
theorem dX8_pull_0 : decode cX8_pull 0 = .ok (.iload_n 1, 1) := by decide +kernel
theorem dX8_pull_1 : decode cX8_pull 1 = .ok (.aload_n 0, 1) := by decide +kernel
theorem dX8_pull_2 : decode cX8_pull 2 = .ok (.getfield 10, 3) := by decide +kernel
theorem dX8_pull_5 : decode cX8_pull 5 = .ok (.getfield 80, 3) := by decide +kernel
theorem dX8_pull_8 : decode cX8_pull 8 = .ok (.getfield 90, 3) := by decide +kernel
theorem dX8_pull_11 : decode cX8_pull 11 = .ok (.invokestatic 40, 3) := by decide +kernel
theorem dX8_pull_14 : decode cX8_pull 14 = .ok (.ifCond .eq 28, 3) := by decide +kernel
theorem dX8_pull_17 : decode cX8_pull 17 = .ok (.iload_n 2, 1) := by decide +kernel
theorem dX8_pull_18 : decode cX8_pull 18 = .ok (.bipush 16, 2) := by decide +kernel
theorem dX8_pull_20 : decode cX8_pull 20 = .ok (.invokestatic 40, 3) := by decide +kernel
theorem dX8_pull_23 : decode cX8_pull 23 = .ok (.ifCond .eq 19, 3) := by decide +kernel
theorem dX8_pull_26 : decode cX8_pull 26 = .ok (.iload_n 3, 1) := by decide +kernel
theorem dX8_pull_27 : decode cX8_pull 27 = .ok (.iconst 4, 1) := by decide +kernel
theorem dX8_pull_28 : decode cX8_pull 28 = .ok (.invokestatic 40, 3) := by decide +kernel
theorem dX8_pull_31 : decode cX8_pull 31 = .ok (.ifCond .eq 11, 3) := by decide +kernel
theorem dX8_pull_34 : decode cX8_pull 34 = .ok (.iload 4, 2) := by decide +kernel
theorem dX8_pull_36 : decode cX8_pull 36 = .ok (.invokestatic 161, 3) := by decide +kernel
theorem dX8_pull_39 : decode cX8_pull 39 = .ok (.ifCond .ne 5, 3) := by decide +kernel
theorem dX8_pull_42 : decode cX8_pull 42 = .ok (.iconst (-1), 1) := by decide +kernel
theorem dX8_pull_43 : decode cX8_pull 43 = .ok (.ireturn, 1) := by decide +kernel
theorem dX8_pull_44 : decode cX8_pull 44 = .ok (.aload_n 0, 1) := by decide +kernel
theorem dX8_pull_45 : decode cX8_pull 45 = .ok (.getfield 10, 3) := by decide +kernel
theorem dX8_pull_48 : decode cX8_pull 48 = .ok (.aload_n 0, 1) := by decide +kernel
theorem dX8_pull_49 : decode cX8_pull 49 = .ok (.getfield 10, 3) := by decide +kernel
theorem dX8_pull_52 : decode cX8_pull 52 = .ok (.getfield 80, 3) := by decide +kernel
theorem dX8_pull_55 : decode cX8_pull 55 = .ok (.getfield 97, 3) := by decide +kernel
theorem dX8_pull_58 : decode cX8_pull 58 = .ok (.iload_n 1, 1) := by decide +kernel
theorem dX8_pull_59 : decode cX8_pull 59 = .ok (.iaload, 1) := by decide +kernel
theorem dX8_pull_60 : decode cX8_pull 60 = .ok (.aload_n 0, 1) := by decide +kernel
theorem dX8_pull_61 : decode cX8_pull 61 = .ok (.getfield 10, 3) := by decide +kernel
theorem dX8_pull_64 : decode cX8_pull 64 = .ok (.getfield 80, 3) := by decide +kernel
theorem dX8_pull_67 : decode cX8_pull 67 = .ok (.getfield 100, 3) := by decide +kernel
theorem dX8_pull_70 : decode cX8_pull 70 = .ok (.iload_n 1, 1) := by decide +kernel
theorem dX8_pull_71 : decode cX8_pull 71 = .ok (.iaload, 1) := by decide +kernel
theorem dX8_pull_72 : decode cX8_pull 72 = .ok (.iload_n 2, 1) := by decide +kernel
theorem dX8_pull_73 : decode cX8_pull 73 = .ok (.iload 4, 2) := by decide +kernel
theorem dX8_pull_75 : decode cX8_pull 75 = .ok (.invokevirtual 164, 3) := by decide +kernel
theorem dX8_pull_78 : decode cX8_pull 78 = .ok (.aload_n 0, 1) := by decide +kernel
theorem dX8_pull_79 : decode cX8_pull 79 = .ok (.getfield 10, 3) := by decide +kernel
theorem dX8_pull_82 : decode cX8_pull 82 = .ok (.getfield 168, 3) := by decide +kernel
theorem dX8_pull_85 : decode cX8_pull 85 = .ok (.iload_n 3, 1) := by decide +kernel
theorem dX8_pull_86 : decode cX8_pull 86 = .ok (.iaload, 1) := by decide +kernel
theorem dX8_pull_87 : decode cX8_pull 87 = .ok (.ireturn, 1) := by decide +kernel
theorem dX8_heed_0 : decode cX8_heed 0 = .ok (.iload_n 1, 1) := by decide +kernel
theorem dX8_heed_1 : decode cX8_heed 1 = .ok (.aload_n 0, 1) := by decide +kernel
theorem dX8_heed_2 : decode cX8_heed 2 = .ok (.getfield 10, 3) := by decide +kernel
theorem dX8_heed_5 : decode cX8_heed 5 = .ok (.getfield 80, 3) := by decide +kernel
theorem dX8_heed_8 : decode cX8_heed 8 = .ok (.getfield 90, 3) := by decide +kernel
theorem dX8_heed_11 : decode cX8_heed 11 = .ok (.invokestatic 40, 3) := by decide +kernel
theorem dX8_heed_14 : decode cX8_heed 14 = .ok (.ifCond .eq 12, 3) := by decide +kernel
theorem dX8_heed_17 : decode cX8_heed 17 = .ok (.iload_n 2, 1) := by decide +kernel
theorem dX8_heed_18 : decode cX8_heed 18 = .ok (.bipush 16, 2) := by decide +kernel
theorem dX8_heed_20 : decode cX8_heed 20 = .ok (.invokestatic 40, 3) := by decide +kernel
theorem dX8_heed_23 : decode cX8_heed 23 = .ok (.ifCond .ne 5, 3) := by decide +kernel
theorem dX8_heed_26 : decode cX8_heed 26 = .ok (.iconst (-1), 1) := by decide +kernel
theorem dX8_heed_27 : decode cX8_heed 27 = .ok (.ireturn, 1) := by decide +kernel
theorem dX8_heed_28 : decode cX8_heed 28 = .ok (.aload_n 0, 1) := by decide +kernel
theorem dX8_heed_29 : decode cX8_heed 29 = .ok (.getfield 10, 3) := by decide +kernel
theorem dX8_heed_32 : decode cX8_heed 32 = .ok (.getfield 44, 3) := by decide +kernel
theorem dX8_heed_35 : decode cX8_heed 35 = .ok (.iload_n 2, 1) := by decide +kernel
theorem dX8_heed_36 : decode cX8_heed 36 = .ok (.aload_n 0, 1) := by decide +kernel
theorem dX8_heed_37 : decode cX8_heed 37 = .ok (.getfield 10, 3) := by decide +kernel
theorem dX8_heed_40 : decode cX8_heed 40 = .ok (.getfield 80, 3) := by decide +kernel
theorem dX8_heed_43 : decode cX8_heed 43 = .ok (.getfield 97, 3) := by decide +kernel
theorem dX8_heed_46 : decode cX8_heed 46 = .ok (.iload_n 1, 1) := by decide +kernel
theorem dX8_heed_47 : decode cX8_heed 47 = .ok (.iaload, 1) := by decide +kernel
theorem dX8_heed_48 : decode cX8_heed 48 = .ok (.iconst 2, 1) := by decide +kernel
theorem dX8_heed_49 : decode cX8_heed 49 = .ok (.if_icmp .ne 7, 3) := by decide +kernel
theorem dX8_heed_52 : decode cX8_heed 52 = .ok (.iconst 1, 1) := by decide +kernel
theorem dX8_heed_53 : decode cX8_heed 53 = .ok (.goto 4, 3) := by decide +kernel
theorem dX8_heed_56 : decode cX8_heed 56 = .ok (.iconst 0, 1) := by decide +kernel
theorem dX8_heed_57 : decode cX8_heed 57 = .ok (.aload_n 0, 1) := by decide +kernel
theorem dX8_heed_58 : decode cX8_heed 58 = .ok (.getfield 10, 3) := by decide +kernel
theorem dX8_heed_61 : decode cX8_heed 61 = .ok (.getfield 77, 3) := by decide +kernel
theorem dX8_heed_64 : decode cX8_heed 64 = .ok (.iconst 2, 1) := by decide +kernel
theorem dX8_heed_65 : decode cX8_heed 65 = .ok (.iaload, 1) := by decide +kernel
theorem dX8_heed_66 : decode cX8_heed 66 = .ok (.invokevirtual 106, 3) := by decide +kernel
theorem dX8_heed_69 : decode cX8_heed 69 = .ok (.ireturn, 1) := by decide +kernel
theorem dX8_can_0 : decode cX8_can 0 = .ok (.iload_n 1, 1) := by decide +kernel
theorem dX8_can_1 : decode cX8_can 1 = .ok (.bipush 12, 2) := by decide +kernel
theorem dX8_can_3 : decode cX8_can 3 = .ok (.invokestatic 40, 3) := by decide +kernel
theorem dX8_can_6 : decode cX8_can 6 = .ok (.ifCond .eq 11, 3) := by decide +kernel
theorem dX8_can_9 : decode cX8_can 9 = .ok (.iload_n 2, 1) := by decide +kernel
theorem dX8_can_10 : decode cX8_can 10 = .ok (.iconst 4, 1) := by decide +kernel
theorem dX8_can_11 : decode cX8_can 11 = .ok (.invokestatic 40, 3) := by decide +kernel
theorem dX8_can_14 : decode cX8_can 14 = .ok (.ifCond .ne 5, 3) := by decide +kernel
theorem dX8_can_17 : decode cX8_can 17 = .ok (.iconst (-1), 1) := by decide +kernel
theorem dX8_can_18 : decode cX8_can 18 = .ok (.ireturn, 1) := by decide +kernel
theorem dX8_can_19 : decode cX8_can 19 = .ok (.iload_n 1, 1) := by decide +kernel
theorem dX8_can_20 : decode cX8_can 20 = .ok (.iload_n 2, 1) := by decide +kernel
theorem dX8_can_21 : decode cX8_can 21 = .ok (.aload_n 0, 1) := by decide +kernel
theorem dX8_can_22 : decode cX8_can 22 = .ok (.getfield 10, 3) := by decide +kernel
theorem dX8_can_25 : decode cX8_can 25 = .ok (.getfield 70, 3) := by decide +kernel
theorem dX8_can_28 : decode cX8_can 28 = .ok (.invokestatic 171, 3) := by decide +kernel
theorem dX8_can_31 : decode cX8_can 31 = .ok (.ifCond .eq 7, 3) := by decide +kernel
theorem dX8_can_34 : decode cX8_can 34 = .ok (.iconst 1, 1) := by decide +kernel
theorem dX8_can_35 : decode cX8_can 35 = .ok (.goto 4, 3) := by decide +kernel
theorem dX8_can_38 : decode cX8_can 38 = .ok (.iconst 0, 1) := by decide +kernel
theorem dX8_can_39 : decode cX8_can 39 = .ok (.ireturn, 1) := by decide +kernel
theorem dX8_odds_0 : decode cX8_odds 0 = .ok (.iload_n 1, 1) := by decide +kernel
theorem dX8_odds_1 : decode cX8_odds 1 = .ok (.aload_n 0, 1) := by decide +kernel
theorem dX8_odds_2 : decode cX8_odds 2 = .ok (.getfield 10, 3) := by decide +kernel
theorem dX8_odds_5 : decode cX8_odds 5 = .ok (.getfield 80, 3) := by decide +kernel
theorem dX8_odds_8 : decode cX8_odds 8 = .ok (.getfield 90, 3) := by decide +kernel
theorem dX8_odds_11 : decode cX8_odds 11 = .ok (.invokestatic 40, 3) := by decide +kernel
theorem dX8_odds_14 : decode cX8_odds 14 = .ok (.ifCond .eq 28, 3) := by decide +kernel
theorem dX8_odds_17 : decode cX8_odds 17 = .ok (.iload_n 2, 1) := by decide +kernel
theorem dX8_odds_18 : decode cX8_odds 18 = .ok (.bipush 16, 2) := by decide +kernel
theorem dX8_odds_20 : decode cX8_odds 20 = .ok (.invokestatic 40, 3) := by decide +kernel
theorem dX8_odds_23 : decode cX8_odds 23 = .ok (.ifCond .eq 19, 3) := by decide +kernel
theorem dX8_odds_26 : decode cX8_odds 26 = .ok (.iload_n 3, 1) := by decide +kernel
theorem dX8_odds_27 : decode cX8_odds 27 = .ok (.invokestatic 161, 3) := by decide +kernel
theorem dX8_odds_30 : decode cX8_odds 30 = .ok (.ifCond .eq 12, 3) := by decide +kernel
theorem dX8_odds_33 : decode cX8_odds 33 = .ok (.iload 4, 2) := by decide +kernel
theorem dX8_odds_35 : decode cX8_odds 35 = .ok (.iconst 2, 1) := by decide +kernel
theorem dX8_odds_36 : decode cX8_odds 36 = .ok (.invokestatic 40, 3) := by decide +kernel
theorem dX8_odds_39 : decode cX8_odds 39 = .ok (.ifCond .ne 5, 3) := by decide +kernel
theorem dX8_odds_42 : decode cX8_odds 42 = .ok (.iconst (-1), 1) := by decide +kernel
theorem dX8_odds_43 : decode cX8_odds 43 = .ok (.ireturn, 1) := by decide +kernel
theorem dX8_odds_44 : decode cX8_odds 44 = .ok (.aload_n 0, 1) := by decide +kernel
theorem dX8_odds_45 : decode cX8_odds 45 = .ok (.getfield 10, 3) := by decide +kernel
theorem dX8_odds_48 : decode cX8_odds 48 = .ok (.getfield 44, 3) := by decide +kernel
theorem dX8_odds_51 : decode cX8_odds 51 = .ok (.getfield 54, 3) := by decide +kernel
theorem dX8_odds_54 : decode cX8_odds 54 = .ok (.iload_n 2, 1) := by decide +kernel
theorem dX8_odds_55 : decode cX8_odds 55 = .ok (.iaload, 1) := by decide +kernel
theorem dX8_odds_56 : decode cX8_odds 56 = .ok (.ifCond .ne 6, 3) := by decide +kernel
theorem dX8_odds_59 : decode cX8_odds 59 = .ok (.bipush (-2), 2) := by decide +kernel
theorem dX8_odds_61 : decode cX8_odds 61 = .ok (.ireturn, 1) := by decide +kernel
theorem dX8_odds_62 : decode cX8_odds 62 = .ok (.aload_n 0, 1) := by decide +kernel
theorem dX8_odds_63 : decode cX8_odds 63 = .ok (.getfield 10, 3) := by decide +kernel
theorem dX8_odds_66 : decode cX8_odds 66 = .ok (.iload_n 1, 1) := by decide +kernel
theorem dX8_odds_67 : decode cX8_odds 67 = .ok (.iload_n 2, 1) := by decide +kernel
theorem dX8_odds_68 : decode cX8_odds 68 = .ok (.iload_n 3, 1) := by decide +kernel
theorem dX8_odds_69 : decode cX8_odds 69 = .ok (.aload_n 0, 1) := by decide +kernel
theorem dX8_odds_70 : decode cX8_odds 70 = .ok (.getfield 10, 3) := by decide +kernel
theorem dX8_odds_73 : decode cX8_odds 73 = .ok (.getfield 44, 3) := by decide +kernel
theorem dX8_odds_76 : decode cX8_odds 76 = .ok (.iload_n 2, 1) := by decide +kernel
theorem dX8_odds_77 : decode cX8_odds 77 = .ok (.aload_n 0, 1) := by decide +kernel
theorem dX8_odds_78 : decode cX8_odds 78 = .ok (.getfield 10, 3) := by decide +kernel
theorem dX8_odds_81 : decode cX8_odds 81 = .ok (.getfield 80, 3) := by decide +kernel
theorem dX8_odds_84 : decode cX8_odds 84 = .ok (.getfield 97, 3) := by decide +kernel
theorem dX8_odds_87 : decode cX8_odds 87 = .ok (.iload_n 1, 1) := by decide +kernel
theorem dX8_odds_88 : decode cX8_odds 88 = .ok (.iaload, 1) := by decide +kernel
theorem dX8_odds_89 : decode cX8_odds 89 = .ok (.iconst 2, 1) := by decide +kernel
theorem dX8_odds_90 : decode cX8_odds 90 = .ok (.if_icmp .ne 7, 3) := by decide +kernel
theorem dX8_odds_93 : decode cX8_odds 93 = .ok (.iconst 1, 1) := by decide +kernel
theorem dX8_odds_94 : decode cX8_odds 94 = .ok (.goto 4, 3) := by decide +kernel
theorem dX8_odds_97 : decode cX8_odds 97 = .ok (.iconst 0, 1) := by decide +kernel
theorem dX8_odds_98 : decode cX8_odds 98 = .ok (.aload_n 0, 1) := by decide +kernel
theorem dX8_odds_99 : decode cX8_odds 99 = .ok (.getfield 10, 3) := by decide +kernel
theorem dX8_odds_102 : decode cX8_odds 102 = .ok (.getfield 77, 3) := by decide +kernel
theorem dX8_odds_105 : decode cX8_odds 105 = .ok (.iconst 2, 1) := by decide +kernel
theorem dX8_odds_106 : decode cX8_odds 106 = .ok (.iaload, 1) := by decide +kernel
theorem dX8_odds_107 : decode cX8_odds 107 = .ok (.invokevirtual 106, 3) := by decide +kernel
theorem dX8_odds_110 : decode cX8_odds 110 = .ok (.invokevirtual 175, 3) := by decide +kernel
theorem dX8_odds_113 : decode cX8_odds 113 = .ok (.aload_n 0, 1) := by decide +kernel
theorem dX8_odds_114 : decode cX8_odds 114 = .ok (.getfield 10, 3) := by decide +kernel
theorem dX8_odds_117 : decode cX8_odds 117 = .ok (.getfield 178, 3) := by decide +kernel
theorem dX8_odds_120 : decode cX8_odds 120 = .ok (.aload_n 0, 1) := by decide +kernel
theorem dX8_odds_121 : decode cX8_odds 121 = .ok (.getfield 10, 3) := by decide +kernel
theorem dX8_odds_124 : decode cX8_odds 124 = .ok (.getfield 181, 3) := by decide +kernel
theorem dX8_odds_127 : decode cX8_odds 127 = .ok (.invokestatic 184, 3) := by decide +kernel
theorem dX8_odds_130 : decode cX8_odds 130 = .ok (.istore 5, 2) := by decide +kernel
theorem dX8_odds_132 : decode cX8_odds 132 = .ok (.iload 4, 2) := by decide +kernel
theorem dX8_odds_134 : decode cX8_odds 134 = .ok (.ifCond .ne 13, 3) := by decide +kernel
theorem dX8_odds_137 : decode cX8_odds 137 = .ok (.aload_n 0, 1) := by decide +kernel
theorem dX8_odds_138 : decode cX8_odds 138 = .ok (.getfield 10, 3) := by decide +kernel
theorem dX8_odds_141 : decode cX8_odds 141 = .ok (.getfield 178, 3) := by decide +kernel
theorem dX8_odds_144 : decode cX8_odds 144 = .ok (.goto 10, 3) := by decide +kernel
theorem dX8_odds_147 : decode cX8_odds 147 = .ok (.aload_n 0, 1) := by decide +kernel
theorem dX8_odds_148 : decode cX8_odds 148 = .ok (.getfield 10, 3) := by decide +kernel
theorem dX8_odds_151 : decode cX8_odds 151 = .ok (.getfield 181, 3) := by decide +kernel
theorem dX8_odds_154 : decode cX8_odds 154 = .ok (.iload 5, 2) := by decide +kernel
theorem dX8_odds_156 : decode cX8_odds 156 = .ok (.ifCond .ne 7, 3) := by decide +kernel
theorem dX8_odds_159 : decode cX8_odds 159 = .ok (.iconst 1, 1) := by decide +kernel
theorem dX8_odds_160 : decode cX8_odds 160 = .ok (.goto 5, 3) := by decide +kernel
theorem dX8_odds_163 : decode cX8_odds 163 = .ok (.iload 5, 2) := by decide +kernel
theorem dX8_odds_165 : decode cX8_odds 165 = .ok (.idiv, 1) := by decide +kernel
theorem dX8_odds_166 : decode cX8_odds 166 = .ok (.ireturn, 1) := by decide +kernel
theorem dX8_sees_0 : decode cX8_sees 0 = .ok (.iload_n 1, 1) := by decide +kernel
theorem dX8_sees_1 : decode cX8_sees 1 = .ok (.iconst (-1), 1) := by decide +kernel
theorem dX8_sees_2 : decode cX8_sees 2 = .ok (.if_icmp .lt 16, 3) := by decide +kernel
theorem dX8_sees_5 : decode cX8_sees 5 = .ok (.iload_n 1, 1) := by decide +kernel
theorem dX8_sees_6 : decode cX8_sees 6 = .ok (.bipush 16, 2) := by decide +kernel
theorem dX8_sees_8 : decode cX8_sees 8 = .ok (.if_icmp .ge 10, 3) := by decide +kernel
theorem dX8_sees_11 : decode cX8_sees 11 = .ok (.iload_n 2, 1) := by decide +kernel
theorem dX8_sees_12 : decode cX8_sees 12 = .ok (.invokestatic 161, 3) := by decide +kernel
theorem dX8_sees_15 : decode cX8_sees 15 = .ok (.ifCond .ne 5, 3) := by decide +kernel
theorem dX8_sees_18 : decode cX8_sees 18 = .ok (.iconst (-1), 1) := by decide +kernel
theorem dX8_sees_19 : decode cX8_sees 19 = .ok (.ireturn, 1) := by decide +kernel
theorem dX8_sees_20 : decode cX8_sees 20 = .ok (.iload_n 1, 1) := by decide +kernel
theorem dX8_sees_21 : decode cX8_sees 21 = .ok (.iconst (-1), 1) := by decide +kernel
theorem dX8_sees_22 : decode cX8_sees 22 = .ok (.if_icmp .ne 12, 3) := by decide +kernel
theorem dX8_sees_25 : decode cX8_sees 25 = .ok (.aload_n 0, 1) := by decide +kernel
theorem dX8_sees_26 : decode cX8_sees 26 = .ok (.getfield 10, 3) := by decide +kernel
theorem dX8_sees_29 : decode cX8_sees 29 = .ok (.iload_n 2, 1) := by decide +kernel
theorem dX8_sees_30 : decode cX8_sees 30 = .ok (.invokevirtual 188, 3) := by decide +kernel
theorem dX8_sees_33 : decode cX8_sees 33 = .ok (.ireturn, 1) := by decide +kernel
theorem dX8_sees_34 : decode cX8_sees 34 = .ok (.aload_n 0, 1) := by decide +kernel
theorem dX8_sees_35 : decode cX8_sees 35 = .ok (.getfield 10, 3) := by decide +kernel
theorem dX8_sees_38 : decode cX8_sees 38 = .ok (.getfield 44, 3) := by decide +kernel
theorem dX8_sees_41 : decode cX8_sees 41 = .ok (.getfield 54, 3) := by decide +kernel
theorem dX8_sees_44 : decode cX8_sees 44 = .ok (.iload_n 1, 1) := by decide +kernel
theorem dX8_sees_45 : decode cX8_sees 45 = .ok (.iaload, 1) := by decide +kernel
theorem dX8_sees_46 : decode cX8_sees 46 = .ok (.ifCond .ne 8, 3) := by decide +kernel
theorem dX8_sees_49 : decode cX8_sees 49 = .ok (.bipush (-2), 2) := by decide +kernel
theorem dX8_sees_51 : decode cX8_sees 51 = .ok (.goto 12, 3) := by decide +kernel
theorem dX8_sees_54 : decode cX8_sees 54 = .ok (.aload_n 0, 1) := by decide +kernel
theorem dX8_sees_55 : decode cX8_sees 55 = .ok (.getfield 10, 3) := by decide +kernel
theorem dX8_sees_58 : decode cX8_sees 58 = .ok (.iload_n 1, 1) := by decide +kernel
theorem dX8_sees_59 : decode cX8_sees 59 = .ok (.iload_n 2, 1) := by decide +kernel
theorem dX8_sees_60 : decode cX8_sees 60 = .ok (.invokevirtual 192, 3) := by decide +kernel
theorem dX8_sees_63 : decode cX8_sees 63 = .ok (.ireturn, 1) := by decide +kernel
theorem dX8_quiet_0 : decode cX8_quiet 0 = .ok (.iload_n 1, 1) := by decide +kernel
theorem dX8_quiet_1 : decode cX8_quiet 1 = .ok (.bipush 16, 2) := by decide +kernel
theorem dX8_quiet_3 : decode cX8_quiet 3 = .ok (.invokestatic 40, 3) := by decide +kernel
theorem dX8_quiet_6 : decode cX8_quiet 6 = .ok (.ifCond .eq 11, 3) := by decide +kernel
theorem dX8_quiet_9 : decode cX8_quiet 9 = .ok (.iload_n 2, 1) := by decide +kernel
theorem dX8_quiet_10 : decode cX8_quiet 10 = .ok (.iconst 2, 1) := by decide +kernel
theorem dX8_quiet_11 : decode cX8_quiet 11 = .ok (.invokestatic 40, 3) := by decide +kernel
theorem dX8_quiet_14 : decode cX8_quiet 14 = .ok (.ifCond .ne 5, 3) := by decide +kernel
theorem dX8_quiet_17 : decode cX8_quiet 17 = .ok (.iconst (-1), 1) := by decide +kernel
theorem dX8_quiet_18 : decode cX8_quiet 18 = .ok (.ireturn, 1) := by decide +kernel
theorem dX8_quiet_19 : decode cX8_quiet 19 = .ok (.aload_n 0, 1) := by decide +kernel
theorem dX8_quiet_20 : decode cX8_quiet 20 = .ok (.getfield 10, 3) := by decide +kernel
theorem dX8_quiet_23 : decode cX8_quiet 23 = .ok (.getfield 44, 3) := by decide +kernel
theorem dX8_quiet_26 : decode cX8_quiet 26 = .ok (.getfield 54, 3) := by decide +kernel
theorem dX8_quiet_29 : decode cX8_quiet 29 = .ok (.iload_n 1, 1) := by decide +kernel
theorem dX8_quiet_30 : decode cX8_quiet 30 = .ok (.iaload, 1) := by decide +kernel
theorem dX8_quiet_31 : decode cX8_quiet 31 = .ok (.ifCond .ne 6, 3) := by decide +kernel
theorem dX8_quiet_34 : decode cX8_quiet 34 = .ok (.bipush (-2), 2) := by decide +kernel
theorem dX8_quiet_36 : decode cX8_quiet 36 = .ok (.ireturn, 1) := by decide +kernel
theorem dX8_quiet_37 : decode cX8_quiet 37 = .ok (.aload_n 0, 1) := by decide +kernel
theorem dX8_quiet_38 : decode cX8_quiet 38 = .ok (.getfield 22, 3) := by decide +kernel
theorem dX8_quiet_41 : decode cX8_quiet 41 = .ok (.aload_n 0, 1) := by decide +kernel
theorem dX8_quiet_42 : decode cX8_quiet 42 = .ok (.getfield 10, 3) := by decide +kernel
theorem dX8_quiet_45 : decode cX8_quiet 45 = .ok (.iload_n 1, 1) := by decide +kernel
theorem dX8_quiet_46 : decode cX8_quiet 46 = .ok (.invokevirtual 195, 3) := by decide +kernel
theorem dX8_quiet_49 : decode cX8_quiet 49 = .ok (.istore_n 3, 1) := by decide +kernel
theorem dX8_quiet_50 : decode cX8_quiet 50 = .ok (.iload_n 2, 1) := by decide +kernel
theorem dX8_quiet_51 : decode cX8_quiet 51 = .ok (.ifCond .ne 7, 3) := by decide +kernel
theorem dX8_quiet_54 : decode cX8_quiet 54 = .ok (.iload_n 3, 1) := by decide +kernel
theorem dX8_quiet_55 : decode cX8_quiet 55 = .ok (.goto 16, 3) := by decide +kernel
theorem dX8_quiet_58 : decode cX8_quiet 58 = .ok (.aload_n 0, 1) := by decide +kernel
theorem dX8_quiet_59 : decode cX8_quiet 59 = .ok (.getfield 22, 3) := by decide +kernel
theorem dX8_quiet_62 : decode cX8_quiet 62 = .ok (.aload_n 0, 1) := by decide +kernel
theorem dX8_quiet_63 : decode cX8_quiet 63 = .ok (.getfield 10, 3) := by decide +kernel
theorem dX8_quiet_66 : decode cX8_quiet 66 = .ok (.iload_n 1, 1) := by decide +kernel
theorem dX8_quiet_67 : decode cX8_quiet 67 = .ok (.iload_n 3, 1) := by decide +kernel
theorem dX8_quiet_68 : decode cX8_quiet 68 = .ok (.invokevirtual 199, 3) := by decide +kernel
theorem dX8_quiet_71 : decode cX8_quiet 71 = .ok (.ireturn, 1) := by decide +kernel
theorem dX8_cover_0 : decode cX8_cover 0 = .ok (.iload_n 1, 1) := by decide +kernel
theorem dX8_cover_1 : decode cX8_cover 1 = .ok (.bipush 16, 2) := by decide +kernel
theorem dX8_cover_3 : decode cX8_cover 3 = .ok (.invokestatic 40, 3) := by decide +kernel
theorem dX8_cover_6 : decode cX8_cover 6 = .ok (.ifCond .eq 38, 3) := by decide +kernel
theorem dX8_cover_9 : decode cX8_cover 9 = .ok (.iload_n 2, 1) := by decide +kernel
theorem dX8_cover_10 : decode cX8_cover 10 = .ok (.iconst 4, 1) := by decide +kernel
theorem dX8_cover_11 : decode cX8_cover 11 = .ok (.invokestatic 40, 3) := by decide +kernel
theorem dX8_cover_14 : decode cX8_cover 14 = .ok (.ifCond .eq 30, 3) := by decide +kernel
theorem dX8_cover_17 : decode cX8_cover 17 = .ok (.iload_n 3, 1) := by decide +kernel
theorem dX8_cover_18 : decode cX8_cover 18 = .ok (.iload_n 2, 1) := by decide +kernel
theorem dX8_cover_19 : decode cX8_cover 19 = .ok (.iconst 3, 1) := by decide +kernel
theorem dX8_cover_20 : decode cX8_cover 20 = .ok (.if_icmp .ne 7, 3) := by decide +kernel
theorem dX8_cover_23 : decode cX8_cover 23 = .ok (.iconst 1, 1) := by decide +kernel
theorem dX8_cover_24 : decode cX8_cover 24 = .ok (.goto 4, 3) := by decide +kernel
theorem dX8_cover_27 : decode cX8_cover 27 = .ok (.iconst 4, 1) := by decide +kernel
theorem dX8_cover_28 : decode cX8_cover 28 = .ok (.invokestatic 40, 3) := by decide +kernel
theorem dX8_cover_31 : decode cX8_cover 31 = .ok (.ifCond .eq 13, 3) := by decide +kernel
theorem dX8_cover_34 : decode cX8_cover 34 = .ok (.iload 4, 2) := by decide +kernel
theorem dX8_cover_36 : decode cX8_cover 36 = .ok (.bipush 100, 2) := by decide +kernel
theorem dX8_cover_38 : decode cX8_cover 38 = .ok (.invokestatic 40, 3) := by decide +kernel
theorem dX8_cover_41 : decode cX8_cover 41 = .ok (.ifCond .ne 5, 3) := by decide +kernel
theorem dX8_cover_44 : decode cX8_cover 44 = .ok (.iconst (-1), 1) := by decide +kernel
theorem dX8_cover_45 : decode cX8_cover 45 = .ok (.ireturn, 1) := by decide +kernel
theorem dX8_cover_46 : decode cX8_cover 46 = .ok (.aload_n 0, 1) := by decide +kernel
theorem dX8_cover_47 : decode cX8_cover 47 = .ok (.getfield 10, 3) := by decide +kernel
theorem dX8_cover_50 : decode cX8_cover 50 = .ok (.getfield 147, 3) := by decide +kernel
theorem dX8_cover_53 : decode cX8_cover 53 = .ok (.getfield 151, 3) := by decide +kernel
theorem dX8_cover_56 : decode cX8_cover 56 = .ok (.bipush 8, 2) := by decide +kernel
theorem dX8_cover_58 : decode cX8_cover 58 = .ok (.if_icmp .lt 6, 3) := by decide +kernel
theorem dX8_cover_61 : decode cX8_cover 61 = .ok (.bipush (-3), 2) := by decide +kernel
theorem dX8_cover_63 : decode cX8_cover 63 = .ok (.ireturn, 1) := by decide +kernel
theorem dX8_cover_64 : decode cX8_cover 64 = .ok (.aload_n 0, 1) := by decide +kernel
theorem dX8_cover_65 : decode cX8_cover 65 = .ok (.getfield 10, 3) := by decide +kernel
theorem dX8_cover_68 : decode cX8_cover 68 = .ok (.getfield 147, 3) := by decide +kernel
theorem dX8_cover_71 : decode cX8_cover 71 = .ok (.iload_n 1, 1) := by decide +kernel
theorem dX8_cover_72 : decode cX8_cover 72 = .ok (.iload_n 2, 1) := by decide +kernel
theorem dX8_cover_73 : decode cX8_cover 73 = .ok (.iload_n 3, 1) := by decide +kernel
theorem dX8_cover_74 : decode cX8_cover 74 = .ok (.iload 4, 2) := by decide +kernel
theorem dX8_cover_76 : decode cX8_cover 76 = .ok (.invokevirtual 203, 3) := by decide +kernel
theorem dX8_cover_79 : decode cX8_cover 79 = .ok (.aload_n 0, 1) := by decide +kernel
theorem dX8_cover_80 : decode cX8_cover 80 = .ok (.getfield 10, 3) := by decide +kernel
theorem dX8_cover_83 : decode cX8_cover 83 = .ok (.getfield 147, 3) := by decide +kernel
theorem dX8_cover_86 : decode cX8_cover 86 = .ok (.getfield 151, 3) := by decide +kernel
theorem dX8_cover_89 : decode cX8_cover 89 = .ok (.iconst 1, 1) := by decide +kernel
theorem dX8_cover_90 : decode cX8_cover 90 = .ok (.isub, 1) := by decide +kernel
theorem dX8_cover_91 : decode cX8_cover 91 = .ok (.ireturn, 1) := by decide +kernel
theorem dX8_does_0 : decode cX8_does 0 = .ok (.iload_n 1, 1) := by decide +kernel
theorem dX8_does_1 : decode cX8_does 1 = .ok (.aload_n 0, 1) := by decide +kernel
theorem dX8_does_2 : decode cX8_does 2 = .ok (.getfield 10, 3) := by decide +kernel
theorem dX8_does_5 : decode cX8_does 5 = .ok (.getfield 147, 3) := by decide +kernel
theorem dX8_does_8 : decode cX8_does 8 = .ok (.getfield 151, 3) := by decide +kernel
theorem dX8_does_11 : decode cX8_does 11 = .ok (.invokestatic 40, 3) := by decide +kernel
theorem dX8_does_14 : decode cX8_does 14 = .ok (.ifCond .eq 11, 3) := by decide +kernel
theorem dX8_does_17 : decode cX8_does 17 = .ok (.iload_n 2, 1) := by decide +kernel
theorem dX8_does_18 : decode cX8_does 18 = .ok (.iconst 2, 1) := by decide +kernel
theorem dX8_does_19 : decode cX8_does 19 = .ok (.invokestatic 40, 3) := by decide +kernel
theorem dX8_does_22 : decode cX8_does 22 = .ok (.ifCond .ne 6, 3) := by decide +kernel
theorem dX8_does_25 : decode cX8_does 25 = .ok (.ldc 206, 2) := by decide +kernel
theorem dX8_does_27 : decode cX8_does 27 = .ok (.ireturn, 1) := by decide +kernel
theorem dX8_does_28 : decode cX8_does 28 = .ok (.iconst 1, 1) := by decide +kernel
theorem dX8_does_29 : decode cX8_does 29 = .ok (.iload_n 1, 1) := by decide +kernel
theorem dX8_does_30 : decode cX8_does 30 = .ok (.ishl, 1) := by decide +kernel
theorem dX8_does_31 : decode cX8_does 31 = .ok (.istore_n 3, 1) := by decide +kernel
theorem dX8_does_32 : decode cX8_does 32 = .ok (.iload_n 2, 1) := by decide +kernel
theorem dX8_does_33 : decode cX8_does 33 = .ok (.ifCond .ne 25, 3) := by decide +kernel
theorem dX8_does_36 : decode cX8_does 36 = .ok (.aload_n 0, 1) := by decide +kernel
theorem dX8_does_37 : decode cX8_does 37 = .ok (.getfield 10, 3) := by decide +kernel
theorem dX8_does_40 : decode cX8_does 40 = .ok (.iconst 1, 1) := by decide +kernel
theorem dX8_does_41 : decode cX8_does 41 = .ok (.invokevirtual 188, 3) := by decide +kernel
theorem dX8_does_44 : decode cX8_does 44 = .ok (.aload_n 0, 1) := by decide +kernel
theorem dX8_does_45 : decode cX8_does 45 = .ok (.getfield 22, 3) := by decide +kernel
theorem dX8_does_48 : decode cX8_does 48 = .ok (.aload_n 0, 1) := by decide +kernel
theorem dX8_does_49 : decode cX8_does 49 = .ok (.getfield 10, 3) := by decide +kernel
theorem dX8_does_52 : decode cX8_does 52 = .ok (.iload_n 3, 1) := by decide +kernel
theorem dX8_does_53 : decode cX8_does 53 = .ok (.invokevirtual 207, 3) := by decide +kernel
theorem dX8_does_56 : decode cX8_does 56 = .ok (.isub, 1) := by decide +kernel
theorem dX8_does_57 : decode cX8_does 57 = .ok (.ireturn, 1) := by decide +kernel
theorem dX8_does_58 : decode cX8_does 58 = .ok (.iconst 1, 1) := by decide +kernel
theorem dX8_does_59 : decode cX8_does 59 = .ok (.aload_n 0, 1) := by decide +kernel
theorem dX8_does_60 : decode cX8_does 60 = .ok (.getfield 10, 3) := by decide +kernel
theorem dX8_does_63 : decode cX8_does 63 = .ok (.getfield 147, 3) := by decide +kernel
theorem dX8_does_66 : decode cX8_does 66 = .ok (.getfield 151, 3) := by decide +kernel
theorem dX8_does_69 : decode cX8_does 69 = .ok (.ishl, 1) := by decide +kernel
theorem dX8_does_70 : decode cX8_does 70 = .ok (.iconst 1, 1) := by decide +kernel
theorem dX8_does_71 : decode cX8_does 71 = .ok (.isub, 1) := by decide +kernel
theorem dX8_does_72 : decode cX8_does 72 = .ok (.istore 4, 2) := by decide +kernel
theorem dX8_does_74 : decode cX8_does 74 = .ok (.aload_n 0, 1) := by decide +kernel
theorem dX8_does_75 : decode cX8_does 75 = .ok (.getfield 22, 3) := by decide +kernel
theorem dX8_does_78 : decode cX8_does 78 = .ok (.aload_n 0, 1) := by decide +kernel
theorem dX8_does_79 : decode cX8_does 79 = .ok (.getfield 10, 3) := by decide +kernel
theorem dX8_does_82 : decode cX8_does 82 = .ok (.iload 4, 2) := by decide +kernel
theorem dX8_does_84 : decode cX8_does 84 = .ok (.iload_n 3, 1) := by decide +kernel
theorem dX8_does_85 : decode cX8_does 85 = .ok (.isub, 1) := by decide +kernel
theorem dX8_does_86 : decode cX8_does 86 = .ok (.invokevirtual 207, 3) := by decide +kernel
theorem dX8_does_89 : decode cX8_does 89 = .ok (.aload_n 0, 1) := by decide +kernel
theorem dX8_does_90 : decode cX8_does 90 = .ok (.getfield 22, 3) := by decide +kernel
theorem dX8_does_93 : decode cX8_does 93 = .ok (.aload_n 0, 1) := by decide +kernel
theorem dX8_does_94 : decode cX8_does 94 = .ok (.getfield 10, 3) := by decide +kernel
theorem dX8_does_97 : decode cX8_does 97 = .ok (.iload 4, 2) := by decide +kernel
theorem dX8_does_99 : decode cX8_does 99 = .ok (.invokevirtual 207, 3) := by decide +kernel
theorem dX8_does_102 : decode cX8_does 102 = .ok (.isub, 1) := by decide +kernel
theorem dX8_does_103 : decode cX8_does 103 = .ok (.ireturn, 1) := by decide +kernel
theorem dX8_bought_0 : decode cX8_bought 0 = .ok (.iload_n 1, 1) := by decide +kernel
theorem dX8_bought_1 : decode cX8_bought 1 = .ok (.sipush 1000, 3) := by decide +kernel
theorem dX8_bought_4 : decode cX8_bought 4 = .ok (.invokestatic 40, 3) := by decide +kernel
theorem dX8_bought_7 : decode cX8_bought 7 = .ok (.ifCond .eq 11, 3) := by decide +kernel
theorem dX8_bought_10 : decode cX8_bought 10 = .ok (.iload_n 2, 1) := by decide +kernel
theorem dX8_bought_11 : decode cX8_bought 11 = .ok (.iconst 3, 1) := by decide +kernel
theorem dX8_bought_12 : decode cX8_bought 12 = .ok (.invokestatic 40, 3) := by decide +kernel
theorem dX8_bought_15 : decode cX8_bought 15 = .ok (.ifCond .ne 5, 3) := by decide +kernel
theorem dX8_bought_18 : decode cX8_bought 18 = .ok (.iconst (-1), 1) := by decide +kernel
theorem dX8_bought_19 : decode cX8_bought 19 = .ok (.ireturn, 1) := by decide +kernel
theorem dX8_bought_20 : decode cX8_bought 20 = .ok (.aload_n 0, 1) := by decide +kernel
theorem dX8_bought_21 : decode cX8_bought 21 = .ok (.getfield 22, 3) := by decide +kernel
theorem dX8_bought_24 : decode cX8_bought 24 = .ok (.aload_n 0, 1) := by decide +kernel
theorem dX8_bought_25 : decode cX8_bought 25 = .ok (.getfield 10, 3) := by decide +kernel
theorem dX8_bought_28 : decode cX8_bought 28 = .ok (.iload_n 1, 1) := by decide +kernel
theorem dX8_bought_29 : decode cX8_bought 29 = .ok (.invokevirtual 210, 3) := by decide +kernel
theorem dX8_bought_32 : decode cX8_bought 32 = .ok (.istore_n 3, 1) := by decide +kernel
theorem dX8_bought_33 : decode cX8_bought 33 = .ok (.iload_n 2, 1) := by decide +kernel
theorem dX8_bought_34 : decode cX8_bought 34 = .ok (.ifCond .ne 5, 3) := by decide +kernel
theorem dX8_bought_37 : decode cX8_bought 37 = .ok (.iload_n 3, 1) := by decide +kernel
theorem dX8_bought_38 : decode cX8_bought 38 = .ok (.ireturn, 1) := by decide +kernel
theorem dX8_bought_39 : decode cX8_bought 39 = .ok (.iload_n 2, 1) := by decide +kernel
theorem dX8_bought_40 : decode cX8_bought 40 = .ok (.iconst 1, 1) := by decide +kernel
theorem dX8_bought_41 : decode cX8_bought 41 = .ok (.if_icmp .ne 18, 3) := by decide +kernel
theorem dX8_bought_44 : decode cX8_bought 44 = .ok (.aload_n 0, 1) := by decide +kernel
theorem dX8_bought_45 : decode cX8_bought 45 = .ok (.getfield 22, 3) := by decide +kernel
theorem dX8_bought_48 : decode cX8_bought 48 = .ok (.aload_n 0, 1) := by decide +kernel
theorem dX8_bought_49 : decode cX8_bought 49 = .ok (.getfield 10, 3) := by decide +kernel
theorem dX8_bought_52 : decode cX8_bought 52 = .ok (.iload_n 3, 1) := by decide +kernel
theorem dX8_bought_53 : decode cX8_bought 53 = .ok (.invokevirtual 207, 3) := by decide +kernel
theorem dX8_bought_56 : decode cX8_bought 56 = .ok (.goto 14, 3) := by decide +kernel
theorem dX8_bought_59 : decode cX8_bought 59 = .ok (.aload_n 0, 1) := by decide +kernel
theorem dX8_bought_60 : decode cX8_bought 60 = .ok (.getfield 10, 3) := by decide +kernel
theorem dX8_bought_63 : decode cX8_bought 63 = .ok (.getfield 147, 3) := by decide +kernel
theorem dX8_bought_66 : decode cX8_bought 66 = .ok (.iload_n 3, 1) := by decide +kernel
theorem dX8_bought_67 : decode cX8_bought 67 = .ok (.invokevirtual 213, 3) := by decide +kernel
theorem dX8_bought_70 : decode cX8_bought 70 = .ok (.ireturn, 1) := by decide +kernel
theorem dX8_stances_0 : decode cX8_stances 0 = .ok (.iconst 0, 1) := by decide +kernel
theorem dX8_stances_1 : decode cX8_stances 1 = .ok (.istore_n 1, 1) := by decide +kernel
theorem dX8_stances_2 : decode cX8_stances 2 = .ok (.iconst 0, 1) := by decide +kernel
theorem dX8_stances_3 : decode cX8_stances 3 = .ok (.istore_n 2, 1) := by decide +kernel
theorem dX8_stances_4 : decode cX8_stances 4 = .ok (.iload_n 2, 1) := by decide +kernel
theorem dX8_stances_5 : decode cX8_stances 5 = .ok (.iconst 4, 1) := by decide +kernel
theorem dX8_stances_6 : decode cX8_stances 6 = .ok (.if_icmp .ge 26, 3) := by decide +kernel
theorem dX8_stances_9 : decode cX8_stances 9 = .ok (.aload_n 0, 1) := by decide +kernel
theorem dX8_stances_10 : decode cX8_stances 10 = .ok (.getfield 10, 3) := by decide +kernel
theorem dX8_stances_13 : decode cX8_stances 13 = .ok (.iload_n 2, 1) := by decide +kernel
theorem dX8_stances_14 : decode cX8_stances 14 = .ok (.invokevirtual 216, 3) := by decide +kernel
theorem dX8_stances_17 : decode cX8_stances 17 = .ok (.ifCond .ne 9, 3) := by decide +kernel
theorem dX8_stances_20 : decode cX8_stances 20 = .ok (.iload_n 1, 1) := by decide +kernel
theorem dX8_stances_21 : decode cX8_stances 21 = .ok (.iconst 1, 1) := by decide +kernel
theorem dX8_stances_22 : decode cX8_stances 22 = .ok (.iload_n 2, 1) := by decide +kernel
theorem dX8_stances_23 : decode cX8_stances 23 = .ok (.ishl, 1) := by decide +kernel
theorem dX8_stances_24 : decode cX8_stances 24 = .ok (.ior, 1) := by decide +kernel
theorem dX8_stances_25 : decode cX8_stances 25 = .ok (.istore_n 1, 1) := by decide +kernel
theorem dX8_stances_26 : decode cX8_stances 26 = .ok (.iinc 2 1, 3) := by decide +kernel
theorem dX8_stances_29 : decode cX8_stances 29 = .ok (.goto (-25), 3) := by decide +kernel
theorem dX8_stances_32 : decode cX8_stances 32 = .ok (.iload_n 1, 1) := by decide +kernel
theorem dX8_stances_33 : decode cX8_stances 33 = .ok (.ireturn, 1) := by decide +kernel
theorem dX8_often_0 : decode cX8_often 0 = .ok (.iload_n 1, 1) := by decide +kernel
theorem dX8_often_1 : decode cX8_often 1 = .ok (.ifCond .lt 9, 3) := by decide +kernel
theorem dX8_often_4 : decode cX8_often 4 = .ok (.iload_n 1, 1) := by decide +kernel
theorem dX8_often_5 : decode cX8_often 5 = .ok (.ldc 219, 2) := by decide +kernel
theorem dX8_often_7 : decode cX8_often 7 = .ok (.if_icmp .le 5, 3) := by decide +kernel
theorem dX8_often_10 : decode cX8_often 10 = .ok (.iconst (-1), 1) := by decide +kernel
theorem dX8_often_11 : decode cX8_often 11 = .ok (.ireturn, 1) := by decide +kernel
theorem dX8_often_12 : decode cX8_often 12 = .ok (.bipush 9, 2) := by decide +kernel
theorem dX8_often_14 : decode cX8_often 14 = .ok (.istore_n 2, 1) := by decide +kernel
theorem dX8_often_15 : decode cX8_often 15 = .ok (.iload_n 2, 1) := by decide +kernel
theorem dX8_often_16 : decode cX8_often 16 = .ok (.iconst 1, 1) := by decide +kernel
theorem dX8_often_17 : decode cX8_often 17 = .ok (.if_icmp .lt 23, 3) := by decide +kernel
theorem dX8_often_20 : decode cX8_often 20 = .ok (.aload_n 0, 1) := by decide +kernel
theorem dX8_often_21 : decode cX8_often 21 = .ok (.getfield 10, 3) := by decide +kernel
theorem dX8_often_24 : decode cX8_often 24 = .ok (.iload_n 2, 1) := by decide +kernel
theorem dX8_often_25 : decode cX8_often 25 = .ok (.invokevirtual 188, 3) := by decide +kernel
theorem dX8_often_28 : decode cX8_often 28 = .ok (.iload_n 1, 1) := by decide +kernel
theorem dX8_often_29 : decode cX8_often 29 = .ok (.if_icmp .gt 5, 3) := by decide +kernel
theorem dX8_often_32 : decode cX8_often 32 = .ok (.iload_n 2, 1) := by decide +kernel
theorem dX8_often_33 : decode cX8_often 33 = .ok (.ireturn, 1) := by decide +kernel
theorem dX8_often_34 : decode cX8_often 34 = .ok (.iinc 2 (-1), 3) := by decide +kernel
theorem dX8_often_37 : decode cX8_often 37 = .ok (.goto (-22), 3) := by decide +kernel
theorem dX8_often_40 : decode cX8_often 40 = .ok (.iconst 0, 1) := by decide +kernel
theorem dX8_often_41 : decode cX8_often 41 = .ok (.ireturn, 1) := by decide +kernel
theorem dX8_warning_0 : decode cX8_warning 0 = .ok (.aload_n 0, 1) := by decide +kernel
theorem dX8_warning_1 : decode cX8_warning 1 = .ok (.getfield 22, 3) := by decide +kernel
theorem dX8_warning_4 : decode cX8_warning 4 = .ok (.aload_n 0, 1) := by decide +kernel
theorem dX8_warning_5 : decode cX8_warning 5 = .ok (.getfield 10, 3) := by decide +kernel
theorem dX8_warning_8 : decode cX8_warning 8 = .ok (.invokevirtual 220, 3) := by decide +kernel
theorem dX8_warning_11 : decode cX8_warning 11 = .ok (.aload_n 0, 1) := by decide +kernel
theorem dX8_warning_12 : decode cX8_warning 12 = .ok (.getfield 10, 3) := by decide +kernel
theorem dX8_warning_15 : decode cX8_warning 15 = .ok (.iconst 1, 1) := by decide +kernel
theorem dX8_warning_16 : decode cX8_warning 16 = .ok (.invokevirtual 188, 3) := by decide +kernel
theorem dX8_warning_19 : decode cX8_warning 19 = .ok (.isub, 1) := by decide +kernel
theorem dX8_warning_20 : decode cX8_warning 20 = .ok (.ireturn, 1) := by decide +kernel
theorem dX8_shown_0 : decode cX8_shown 0 = .ok (.iload_n 1, 1) := by decide +kernel
theorem dX8_shown_1 : decode cX8_shown 1 = .ok (.iconst (-1), 1) := by decide +kernel
theorem dX8_shown_2 : decode cX8_shown 2 = .ok (.if_icmp .lt 9, 3) := by decide +kernel
theorem dX8_shown_5 : decode cX8_shown 5 = .ok (.iload_n 1, 1) := by decide +kernel
theorem dX8_shown_6 : decode cX8_shown 6 = .ok (.bipush 16, 2) := by decide +kernel
theorem dX8_shown_8 : decode cX8_shown 8 = .ok (.if_icmp .lt 5, 3) := by decide +kernel
theorem dX8_shown_11 : decode cX8_shown 11 = .ok (.iconst (-1), 1) := by decide +kernel
theorem dX8_shown_12 : decode cX8_shown 12 = .ok (.ireturn, 1) := by decide +kernel
theorem dX8_shown_13 : decode cX8_shown 13 = .ok (.iload_n 1, 1) := by decide +kernel
theorem dX8_shown_14 : decode cX8_shown 14 = .ok (.iconst (-1), 1) := by decide +kernel
theorem dX8_shown_15 : decode cX8_shown 15 = .ok (.if_icmp .ne 13, 3) := by decide +kernel
theorem dX8_shown_18 : decode cX8_shown 18 = .ok (.aload_n 0, 1) := by decide +kernel
theorem dX8_shown_19 : decode cX8_shown 19 = .ok (.getfield 10, 3) := by decide +kernel
theorem dX8_shown_22 : decode cX8_shown 22 = .ok (.invokevirtual 224, 3) := by decide +kernel
theorem dX8_shown_25 : decode cX8_shown 25 = .ok (.goto 11, 3) := by decide +kernel
theorem dX8_shown_28 : decode cX8_shown 28 = .ok (.aload_n 0, 1) := by decide +kernel
theorem dX8_shown_29 : decode cX8_shown 29 = .ok (.getfield 10, 3) := by decide +kernel
theorem dX8_shown_32 : decode cX8_shown 32 = .ok (.iload_n 1, 1) := by decide +kernel
theorem dX8_shown_33 : decode cX8_shown 33 = .ok (.invokevirtual 228, 3) := by decide +kernel
theorem dX8_shown_36 : decode cX8_shown 36 = .ok (.ireturn, 1) := by decide +kernel
theorem dX8_point_0 : decode cX8_point 0 = .ok (.iload_n 1, 1) := by decide +kernel
theorem dX8_point_1 : decode cX8_point 1 = .ok (.bipush 16, 2) := by decide +kernel
theorem dX8_point_3 : decode cX8_point 3 = .ok (.invokestatic 40, 3) := by decide +kernel
theorem dX8_point_6 : decode cX8_point 6 = .ok (.ifCond .eq 11, 3) := by decide +kernel
theorem dX8_point_9 : decode cX8_point 9 = .ok (.iload_n 2, 1) := by decide +kernel
theorem dX8_point_10 : decode cX8_point 10 = .ok (.iconst 4, 1) := by decide +kernel
theorem dX8_point_11 : decode cX8_point 11 = .ok (.invokestatic 40, 3) := by decide +kernel
theorem dX8_point_14 : decode cX8_point 14 = .ok (.ifCond .ne 5, 3) := by decide +kernel
theorem dX8_point_17 : decode cX8_point 17 = .ok (.iconst (-1), 1) := by decide +kernel
theorem dX8_point_18 : decode cX8_point 18 = .ok (.ireturn, 1) := by decide +kernel
theorem dX8_point_19 : decode cX8_point 19 = .ok (.aload_n 0, 1) := by decide +kernel
theorem dX8_point_20 : decode cX8_point 20 = .ok (.getfield 10, 3) := by decide +kernel
theorem dX8_point_23 : decode cX8_point 23 = .ok (.getfield 154, 3) := by decide +kernel
theorem dX8_point_26 : decode cX8_point 26 = .ok (.getfield 158, 3) := by decide +kernel
theorem dX8_point_29 : decode cX8_point 29 = .ok (.bipush 24, 2) := by decide +kernel
theorem dX8_point_31 : decode cX8_point 31 = .ok (.if_icmp .lt 6, 3) := by decide +kernel
theorem dX8_point_34 : decode cX8_point 34 = .ok (.bipush (-3), 2) := by decide +kernel
theorem dX8_point_36 : decode cX8_point 36 = .ok (.ireturn, 1) := by decide +kernel
theorem dX8_point_37 : decode cX8_point 37 = .ok (.aload_n 0, 1) := by decide +kernel
theorem dX8_point_38 : decode cX8_point 38 = .ok (.getfield 10, 3) := by decide +kernel
theorem dX8_point_41 : decode cX8_point 41 = .ok (.getfield 154, 3) := by decide +kernel
theorem dX8_point_44 : decode cX8_point 44 = .ok (.iload_n 1, 1) := by decide +kernel
theorem dX8_point_45 : decode cX8_point 45 = .ok (.iload_n 2, 1) := by decide +kernel
theorem dX8_point_46 : decode cX8_point 46 = .ok (.invokevirtual 231, 3) := by decide +kernel
theorem dX8_point_49 : decode cX8_point 49 = .ok (.aload_n 0, 1) := by decide +kernel
theorem dX8_point_50 : decode cX8_point 50 = .ok (.getfield 10, 3) := by decide +kernel
theorem dX8_point_53 : decode cX8_point 53 = .ok (.getfield 154, 3) := by decide +kernel
theorem dX8_point_56 : decode cX8_point 56 = .ok (.getfield 158, 3) := by decide +kernel
theorem dX8_point_59 : decode cX8_point 59 = .ok (.ireturn, 1) := by decide +kernel
theorem dX8_fits_0 : decode cX8_fits 0 = .ok (.iload_n 1, 1) := by decide +kernel
theorem dX8_fits_1 : decode cX8_fits 1 = .ok (.iconst 2, 1) := by decide +kernel
theorem dX8_fits_2 : decode cX8_fits 2 = .ok (.invokestatic 40, 3) := by decide +kernel
theorem dX8_fits_5 : decode cX8_fits 5 = .ok (.ifCond .ne 5, 3) := by decide +kernel
theorem dX8_fits_8 : decode cX8_fits 8 = .ok (.iconst (-1), 1) := by decide +kernel
theorem dX8_fits_9 : decode cX8_fits 9 = .ok (.ireturn, 1) := by decide +kernel
theorem dX8_fits_10 : decode cX8_fits 10 = .ok (.aload_n 0, 1) := by decide +kernel
theorem dX8_fits_11 : decode cX8_fits 11 = .ok (.getfield 10, 3) := by decide +kernel
theorem dX8_fits_14 : decode cX8_fits 14 = .ok (.getfield 154, 3) := by decide +kernel
theorem dX8_fits_17 : decode cX8_fits 17 = .ok (.getfield 158, 3) := by decide +kernel
theorem dX8_fits_20 : decode cX8_fits 20 = .ok (.ifCond .ne 6, 3) := by decide +kernel
theorem dX8_fits_23 : decode cX8_fits 23 = .ok (.bipush (-2), 2) := by decide +kernel
theorem dX8_fits_25 : decode cX8_fits 25 = .ok (.ireturn, 1) := by decide +kernel
theorem dX8_fits_26 : decode cX8_fits 26 = .ok (.aload_n 0, 1) := by decide +kernel
theorem dX8_fits_27 : decode cX8_fits 27 = .ok (.getfield 22, 3) := by decide +kernel
theorem dX8_fits_30 : decode cX8_fits 30 = .ok (.aload_n 0, 1) := by decide +kernel
theorem dX8_fits_31 : decode cX8_fits 31 = .ok (.getfield 10, 3) := by decide +kernel
theorem dX8_fits_34 : decode cX8_fits 34 = .ok (.invokevirtual 233, 3) := by decide +kernel
theorem dX8_fits_37 : decode cX8_fits 37 = .ok (.istore_n 2, 1) := by decide +kernel
theorem dX8_fits_38 : decode cX8_fits 38 = .ok (.iload_n 1, 1) := by decide +kernel
theorem dX8_fits_39 : decode cX8_fits 39 = .ok (.ifCond .ne 7, 3) := by decide +kernel
theorem dX8_fits_42 : decode cX8_fits 42 = .ok (.iload_n 2, 1) := by decide +kernel
theorem dX8_fits_43 : decode cX8_fits 43 = .ok (.goto 15, 3) := by decide +kernel
theorem dX8_fits_46 : decode cX8_fits 46 = .ok (.aload_n 0, 1) := by decide +kernel
theorem dX8_fits_47 : decode cX8_fits 47 = .ok (.getfield 22, 3) := by decide +kernel
theorem dX8_fits_50 : decode cX8_fits 50 = .ok (.aload_n 0, 1) := by decide +kernel
theorem dX8_fits_51 : decode cX8_fits 51 = .ok (.getfield 10, 3) := by decide +kernel
theorem dX8_fits_54 : decode cX8_fits 54 = .ok (.iload_n 2, 1) := by decide +kernel
theorem dX8_fits_55 : decode cX8_fits 55 = .ok (.invokevirtual 236, 3) := by decide +kernel
theorem dX8_fits_58 : decode cX8_fits 58 = .ok (.ireturn, 1) := by decide +kernel
theorem dX8_apart_0 : decode cX8_apart 0 = .ok (.iload_n 1, 1) := by decide +kernel
theorem dX8_apart_1 : decode cX8_apart 1 = .ok (.sipush 1000, 3) := by decide +kernel
theorem dX8_apart_4 : decode cX8_apart 4 = .ok (.invokestatic 40, 3) := by decide +kernel
theorem dX8_apart_7 : decode cX8_apart 7 = .ok (.ifCond .eq 34, 3) := by decide +kernel
theorem dX8_apart_10 : decode cX8_apart 10 = .ok (.iload_n 2, 1) := by decide +kernel
theorem dX8_apart_11 : decode cX8_apart 11 = .ok (.sipush 1000, 3) := by decide +kernel
theorem dX8_apart_14 : decode cX8_apart 14 = .ok (.invokestatic 40, 3) := by decide +kernel
theorem dX8_apart_17 : decode cX8_apart 17 = .ok (.ifCond .eq 24, 3) := by decide +kernel
theorem dX8_apart_20 : decode cX8_apart 20 = .ok (.iload_n 3, 1) := by decide +kernel
theorem dX8_apart_21 : decode cX8_apart 21 = .ok (.sipush 1000, 3) := by decide +kernel
theorem dX8_apart_24 : decode cX8_apart 24 = .ok (.invokestatic 40, 3) := by decide +kernel
theorem dX8_apart_27 : decode cX8_apart 27 = .ok (.ifCond .eq 14, 3) := by decide +kernel
theorem dX8_apart_30 : decode cX8_apart 30 = .ok (.iload 4, 2) := by decide +kernel
theorem dX8_apart_32 : decode cX8_apart 32 = .ok (.sipush 1000, 3) := by decide +kernel
theorem dX8_apart_35 : decode cX8_apart 35 = .ok (.invokestatic 40, 3) := by decide +kernel
theorem dX8_apart_38 : decode cX8_apart 38 = .ok (.ifCond .ne 6, 3) := by decide +kernel
theorem dX8_apart_41 : decode cX8_apart 41 = .ok (.ldc 206, 2) := by decide +kernel
theorem dX8_apart_43 : decode cX8_apart 43 = .ok (.ireturn, 1) := by decide +kernel
theorem dX8_apart_44 : decode cX8_apart 44 = .ok (.iload_n 1, 1) := by decide +kernel
theorem dX8_apart_45 : decode cX8_apart 45 = .ok (.iload_n 1, 1) := by decide +kernel
theorem dX8_apart_46 : decode cX8_apart 46 = .ok (.iload_n 2, 1) := by decide +kernel
theorem dX8_apart_47 : decode cX8_apart 47 = .ok (.iadd, 1) := by decide +kernel
theorem dX8_apart_48 : decode cX8_apart 48 = .ok (.invokestatic 239, 3) := by decide +kernel
theorem dX8_apart_51 : decode cX8_apart 51 = .ok (.iload_n 3, 1) := by decide +kernel
theorem dX8_apart_52 : decode cX8_apart 52 = .ok (.iload_n 3, 1) := by decide +kernel
theorem dX8_apart_53 : decode cX8_apart 53 = .ok (.iload 4, 2) := by decide +kernel
theorem dX8_apart_55 : decode cX8_apart 55 = .ok (.iadd, 1) := by decide +kernel
theorem dX8_apart_56 : decode cX8_apart 56 = .ok (.invokestatic 239, 3) := by decide +kernel
theorem dX8_apart_59 : decode cX8_apart 59 = .ok (.isub, 1) := by decide +kernel
theorem dX8_apart_60 : decode cX8_apart 60 = .ok (.ireturn, 1) := by decide +kernel
theorem dX8_clear_0 : decode cX8_clear 0 = .ok (.aload_n 0, 1) := by decide +kernel
theorem dX8_clear_1 : decode cX8_clear 1 = .ok (.getfield 10, 3) := by decide +kernel
theorem dX8_clear_4 : decode cX8_clear 4 = .ok (.getfield 147, 3) := by decide +kernel
theorem dX8_clear_7 : decode cX8_clear 7 = .ok (.getfield 151, 3) := by decide +kernel
theorem dX8_clear_10 : decode cX8_clear 10 = .ok (.aload_n 0, 1) := by decide +kernel
theorem dX8_clear_11 : decode cX8_clear 11 = .ok (.getfield 10, 3) := by decide +kernel
theorem dX8_clear_14 : decode cX8_clear 14 = .ok (.getfield 154, 3) := by decide +kernel
theorem dX8_clear_17 : decode cX8_clear 17 = .ok (.getfield 158, 3) := by decide +kernel
theorem dX8_clear_20 : decode cX8_clear 20 = .ok (.iadd, 1) := by decide +kernel
theorem dX8_clear_21 : decode cX8_clear 21 = .ok (.istore_n 1, 1) := by decide +kernel
theorem dX8_clear_22 : decode cX8_clear 22 = .ok (.aload_n 0, 1) := by decide +kernel
theorem dX8_clear_23 : decode cX8_clear 23 = .ok (.getfield 10, 3) := by decide +kernel
theorem dX8_clear_26 : decode cX8_clear 26 = .ok (.getfield 147, 3) := by decide +kernel
theorem dX8_clear_29 : decode cX8_clear 29 = .ok (.iconst 0, 1) := by decide +kernel
theorem dX8_clear_30 : decode cX8_clear 30 = .ok (.putfield 151, 3) := by decide +kernel
theorem dX8_clear_33 : decode cX8_clear 33 = .ok (.aload_n 0, 1) := by decide +kernel
theorem dX8_clear_34 : decode cX8_clear 34 = .ok (.getfield 10, 3) := by decide +kernel
theorem dX8_clear_37 : decode cX8_clear 37 = .ok (.getfield 154, 3) := by decide +kernel
theorem dX8_clear_40 : decode cX8_clear 40 = .ok (.iconst 0, 1) := by decide +kernel
theorem dX8_clear_41 : decode cX8_clear 41 = .ok (.putfield 158, 3) := by decide +kernel
theorem dX8_clear_44 : decode cX8_clear 44 = .ok (.iload_n 1, 1) := by decide +kernel
theorem dX8_clear_45 : decode cX8_clear 45 = .ok (.ireturn, 1) := by decide +kernel
theorem dX8_image_0 : decode cX8_image 0 = .ok (.aload_n 0, 1) := by decide +kernel
theorem dX8_image_1 : decode cX8_image 1 = .ok (.getfield 16, 3) := by decide +kernel
theorem dX8_image_4 : decode cX8_image 4 = .ok (.aload_n 0, 1) := by decide +kernel
theorem dX8_image_5 : decode cX8_image 5 = .ok (.getfield 10, 3) := by decide +kernel
theorem dX8_image_8 : decode cX8_image 8 = .ok (.invokevirtual 242, 3) := by decide +kernel
theorem dX8_image_11 : decode cX8_image 11 = .ok (.aload_n 0, 1) := by decide +kernel
theorem dX8_image_12 : decode cX8_image 12 = .ok (.iconst 1, 1) := by decide +kernel
theorem dX8_image_13 : decode cX8_image 13 = .ok (.putfield 245, 3) := by decide +kernel
theorem dX8_image_16 : decode cX8_image 16 = .ok (.iconst 1, 1) := by decide +kernel
theorem dX8_image_17 : decode cX8_image 17 = .ok (.ireturn, 1) := by decide +kernel
theorem dX8_restore_0 : decode cX8_restore 0 = .ok (.aload_n 0, 1) := by decide +kernel
theorem dX8_restore_1 : decode cX8_restore 1 = .ok (.getfield 245, 3) := by decide +kernel
theorem dX8_restore_4 : decode cX8_restore 4 = .ok (.ifCond .ne 6, 3) := by decide +kernel
theorem dX8_restore_7 : decode cX8_restore 7 = .ok (.bipush (-4), 2) := by decide +kernel
theorem dX8_restore_9 : decode cX8_restore 9 = .ok (.ireturn, 1) := by decide +kernel
theorem dX8_restore_10 : decode cX8_restore 10 = .ok (.aload_n 0, 1) := by decide +kernel
theorem dX8_restore_11 : decode cX8_restore 11 = .ok (.getfield 10, 3) := by decide +kernel
theorem dX8_restore_14 : decode cX8_restore 14 = .ok (.aload_n 0, 1) := by decide +kernel
theorem dX8_restore_15 : decode cX8_restore 15 = .ok (.getfield 16, 3) := by decide +kernel
theorem dX8_restore_18 : decode cX8_restore 18 = .ok (.invokevirtual 242, 3) := by decide +kernel
theorem dX8_restore_21 : decode cX8_restore 21 = .ok (.iconst 1, 1) := by decide +kernel
theorem dX8_restore_22 : decode cX8_restore 22 = .ok (.ireturn, 1) := by decide +kernel
theorem dX8_eyes_0 : decode cX8_eyes 0 = .ok (.iload_n 1, 1) := by decide +kernel
theorem dX8_eyes_1 : decode cX8_eyes 1 = .ok (.bipush 16, 2) := by decide +kernel
theorem dX8_eyes_3 : decode cX8_eyes 3 = .ok (.invokestatic 40, 3) := by decide +kernel
theorem dX8_eyes_6 : decode cX8_eyes 6 = .ok (.ifCond .eq 34, 3) := by decide +kernel
theorem dX8_eyes_9 : decode cX8_eyes 9 = .ok (.iload_n 2, 1) := by decide +kernel
theorem dX8_eyes_10 : decode cX8_eyes 10 = .ok (.iconst 4, 1) := by decide +kernel
theorem dX8_eyes_11 : decode cX8_eyes 11 = .ok (.invokestatic 40, 3) := by decide +kernel
theorem dX8_eyes_14 : decode cX8_eyes 14 = .ok (.ifCond .eq 26, 3) := by decide +kernel
theorem dX8_eyes_17 : decode cX8_eyes 17 = .ok (.iload_n 3, 1) := by decide +kernel
theorem dX8_eyes_18 : decode cX8_eyes 18 = .ok (.iconst 3, 1) := by decide +kernel
theorem dX8_eyes_19 : decode cX8_eyes 19 = .ok (.invokestatic 40, 3) := by decide +kernel
theorem dX8_eyes_22 : decode cX8_eyes 22 = .ok (.ifCond .eq 18, 3) := by decide +kernel
theorem dX8_eyes_25 : decode cX8_eyes 25 = .ok (.iload 5, 2) := by decide +kernel
theorem dX8_eyes_27 : decode cX8_eyes 27 = .ok (.iconst 1, 1) := by decide +kernel
theorem dX8_eyes_28 : decode cX8_eyes 28 = .ok (.if_icmp .lt 12, 3) := by decide +kernel
theorem dX8_eyes_31 : decode cX8_eyes 31 = .ok (.iload 5, 2) := by decide +kernel
theorem dX8_eyes_33 : decode cX8_eyes 33 = .ok (.bipush 16, 2) := by decide +kernel
theorem dX8_eyes_35 : decode cX8_eyes 35 = .ok (.iload_n 1, 1) := by decide +kernel
theorem dX8_eyes_36 : decode cX8_eyes 36 = .ok (.isub, 1) := by decide +kernel
theorem dX8_eyes_37 : decode cX8_eyes 37 = .ok (.if_icmp .le 5, 3) := by decide +kernel
theorem dX8_eyes_40 : decode cX8_eyes 40 = .ok (.iconst (-1), 1) := by decide +kernel
theorem dX8_eyes_41 : decode cX8_eyes 41 = .ok (.ireturn, 1) := by decide +kernel
theorem dX8_eyes_42 : decode cX8_eyes 42 = .ok (.aload_n 0, 1) := by decide +kernel
theorem dX8_eyes_43 : decode cX8_eyes 43 = .ok (.getfield 36, 3) := by decide +kernel
theorem dX8_eyes_46 : decode cX8_eyes 46 = .ok (.iload_n 2, 1) := by decide +kernel
theorem dX8_eyes_47 : decode cX8_eyes 47 = .ok (.iload_n 3, 1) := by decide +kernel
theorem dX8_eyes_48 : decode cX8_eyes 48 = .ok (.invokevirtual 249, 3) := by decide +kernel
theorem dX8_eyes_51 : decode cX8_eyes 51 = .ok (.istore 6, 2) := by decide +kernel
theorem dX8_eyes_53 : decode cX8_eyes 53 = .ok (.iload 6, 2) := by decide +kernel
theorem dX8_eyes_55 : decode cX8_eyes 55 = .ok (.ifCond .eq 6, 3) := by decide +kernel
theorem dX8_eyes_58 : decode cX8_eyes 58 = .ok (.iload 6, 2) := by decide +kernel
theorem dX8_eyes_60 : decode cX8_eyes 60 = .ok (.ireturn, 1) := by decide +kernel
theorem dX8_eyes_61 : decode cX8_eyes 61 = .ok (.aload_n 0, 1) := by decide +kernel
theorem dX8_eyes_62 : decode cX8_eyes 62 = .ok (.getfield 36, 3) := by decide +kernel
theorem dX8_eyes_65 : decode cX8_eyes 65 = .ok (.iload_n 2, 1) := by decide +kernel
theorem dX8_eyes_66 : decode cX8_eyes 66 = .ok (.iload 4, 2) := by decide +kernel
theorem dX8_eyes_68 : decode cX8_eyes 68 = .ok (.iload 5, 2) := by decide +kernel
theorem dX8_eyes_70 : decode cX8_eyes 70 = .ok (.invokevirtual 252, 3) := by decide +kernel
theorem dX8_eyes_73 : decode cX8_eyes 73 = .ok (.ifCond .ne 6, 3) := by decide +kernel
theorem dX8_eyes_76 : decode cX8_eyes 76 = .ok (.bipush (-13), 2) := by decide +kernel
theorem dX8_eyes_78 : decode cX8_eyes 78 = .ok (.ireturn, 1) := by decide +kernel
theorem dX8_eyes_79 : decode cX8_eyes 79 = .ok (.aload_n 0, 1) := by decide +kernel
theorem dX8_eyes_80 : decode cX8_eyes 80 = .ok (.getfield 36, 3) := by decide +kernel
theorem dX8_eyes_83 : decode cX8_eyes 83 = .ok (.iload_n 2, 1) := by decide +kernel
theorem dX8_eyes_84 : decode cX8_eyes 84 = .ok (.iload 4, 2) := by decide +kernel
theorem dX8_eyes_86 : decode cX8_eyes 86 = .ok (.iload 5, 2) := by decide +kernel
theorem dX8_eyes_88 : decode cX8_eyes 88 = .ok (.invokevirtual 255, 3) := by decide +kernel
theorem dX8_eyes_91 : decode cX8_eyes 91 = .ok (.istore 7, 2) := by decide +kernel
theorem dX8_eyes_93 : decode cX8_eyes 93 = .ok (.iload 7, 2) := by decide +kernel
theorem dX8_eyes_95 : decode cX8_eyes 95 = .ok (.iconst (-1), 1) := by decide +kernel
theorem dX8_eyes_96 : decode cX8_eyes 96 = .ok (.if_icmp .ne 6, 3) := by decide +kernel
theorem dX8_eyes_99 : decode cX8_eyes 99 = .ok (.bipush (-2), 2) := by decide +kernel
theorem dX8_eyes_101 : decode cX8_eyes 101 = .ok (.ireturn, 1) := by decide +kernel
theorem dX8_eyes_102 : decode cX8_eyes 102 = .ok (.aload_n 0, 1) := by decide +kernel
theorem dX8_eyes_103 : decode cX8_eyes 103 = .ok (.getfield 10, 3) := by decide +kernel
theorem dX8_eyes_106 : decode cX8_eyes 106 = .ok (.getfield 154, 3) := by decide +kernel
theorem dX8_eyes_109 : decode cX8_eyes 109 = .ok (.getfield 158, 3) := by decide +kernel
theorem dX8_eyes_112 : decode cX8_eyes 112 = .ok (.iload 7, 2) := by decide +kernel
theorem dX8_eyes_114 : decode cX8_eyes 114 = .ok (.iadd, 1) := by decide +kernel
theorem dX8_eyes_115 : decode cX8_eyes 115 = .ok (.bipush 24, 2) := by decide +kernel
theorem dX8_eyes_117 : decode cX8_eyes 117 = .ok (.if_icmp .le 6, 3) := by decide +kernel
theorem dX8_eyes_120 : decode cX8_eyes 120 = .ok (.bipush (-3), 2) := by decide +kernel
theorem dX8_eyes_122 : decode cX8_eyes 122 = .ok (.ireturn, 1) := by decide +kernel
theorem dX8_eyes_123 : decode cX8_eyes 123 = .ok (.iconst 0, 1) := by decide +kernel
theorem dX8_eyes_124 : decode cX8_eyes 124 = .ok (.istore 8, 2) := by decide +kernel
theorem dX8_eyes_126 : decode cX8_eyes 126 = .ok (.iload 8, 2) := by decide +kernel
theorem dX8_eyes_128 : decode cX8_eyes 128 = .ok (.iload 5, 2) := by decide +kernel
theorem dX8_eyes_130 : decode cX8_eyes 130 = .ok (.if_icmp .ge 46, 3) := by decide +kernel
theorem dX8_eyes_133 : decode cX8_eyes 133 = .ok (.aload_n 0, 1) := by decide +kernel
theorem dX8_eyes_134 : decode cX8_eyes 134 = .ok (.getfield 36, 3) := by decide +kernel
theorem dX8_eyes_137 : decode cX8_eyes 137 = .ok (.iload_n 2, 1) := by decide +kernel
theorem dX8_eyes_138 : decode cX8_eyes 138 = .ok (.iload 4, 2) := by decide +kernel
theorem dX8_eyes_140 : decode cX8_eyes 140 = .ok (.iload 8, 2) := by decide +kernel
theorem dX8_eyes_142 : decode cX8_eyes 142 = .ok (.iadd, 1) := by decide +kernel
theorem dX8_eyes_143 : decode cX8_eyes 143 = .ok (.invokevirtual 259, 3) := by decide +kernel
theorem dX8_eyes_146 : decode cX8_eyes 146 = .ok (.istore 9, 2) := by decide +kernel
theorem dX8_eyes_148 : decode cX8_eyes 148 = .ok (.iload 9, 2) := by decide +kernel
theorem dX8_eyes_150 : decode cX8_eyes 150 = .ok (.iconst (-1), 1) := by decide +kernel
theorem dX8_eyes_151 : decode cX8_eyes 151 = .ok (.if_icmp .eq 19, 3) := by decide +kernel
theorem dX8_eyes_154 : decode cX8_eyes 154 = .ok (.aload_n 0, 1) := by decide +kernel
theorem dX8_eyes_155 : decode cX8_eyes 155 = .ok (.getfield 10, 3) := by decide +kernel
theorem dX8_eyes_158 : decode cX8_eyes 158 = .ok (.getfield 154, 3) := by decide +kernel
theorem dX8_eyes_161 : decode cX8_eyes 161 = .ok (.iload_n 1, 1) := by decide +kernel
theorem dX8_eyes_162 : decode cX8_eyes 162 = .ok (.iload 8, 2) := by decide +kernel
theorem dX8_eyes_164 : decode cX8_eyes 164 = .ok (.iadd, 1) := by decide +kernel
theorem dX8_eyes_165 : decode cX8_eyes 165 = .ok (.iload 9, 2) := by decide +kernel
theorem dX8_eyes_167 : decode cX8_eyes 167 = .ok (.invokevirtual 231, 3) := by decide +kernel
theorem dX8_eyes_170 : decode cX8_eyes 170 = .ok (.iinc 8 1, 3) := by decide +kernel
theorem dX8_eyes_173 : decode cX8_eyes 173 = .ok (.goto (-47), 3) := by decide +kernel
theorem dX8_eyes_176 : decode cX8_eyes 176 = .ok (.iload 7, 2) := by decide +kernel
theorem dX8_eyes_178 : decode cX8_eyes 178 = .ok (.ireturn, 1) := by decide +kernel
theorem dX8_sheet_0 : decode cX8_sheet 0 = .ok (.iload_n 1, 1) := by decide +kernel
theorem dX8_sheet_1 : decode cX8_sheet 1 = .ok (.iconst 4, 1) := by decide +kernel
theorem dX8_sheet_2 : decode cX8_sheet 2 = .ok (.invokestatic 40, 3) := by decide +kernel
theorem dX8_sheet_5 : decode cX8_sheet 5 = .ok (.ifCond .eq 17, 3) := by decide +kernel
theorem dX8_sheet_8 : decode cX8_sheet 8 = .ok (.iload_n 2, 1) := by decide +kernel
theorem dX8_sheet_9 : decode cX8_sheet 9 = .ok (.iconst 3, 1) := by decide +kernel
theorem dX8_sheet_10 : decode cX8_sheet 10 = .ok (.invokestatic 40, 3) := by decide +kernel
theorem dX8_sheet_13 : decode cX8_sheet 13 = .ok (.ifCond .eq 9, 3) := by decide +kernel
theorem dX8_sheet_16 : decode cX8_sheet 16 = .ok (.iload_n 3, 1) := by decide +kernel
theorem dX8_sheet_17 : decode cX8_sheet 17 = .ok (.bipush 16, 2) := by decide +kernel
theorem dX8_sheet_19 : decode cX8_sheet 19 = .ok (.if_icmp .le 5, 3) := by decide +kernel
theorem dX8_sheet_22 : decode cX8_sheet 22 = .ok (.iconst (-1), 1) := by decide +kernel
theorem dX8_sheet_23 : decode cX8_sheet 23 = .ok (.ireturn, 1) := by decide +kernel
theorem dX8_sheet_24 : decode cX8_sheet 24 = .ok (.iload_n 3, 1) := by decide +kernel
theorem dX8_sheet_25 : decode cX8_sheet 25 = .ok (.ifCond .ge 6, 3) := by decide +kernel
theorem dX8_sheet_28 : decode cX8_sheet 28 = .ok (.bipush (-14), 2) := by decide +kernel
theorem dX8_sheet_30 : decode cX8_sheet 30 = .ok (.ireturn, 1) := by decide +kernel
theorem dX8_sheet_31 : decode cX8_sheet 31 = .ok (.aload_n 0, 1) := by decide +kernel
theorem dX8_sheet_32 : decode cX8_sheet 32 = .ok (.getfield 36, 3) := by decide +kernel
theorem dX8_sheet_35 : decode cX8_sheet 35 = .ok (.iload_n 1, 1) := by decide +kernel
theorem dX8_sheet_36 : decode cX8_sheet 36 = .ok (.iload_n 2, 1) := by decide +kernel
theorem dX8_sheet_37 : decode cX8_sheet 37 = .ok (.iload_n 3, 1) := by decide +kernel
theorem dX8_sheet_38 : decode cX8_sheet 38 = .ok (.invokevirtual 262, 3) := by decide +kernel
theorem dX8_sheet_41 : decode cX8_sheet 41 = .ok (.iload_n 3, 1) := by decide +kernel
theorem dX8_sheet_42 : decode cX8_sheet 42 = .ok (.ireturn, 1) := by decide +kernel
theorem dX8_drop_0 : decode cX8_drop 0 = .ok (.iload_n 1, 1) := by decide +kernel
theorem dX8_drop_1 : decode cX8_drop 1 = .ok (.iconst 4, 1) := by decide +kernel
theorem dX8_drop_2 : decode cX8_drop 2 = .ok (.invokestatic 40, 3) := by decide +kernel
theorem dX8_drop_5 : decode cX8_drop 5 = .ok (.ifCond .ne 5, 3) := by decide +kernel
theorem dX8_drop_8 : decode cX8_drop 8 = .ok (.iconst (-1), 1) := by decide +kernel
theorem dX8_drop_9 : decode cX8_drop 9 = .ok (.ireturn, 1) := by decide +kernel
theorem dX8_drop_10 : decode cX8_drop 10 = .ok (.aload_n 0, 1) := by decide +kernel
theorem dX8_drop_11 : decode cX8_drop 11 = .ok (.getfield 36, 3) := by decide +kernel
theorem dX8_drop_14 : decode cX8_drop 14 = .ok (.iload_n 1, 1) := by decide +kernel
theorem dX8_drop_15 : decode cX8_drop 15 = .ok (.invokevirtual 266, 3) := by decide +kernel
theorem dX8_drop_18 : decode cX8_drop 18 = .ok (.ifCond .eq 6, 3) := by decide +kernel
theorem dX8_drop_21 : decode cX8_drop 21 = .ok (.bipush (-11), 2) := by decide +kernel
theorem dX8_drop_23 : decode cX8_drop 23 = .ok (.ireturn, 1) := by decide +kernel
theorem dX8_drop_24 : decode cX8_drop 24 = .ok (.aload_n 0, 1) := by decide +kernel
theorem dX8_drop_25 : decode cX8_drop 25 = .ok (.getfield 36, 3) := by decide +kernel
theorem dX8_drop_28 : decode cX8_drop 28 = .ok (.getfield 269, 3) := by decide +kernel
theorem dX8_drop_31 : decode cX8_drop 31 = .ok (.iload_n 1, 1) := by decide +kernel
theorem dX8_drop_32 : decode cX8_drop 32 = .ok (.iconst (-1), 1) := by decide +kernel
theorem dX8_drop_33 : decode cX8_drop 33 = .ok (.iastore, 1) := by decide +kernel
theorem dX8_drop_34 : decode cX8_drop 34 = .ok (.aload_n 0, 1) := by decide +kernel
theorem dX8_drop_35 : decode cX8_drop 35 = .ok (.getfield 36, 3) := by decide +kernel
theorem dX8_drop_38 : decode cX8_drop 38 = .ok (.getfield 272, 3) := by decide +kernel
theorem dX8_drop_41 : decode cX8_drop 41 = .ok (.iload_n 1, 1) := by decide +kernel
theorem dX8_drop_42 : decode cX8_drop 42 = .ok (.iaload, 1) := by decide +kernel
theorem dX8_drop_43 : decode cX8_drop 43 = .ok (.ireturn, 1) := by decide +kernel
theorem dX8_item_0 : decode cX8_item 0 = .ok (.iload_n 1, 1) := by decide +kernel
theorem dX8_item_1 : decode cX8_item 1 = .ok (.iconst 4, 1) := by decide +kernel
theorem dX8_item_2 : decode cX8_item 2 = .ok (.invokestatic 40, 3) := by decide +kernel
theorem dX8_item_5 : decode cX8_item 5 = .ok (.ifCond .eq 11, 3) := by decide +kernel
theorem dX8_item_8 : decode cX8_item 8 = .ok (.iload_n 2, 1) := by decide +kernel
theorem dX8_item_9 : decode cX8_item 9 = .ok (.iconst 3, 1) := by decide +kernel
theorem dX8_item_10 : decode cX8_item 10 = .ok (.invokestatic 40, 3) := by decide +kernel
theorem dX8_item_13 : decode cX8_item 13 = .ok (.ifCond .ne 5, 3) := by decide +kernel
theorem dX8_item_16 : decode cX8_item 16 = .ok (.iconst (-1), 1) := by decide +kernel
theorem dX8_item_17 : decode cX8_item 17 = .ok (.ireturn, 1) := by decide +kernel
theorem dX8_item_18 : decode cX8_item 18 = .ok (.aload_n 0, 1) := by decide +kernel
theorem dX8_item_19 : decode cX8_item 19 = .ok (.getfield 36, 3) := by decide +kernel
theorem dX8_item_22 : decode cX8_item 22 = .ok (.iload_n 1, 1) := by decide +kernel
theorem dX8_item_23 : decode cX8_item 23 = .ok (.iload_n 2, 1) := by decide +kernel
theorem dX8_item_24 : decode cX8_item 24 = .ok (.invokevirtual 249, 3) := by decide +kernel
theorem dX8_item_27 : decode cX8_item 27 = .ok (.istore 5, 2) := by decide +kernel
theorem dX8_item_29 : decode cX8_item 29 = .ok (.iload 5, 2) := by decide +kernel
theorem dX8_item_31 : decode cX8_item 31 = .ok (.ifCond .eq 6, 3) := by decide +kernel
theorem dX8_item_34 : decode cX8_item 34 = .ok (.iload 5, 2) := by decide +kernel
theorem dX8_item_36 : decode cX8_item 36 = .ok (.ireturn, 1) := by decide +kernel
theorem dX8_item_37 : decode cX8_item 37 = .ok (.aload_n 0, 1) := by decide +kernel
theorem dX8_item_38 : decode cX8_item 38 = .ok (.getfield 36, 3) := by decide +kernel
theorem dX8_item_41 : decode cX8_item 41 = .ok (.iload_n 1, 1) := by decide +kernel
theorem dX8_item_42 : decode cX8_item 42 = .ok (.iload_n 3, 1) := by decide +kernel
theorem dX8_item_43 : decode cX8_item 43 = .ok (.iconst 1, 1) := by decide +kernel
theorem dX8_item_44 : decode cX8_item 44 = .ok (.invokevirtual 252, 3) := by decide +kernel
theorem dX8_item_47 : decode cX8_item 47 = .ok (.ifCond .ne 6, 3) := by decide +kernel
theorem dX8_item_50 : decode cX8_item 50 = .ok (.bipush (-13), 2) := by decide +kernel
theorem dX8_item_52 : decode cX8_item 52 = .ok (.ireturn, 1) := by decide +kernel
theorem dX8_item_53 : decode cX8_item 53 = .ok (.aload_n 0, 1) := by decide +kernel
theorem dX8_item_54 : decode cX8_item 54 = .ok (.getfield 36, 3) := by decide +kernel
theorem dX8_item_57 : decode cX8_item 57 = .ok (.iload_n 1, 1) := by decide +kernel
theorem dX8_item_58 : decode cX8_item 58 = .ok (.iload_n 3, 1) := by decide +kernel
theorem dX8_item_59 : decode cX8_item 59 = .ok (.iload 4, 2) := by decide +kernel
theorem dX8_item_61 : decode cX8_item 61 = .ok (.invokevirtual 275, 3) := by decide +kernel
theorem dX8_item_64 : decode cX8_item 64 = .ok (.iconst 1, 1) := by decide +kernel
theorem dX8_item_65 : decode cX8_item 65 = .ok (.ireturn, 1) := by decide +kernel
theorem dX8_copy_0 : decode cX8_copy 0 = .ok (.iload_n 1, 1) := by decide +kernel
theorem dX8_copy_1 : decode cX8_copy 1 = .ok (.iconst 4, 1) := by decide +kernel
theorem dX8_copy_2 : decode cX8_copy 2 = .ok (.invokestatic 40, 3) := by decide +kernel
theorem dX8_copy_5 : decode cX8_copy 5 = .ok (.ifCond .eq 11, 3) := by decide +kernel
theorem dX8_copy_8 : decode cX8_copy 8 = .ok (.iload_n 3, 1) := by decide +kernel
theorem dX8_copy_9 : decode cX8_copy 9 = .ok (.iconst 4, 1) := by decide +kernel
theorem dX8_copy_10 : decode cX8_copy 10 = .ok (.invokestatic 40, 3) := by decide +kernel
theorem dX8_copy_13 : decode cX8_copy 13 = .ok (.ifCond .ne 5, 3) := by decide +kernel
theorem dX8_copy_16 : decode cX8_copy 16 = .ok (.iconst (-1), 1) := by decide +kernel
theorem dX8_copy_17 : decode cX8_copy 17 = .ok (.ireturn, 1) := by decide +kernel
theorem dX8_copy_18 : decode cX8_copy 18 = .ok (.aload_n 0, 1) := by decide +kernel
theorem dX8_copy_19 : decode cX8_copy 19 = .ok (.getfield 36, 3) := by decide +kernel
theorem dX8_copy_22 : decode cX8_copy 22 = .ok (.iload_n 1, 1) := by decide +kernel
theorem dX8_copy_23 : decode cX8_copy 23 = .ok (.invokevirtual 266, 3) := by decide +kernel
theorem dX8_copy_26 : decode cX8_copy 26 = .ok (.ifCond .ne 14, 3) := by decide +kernel
theorem dX8_copy_29 : decode cX8_copy 29 = .ok (.aload_n 0, 1) := by decide +kernel
theorem dX8_copy_30 : decode cX8_copy 30 = .ok (.getfield 36, 3) := by decide +kernel
theorem dX8_copy_33 : decode cX8_copy 33 = .ok (.iload_n 3, 1) := by decide +kernel
theorem dX8_copy_34 : decode cX8_copy 34 = .ok (.invokevirtual 266, 3) := by decide +kernel
theorem dX8_copy_37 : decode cX8_copy 37 = .ok (.ifCond .eq 6, 3) := by decide +kernel
theorem dX8_copy_40 : decode cX8_copy 40 = .ok (.bipush (-11), 2) := by decide +kernel
theorem dX8_copy_42 : decode cX8_copy 42 = .ok (.ireturn, 1) := by decide +kernel
theorem dX8_copy_43 : decode cX8_copy 43 = .ok (.aload_n 0, 1) := by decide +kernel
theorem dX8_copy_44 : decode cX8_copy 44 = .ok (.getfield 36, 3) := by decide +kernel
theorem dX8_copy_47 : decode cX8_copy 47 = .ok (.getfield 269, 3) := by decide +kernel
theorem dX8_copy_50 : decode cX8_copy 50 = .ok (.iload_n 1, 1) := by decide +kernel
theorem dX8_copy_51 : decode cX8_copy 51 = .ok (.iaload, 1) := by decide +kernel
theorem dX8_copy_52 : decode cX8_copy 52 = .ok (.aload_n 0, 1) := by decide +kernel
theorem dX8_copy_53 : decode cX8_copy 53 = .ok (.getfield 36, 3) := by decide +kernel
theorem dX8_copy_56 : decode cX8_copy 56 = .ok (.getfield 269, 3) := by decide +kernel
theorem dX8_copy_59 : decode cX8_copy 59 = .ok (.iload_n 3, 1) := by decide +kernel
theorem dX8_copy_60 : decode cX8_copy 60 = .ok (.iaload, 1) := by decide +kernel
theorem dX8_copy_61 : decode cX8_copy 61 = .ok (.if_icmp .eq 6, 3) := by decide +kernel
theorem dX8_copy_64 : decode cX8_copy 64 = .ok (.bipush (-12), 2) := by decide +kernel
theorem dX8_copy_66 : decode cX8_copy 66 = .ok (.ireturn, 1) := by decide +kernel
theorem dX8_copy_67 : decode cX8_copy 67 = .ok (.aload_n 0, 1) := by decide +kernel
theorem dX8_copy_68 : decode cX8_copy 68 = .ok (.getfield 36, 3) := by decide +kernel
theorem dX8_copy_71 : decode cX8_copy 71 = .ok (.iload_n 1, 1) := by decide +kernel
theorem dX8_copy_72 : decode cX8_copy 72 = .ok (.iload_n 2, 1) := by decide +kernel
theorem dX8_copy_73 : decode cX8_copy 73 = .ok (.iload 5, 2) := by decide +kernel
theorem dX8_copy_75 : decode cX8_copy 75 = .ok (.invokevirtual 252, 3) := by decide +kernel
theorem dX8_copy_78 : decode cX8_copy 78 = .ok (.ifCond .eq 18, 3) := by decide +kernel
theorem dX8_copy_81 : decode cX8_copy 81 = .ok (.aload_n 0, 1) := by decide +kernel
theorem dX8_copy_82 : decode cX8_copy 82 = .ok (.getfield 36, 3) := by decide +kernel
theorem dX8_copy_85 : decode cX8_copy 85 = .ok (.iload_n 3, 1) := by decide +kernel
theorem dX8_copy_86 : decode cX8_copy 86 = .ok (.iload 4, 2) := by decide +kernel
theorem dX8_copy_88 : decode cX8_copy 88 = .ok (.iload 5, 2) := by decide +kernel
theorem dX8_copy_90 : decode cX8_copy 90 = .ok (.invokevirtual 252, 3) := by decide +kernel
theorem dX8_copy_93 : decode cX8_copy 93 = .ok (.ifCond .ne 6, 3) := by decide +kernel
theorem dX8_copy_96 : decode cX8_copy 96 = .ok (.bipush (-13), 2) := by decide +kernel
theorem dX8_copy_98 : decode cX8_copy 98 = .ok (.ireturn, 1) := by decide +kernel
theorem dX8_copy_99 : decode cX8_copy 99 = .ok (.aload_n 0, 1) := by decide +kernel
theorem dX8_copy_100 : decode cX8_copy 100 = .ok (.getfield 36, 3) := by decide +kernel
theorem dX8_copy_103 : decode cX8_copy 103 = .ok (.iload_n 1, 1) := by decide +kernel
theorem dX8_copy_104 : decode cX8_copy 104 = .ok (.iload_n 2, 1) := by decide +kernel
theorem dX8_copy_105 : decode cX8_copy 105 = .ok (.iload_n 3, 1) := by decide +kernel
theorem dX8_copy_106 : decode cX8_copy 106 = .ok (.iload 4, 2) := by decide +kernel
theorem dX8_copy_108 : decode cX8_copy 108 = .ok (.iload 5, 2) := by decide +kernel
theorem dX8_copy_110 : decode cX8_copy 110 = .ok (.invokevirtual 277, 3) := by decide +kernel
theorem dX8_copy_113 : decode cX8_copy 113 = .ok (.iload 5, 2) := by decide +kernel
theorem dX8_copy_115 : decode cX8_copy 115 = .ok (.ireturn, 1) := by decide +kernel
theorem dX8_isBelow_0 : decode cX8_isBelow 0 = .ok (.iload_n 0, 1) := by decide +kernel
theorem dX8_isBelow_1 : decode cX8_isBelow 1 = .ok (.ifCond .lt 12, 3) := by decide +kernel
theorem dX8_isBelow_4 : decode cX8_isBelow 4 = .ok (.iload_n 0, 1) := by decide +kernel
theorem dX8_isBelow_5 : decode cX8_isBelow 5 = .ok (.iload_n 1, 1) := by decide +kernel
theorem dX8_isBelow_6 : decode cX8_isBelow 6 = .ok (.if_icmp .ge 7, 3) := by decide +kernel
theorem dX8_isBelow_9 : decode cX8_isBelow 9 = .ok (.iconst 1, 1) := by decide +kernel
theorem dX8_isBelow_10 : decode cX8_isBelow 10 = .ok (.goto 4, 3) := by decide +kernel
theorem dX8_isBelow_13 : decode cX8_isBelow 13 = .ok (.iconst 0, 1) := by decide +kernel
theorem dX8_isBelow_14 : decode cX8_isBelow 14 = .ok (.ireturn, 1) := by decide +kernel
theorem dX8_isShowing_0 : decode cX8_isShowing 0 = .ok (.iload_n 0, 1) := by decide +kernel
theorem dX8_isShowing_1 : decode cX8_isShowing 1 = .ok (.iconst 1, 1) := by decide +kernel
theorem dX8_isShowing_2 : decode cX8_isShowing 2 = .ok (.if_icmp .lt 13, 3) := by decide +kernel
theorem dX8_isShowing_5 : decode cX8_isShowing 5 = .ok (.iload_n 0, 1) := by decide +kernel
theorem dX8_isShowing_6 : decode cX8_isShowing 6 = .ok (.bipush 9, 2) := by decide +kernel
theorem dX8_isShowing_8 : decode cX8_isShowing 8 = .ok (.if_icmp .gt 7, 3) := by decide +kernel
theorem dX8_isShowing_11 : decode cX8_isShowing 11 = .ok (.iconst 1, 1) := by decide +kernel
theorem dX8_isShowing_12 : decode cX8_isShowing 12 = .ok (.goto 4, 3) := by decide +kernel
theorem dX8_isShowing_15 : decode cX8_isShowing 15 = .ok (.iconst 0, 1) := by decide +kernel
theorem dX8_isShowing_16 : decode cX8_isShowing 16 = .ok (.ireturn, 1) := by decide +kernel
theorem dX8_exchange_0 : decode cX8_exchange 0 = .ok (.aload_n 0, 1) := by decide +kernel
theorem dX8_exchange_1 : decode cX8_exchange 1 = .ok (.iload_n 1, 1) := by decide +kernel
theorem dX8_exchange_2 : decode cX8_exchange 2 = .ok (.iaload, 1) := by decide +kernel
theorem dX8_exchange_3 : decode cX8_exchange 3 = .ok (.istore_n 3, 1) := by decide +kernel
theorem dX8_exchange_4 : decode cX8_exchange 4 = .ok (.aload_n 0, 1) := by decide +kernel
theorem dX8_exchange_5 : decode cX8_exchange 5 = .ok (.iload_n 1, 1) := by decide +kernel
theorem dX8_exchange_6 : decode cX8_exchange 6 = .ok (.iload_n 2, 1) := by decide +kernel
theorem dX8_exchange_7 : decode cX8_exchange 7 = .ok (.iastore, 1) := by decide +kernel
theorem dX8_exchange_8 : decode cX8_exchange 8 = .ok (.iload_n 3, 1) := by decide +kernel
theorem dX8_exchange_9 : decode cX8_exchange 9 = .ok (.ireturn, 1) := by decide +kernel
theorem dX8_toldIn_0 : decode cX8_toldIn 0 = .ok (.iconst 0, 1) := by decide +kernel
theorem dX8_toldIn_1 : decode cX8_toldIn 1 = .ok (.istore_n 1, 1) := by decide +kernel
theorem dX8_toldIn_2 : decode cX8_toldIn 2 = .ok (.iconst 0, 1) := by decide +kernel
theorem dX8_toldIn_3 : decode cX8_toldIn 3 = .ok (.istore_n 2, 1) := by decide +kernel
theorem dX8_toldIn_4 : decode cX8_toldIn 4 = .ok (.iload_n 2, 1) := by decide +kernel
theorem dX8_toldIn_5 : decode cX8_toldIn 5 = .ok (.aload_n 0, 1) := by decide +kernel
theorem dX8_toldIn_6 : decode cX8_toldIn 6 = .ok (.arraylength, 1) := by decide +kernel
theorem dX8_toldIn_7 : decode cX8_toldIn 7 = .ok (.if_icmp .ge 18, 3) := by decide +kernel
theorem dX8_toldIn_10 : decode cX8_toldIn 10 = .ok (.aload_n 0, 1) := by decide +kernel
theorem dX8_toldIn_11 : decode cX8_toldIn 11 = .ok (.iload_n 2, 1) := by decide +kernel
theorem dX8_toldIn_12 : decode cX8_toldIn 12 = .ok (.iaload, 1) := by decide +kernel
theorem dX8_toldIn_13 : decode cX8_toldIn 13 = .ok (.ifCond .eq 6, 3) := by decide +kernel
theorem dX8_toldIn_16 : decode cX8_toldIn 16 = .ok (.iinc 1 1, 3) := by decide +kernel
theorem dX8_toldIn_19 : decode cX8_toldIn 19 = .ok (.iinc 2 1, 3) := by decide +kernel
theorem dX8_toldIn_22 : decode cX8_toldIn 22 = .ok (.goto (-18), 3) := by decide +kernel
theorem dX8_toldIn_25 : decode cX8_toldIn 25 = .ok (.iload_n 1, 1) := by decide +kernel
theorem dX8_toldIn_26 : decode cX8_toldIn 26 = .ok (.ireturn, 1) := by decide +kernel
theorem dX8_thousandths_0 : decode cX8_thousandths 0 = .ok (.iload_n 1, 1) := by decide +kernel
theorem dX8_thousandths_1 : decode cX8_thousandths 1 = .ok (.ifCond .gt 7, 3) := by decide +kernel
theorem dX8_thousandths_4 : decode cX8_thousandths 4 = .ok (.iconst 0, 1) := by decide +kernel
theorem dX8_thousandths_5 : decode cX8_thousandths 5 = .ok (.goto 10, 3) := by decide +kernel
theorem dX8_thousandths_8 : decode cX8_thousandths 8 = .ok (.sipush 1000, 3) := by decide +kernel
theorem dX8_thousandths_11 : decode cX8_thousandths 11 = .ok (.iload_n 0, 1) := by decide +kernel
theorem dX8_thousandths_12 : decode cX8_thousandths 12 = .ok (.imul, 1) := by decide +kernel
theorem dX8_thousandths_13 : decode cX8_thousandths 13 = .ok (.iload_n 1, 1) := by decide +kernel
theorem dX8_thousandths_14 : decode cX8_thousandths 14 = .ok (.idiv, 1) := by decide +kernel
theorem dX8_thousandths_15 : decode cX8_thousandths 15 = .ok (.ireturn, 1) := by decide +kernel
theorem dX8_commonDivisor_0 : decode cX8_commonDivisor 0 = .ok (.iconst 0, 1) := by decide +kernel
theorem dX8_commonDivisor_1 : decode cX8_commonDivisor 1 = .ok (.istore_n 2, 1) := by decide +kernel
theorem dX8_commonDivisor_2 : decode cX8_commonDivisor 2 = .ok (.iload_n 2, 1) := by decide +kernel
theorem dX8_commonDivisor_3 : decode cX8_commonDivisor 3 = .ok (.bipush 64, 2) := by decide +kernel
theorem dX8_commonDivisor_5 : decode cX8_commonDivisor 5 = .ok (.if_icmp .ge 21, 3) := by decide +kernel
theorem dX8_commonDivisor_8 : decode cX8_commonDivisor 8 = .ok (.iload_n 1, 1) := by decide +kernel
theorem dX8_commonDivisor_9 : decode cX8_commonDivisor 9 = .ok (.ifCond .eq 17, 3) := by decide +kernel
theorem dX8_commonDivisor_12 : decode cX8_commonDivisor 12 = .ok (.iload_n 0, 1) := by decide +kernel
theorem dX8_commonDivisor_13 : decode cX8_commonDivisor 13 = .ok (.iload_n 1, 1) := by decide +kernel
theorem dX8_commonDivisor_14 : decode cX8_commonDivisor 14 = .ok (.irem, 1) := by decide +kernel
theorem dX8_commonDivisor_15 : decode cX8_commonDivisor 15 = .ok (.istore_n 3, 1) := by decide +kernel
theorem dX8_commonDivisor_16 : decode cX8_commonDivisor 16 = .ok (.iload_n 1, 1) := by decide +kernel
theorem dX8_commonDivisor_17 : decode cX8_commonDivisor 17 = .ok (.istore_n 0, 1) := by decide +kernel
theorem dX8_commonDivisor_18 : decode cX8_commonDivisor 18 = .ok (.iload_n 3, 1) := by decide +kernel
theorem dX8_commonDivisor_19 : decode cX8_commonDivisor 19 = .ok (.istore_n 1, 1) := by decide +kernel
theorem dX8_commonDivisor_20 : decode cX8_commonDivisor 20 = .ok (.iinc 2 1, 3) := by decide +kernel
theorem dX8_commonDivisor_23 : decode cX8_commonDivisor 23 = .ok (.goto (-21), 3) := by decide +kernel
theorem dX8_commonDivisor_26 : decode cX8_commonDivisor 26 = .ok (.iload_n 0, 1) := by decide +kernel
theorem dX8_commonDivisor_27 : decode cX8_commonDivisor 27 = .ok (.ireturn, 1) := by decide +kernel
theorem dX8_canSee_0 : decode cX8_canSee 0 = .ok (.iload_n 0, 1) := by decide +kernel
theorem dX8_canSee_1 : decode cX8_canSee 1 = .ok (.iconst 4, 1) := by decide +kernel
theorem dX8_canSee_2 : decode cX8_canSee 2 = .ok (.irem, 1) := by decide +kernel
theorem dX8_canSee_3 : decode cX8_canSee 3 = .ok (.iload_n 2, 1) := by decide +kernel
theorem dX8_canSee_4 : decode cX8_canSee 4 = .ok (.isub, 1) := by decide +kernel
theorem dX8_canSee_5 : decode cX8_canSee 5 = .ok (.istore_n 3, 1) := by decide +kernel
theorem dX8_canSee_6 : decode cX8_canSee 6 = .ok (.iload_n 1, 1) := by decide +kernel
theorem dX8_canSee_7 : decode cX8_canSee 7 = .ok (.iconst 1, 1) := by decide +kernel
theorem dX8_canSee_8 : decode cX8_canSee 8 = .ok (.if_icmp .ne 15, 3) := by decide +kernel
theorem dX8_canSee_11 : decode cX8_canSee 11 = .ok (.iload_n 3, 1) := by decide +kernel
theorem dX8_canSee_12 : decode cX8_canSee 12 = .ok (.bipush (-2), 2) := by decide +kernel
theorem dX8_canSee_14 : decode cX8_canSee 14 = .ok (.if_icmp .le 7, 3) := by decide +kernel
theorem dX8_canSee_17 : decode cX8_canSee 17 = .ok (.iconst 1, 1) := by decide +kernel
theorem dX8_canSee_18 : decode cX8_canSee 18 = .ok (.goto 4, 3) := by decide +kernel
theorem dX8_canSee_21 : decode cX8_canSee 21 = .ok (.iconst 0, 1) := by decide +kernel
theorem dX8_canSee_22 : decode cX8_canSee 22 = .ok (.ireturn, 1) := by decide +kernel
theorem dX8_canSee_23 : decode cX8_canSee 23 = .ok (.iload_n 1, 1) := by decide +kernel
theorem dX8_canSee_24 : decode cX8_canSee 24 = .ok (.ifCond .ne 8, 3) := by decide +kernel
theorem dX8_canSee_27 : decode cX8_canSee 27 = .ok (.iload_n 3, 1) := by decide +kernel
theorem dX8_canSee_28 : decode cX8_canSee 28 = .ok (.iconst 2, 1) := by decide +kernel
theorem dX8_canSee_29 : decode cX8_canSee 29 = .ok (.if_icmp .ge 7, 3) := by decide +kernel
theorem dX8_canSee_32 : decode cX8_canSee 32 = .ok (.iconst 1, 1) := by decide +kernel
theorem dX8_canSee_33 : decode cX8_canSee 33 = .ok (.goto 4, 3) := by decide +kernel
theorem dX8_canSee_36 : decode cX8_canSee 36 = .ok (.iconst 0, 1) := by decide +kernel
theorem dX8_canSee_37 : decode cX8_canSee 37 = .ok (.ireturn, 1) := by decide +kernel

theorem dX0_init_0 : decode cX0_init 0 = .ok (.aload_n 0, 1) := by decide +kernel
theorem dX0_init_1 : decode cX0_init 1 = .ok (.invokespecial 3, 3) := by decide +kernel
theorem dX0_init_4 : decode cX0_init 4 = .ok (.aload_n 0, 1) := by decide +kernel
theorem dX0_init_5 : decode cX0_init 5 = .ok (.bipush 8, 2) := by decide +kernel
theorem dX0_init_7 : decode cX0_init 7 = .ok (.newarray .int, 2) := by decide +kernel
theorem dX0_init_9 : decode cX0_init 9 = .ok (.putfield 9, 3) := by decide +kernel
theorem dX0_init_12 : decode cX0_init 12 = .ok (.aload_n 0, 1) := by decide +kernel
theorem dX0_init_13 : decode cX0_init 13 = .ok (.bipush 8, 2) := by decide +kernel
theorem dX0_init_15 : decode cX0_init 15 = .ok (.newarray .int, 2) := by decide +kernel
theorem dX0_init_17 : decode cX0_init 17 = .ok (.putfield 15, 3) := by decide +kernel
theorem dX0_init_20 : decode cX0_init 20 = .ok (.aload_n 0, 1) := by decide +kernel
theorem dX0_init_21 : decode cX0_init 21 = .ok (.bipush 8, 2) := by decide +kernel
theorem dX0_init_23 : decode cX0_init 23 = .ok (.newarray .int, 2) := by decide +kernel
theorem dX0_init_25 : decode cX0_init 25 = .ok (.putfield 18, 3) := by decide +kernel
theorem dX0_init_28 : decode cX0_init 28 = .ok (.aload_n 0, 1) := by decide +kernel
theorem dX0_init_29 : decode cX0_init 29 = .ok (.bipush 8, 2) := by decide +kernel
theorem dX0_init_31 : decode cX0_init 31 = .ok (.newarray .int, 2) := by decide +kernel
theorem dX0_init_33 : decode cX0_init 33 = .ok (.putfield 21, 3) := by decide +kernel
theorem dX0_init_36 : decode cX0_init 36 = .ok (.return_, 1) := by decide +kernel
theorem dX0_become_0 : decode cX0_become 0 = .ok (.aload_n 1, 1) := by decide +kernel
theorem dX0_become_1 : decode cX0_become 1 = .ok (.getfield 9, 3) := by decide +kernel
theorem dX0_become_4 : decode cX0_become 4 = .ok (.iconst 0, 1) := by decide +kernel
theorem dX0_become_5 : decode cX0_become 5 = .ok (.aload_n 0, 1) := by decide +kernel
theorem dX0_become_6 : decode cX0_become 6 = .ok (.getfield 9, 3) := by decide +kernel
theorem dX0_become_9 : decode cX0_become 9 = .ok (.iconst 0, 1) := by decide +kernel
theorem dX0_become_10 : decode cX0_become 10 = .ok (.bipush 8, 2) := by decide +kernel
theorem dX0_become_12 : decode cX0_become 12 = .ok (.invokestatic 24, 3) := by decide +kernel
theorem dX0_become_15 : decode cX0_become 15 = .ok (.aload_n 1, 1) := by decide +kernel
theorem dX0_become_16 : decode cX0_become 16 = .ok (.getfield 15, 3) := by decide +kernel
theorem dX0_become_19 : decode cX0_become 19 = .ok (.iconst 0, 1) := by decide +kernel
theorem dX0_become_20 : decode cX0_become 20 = .ok (.aload_n 0, 1) := by decide +kernel
theorem dX0_become_21 : decode cX0_become 21 = .ok (.getfield 15, 3) := by decide +kernel
theorem dX0_become_24 : decode cX0_become 24 = .ok (.iconst 0, 1) := by decide +kernel
theorem dX0_become_25 : decode cX0_become 25 = .ok (.bipush 8, 2) := by decide +kernel
theorem dX0_become_27 : decode cX0_become 27 = .ok (.invokestatic 24, 3) := by decide +kernel
theorem dX0_become_30 : decode cX0_become 30 = .ok (.aload_n 1, 1) := by decide +kernel
theorem dX0_become_31 : decode cX0_become 31 = .ok (.getfield 18, 3) := by decide +kernel
theorem dX0_become_34 : decode cX0_become 34 = .ok (.iconst 0, 1) := by decide +kernel
theorem dX0_become_35 : decode cX0_become 35 = .ok (.aload_n 0, 1) := by decide +kernel
theorem dX0_become_36 : decode cX0_become 36 = .ok (.getfield 18, 3) := by decide +kernel
theorem dX0_become_39 : decode cX0_become 39 = .ok (.iconst 0, 1) := by decide +kernel
theorem dX0_become_40 : decode cX0_become 40 = .ok (.bipush 8, 2) := by decide +kernel
theorem dX0_become_42 : decode cX0_become 42 = .ok (.invokestatic 24, 3) := by decide +kernel
theorem dX0_become_45 : decode cX0_become 45 = .ok (.aload_n 1, 1) := by decide +kernel
theorem dX0_become_46 : decode cX0_become 46 = .ok (.getfield 21, 3) := by decide +kernel
theorem dX0_become_49 : decode cX0_become 49 = .ok (.iconst 0, 1) := by decide +kernel
theorem dX0_become_50 : decode cX0_become 50 = .ok (.aload_n 0, 1) := by decide +kernel
theorem dX0_become_51 : decode cX0_become 51 = .ok (.getfield 21, 3) := by decide +kernel
theorem dX0_become_54 : decode cX0_become 54 = .ok (.iconst 0, 1) := by decide +kernel
theorem dX0_become_55 : decode cX0_become 55 = .ok (.bipush 8, 2) := by decide +kernel
theorem dX0_become_57 : decode cX0_become 57 = .ok (.invokestatic 24, 3) := by decide +kernel
theorem dX0_become_60 : decode cX0_become 60 = .ok (.aload_n 0, 1) := by decide +kernel
theorem dX0_become_61 : decode cX0_become 61 = .ok (.aload_n 1, 1) := by decide +kernel
theorem dX0_become_62 : decode cX0_become 62 = .ok (.getfield 30, 3) := by decide +kernel
theorem dX0_become_65 : decode cX0_become 65 = .ok (.putfield 30, 3) := by decide +kernel
theorem dX0_become_68 : decode cX0_become 68 = .ok (.return_, 1) := by decide +kernel
theorem dX0_add_0 : decode cX0_add 0 = .ok (.aload_n 0, 1) := by decide +kernel
theorem dX0_add_1 : decode cX0_add 1 = .ok (.getfield 30, 3) := by decide +kernel
theorem dX0_add_4 : decode cX0_add 4 = .ok (.bipush 8, 2) := by decide +kernel
theorem dX0_add_6 : decode cX0_add 6 = .ok (.if_icmp .ge 54, 3) := by decide +kernel
theorem dX0_add_9 : decode cX0_add 9 = .ok (.aload_n 0, 1) := by decide +kernel
theorem dX0_add_10 : decode cX0_add 10 = .ok (.getfield 9, 3) := by decide +kernel
theorem dX0_add_13 : decode cX0_add 13 = .ok (.aload_n 0, 1) := by decide +kernel
theorem dX0_add_14 : decode cX0_add 14 = .ok (.getfield 30, 3) := by decide +kernel
theorem dX0_add_17 : decode cX0_add 17 = .ok (.iload_n 1, 1) := by decide +kernel
theorem dX0_add_18 : decode cX0_add 18 = .ok (.iastore, 1) := by decide +kernel
theorem dX0_add_19 : decode cX0_add 19 = .ok (.aload_n 0, 1) := by decide +kernel
theorem dX0_add_20 : decode cX0_add 20 = .ok (.getfield 15, 3) := by decide +kernel
theorem dX0_add_23 : decode cX0_add 23 = .ok (.aload_n 0, 1) := by decide +kernel
theorem dX0_add_24 : decode cX0_add 24 = .ok (.getfield 30, 3) := by decide +kernel
theorem dX0_add_27 : decode cX0_add 27 = .ok (.iload_n 2, 1) := by decide +kernel
theorem dX0_add_28 : decode cX0_add 28 = .ok (.iastore, 1) := by decide +kernel
theorem dX0_add_29 : decode cX0_add 29 = .ok (.aload_n 0, 1) := by decide +kernel
theorem dX0_add_30 : decode cX0_add 30 = .ok (.getfield 18, 3) := by decide +kernel
theorem dX0_add_33 : decode cX0_add 33 = .ok (.aload_n 0, 1) := by decide +kernel
theorem dX0_add_34 : decode cX0_add 34 = .ok (.getfield 30, 3) := by decide +kernel
theorem dX0_add_37 : decode cX0_add 37 = .ok (.iload_n 3, 1) := by decide +kernel
theorem dX0_add_38 : decode cX0_add 38 = .ok (.iastore, 1) := by decide +kernel
theorem dX0_add_39 : decode cX0_add 39 = .ok (.aload_n 0, 1) := by decide +kernel
theorem dX0_add_40 : decode cX0_add 40 = .ok (.getfield 21, 3) := by decide +kernel
theorem dX0_add_43 : decode cX0_add 43 = .ok (.aload_n 0, 1) := by decide +kernel
theorem dX0_add_44 : decode cX0_add 44 = .ok (.getfield 30, 3) := by decide +kernel
theorem dX0_add_47 : decode cX0_add 47 = .ok (.iload 4, 2) := by decide +kernel
theorem dX0_add_49 : decode cX0_add 49 = .ok (.iastore, 1) := by decide +kernel
theorem dX0_add_50 : decode cX0_add 50 = .ok (.aload_n 0, 1) := by decide +kernel
theorem dX0_add_51 : decode cX0_add 51 = .ok (.dup, 1) := by decide +kernel
theorem dX0_add_52 : decode cX0_add 52 = .ok (.getfield 30, 3) := by decide +kernel
theorem dX0_add_55 : decode cX0_add 55 = .ok (.iconst 1, 1) := by decide +kernel
theorem dX0_add_56 : decode cX0_add 56 = .ok (.iadd, 1) := by decide +kernel
theorem dX0_add_57 : decode cX0_add 57 = .ok (.putfield 30, 3) := by decide +kernel
theorem dX0_add_60 : decode cX0_add 60 = .ok (.return_, 1) := by decide +kernel
theorem dX0_costOf_0 : decode cX0_costOf 0 = .ok (.iconst 0, 1) := by decide +kernel
theorem dX0_costOf_1 : decode cX0_costOf 1 = .ok (.istore_n 2, 1) := by decide +kernel
theorem dX0_costOf_2 : decode cX0_costOf 2 = .ok (.iconst 0, 1) := by decide +kernel
theorem dX0_costOf_3 : decode cX0_costOf 3 = .ok (.istore_n 3, 1) := by decide +kernel
theorem dX0_costOf_4 : decode cX0_costOf 4 = .ok (.iload_n 3, 1) := by decide +kernel
theorem dX0_costOf_5 : decode cX0_costOf 5 = .ok (.aload_n 0, 1) := by decide +kernel
theorem dX0_costOf_6 : decode cX0_costOf 6 = .ok (.getfield 30, 3) := by decide +kernel
theorem dX0_costOf_9 : decode cX0_costOf 9 = .ok (.if_icmp .ge 26, 3) := by decide +kernel
theorem dX0_costOf_12 : decode cX0_costOf 12 = .ok (.iload_n 1, 1) := by decide +kernel
theorem dX0_costOf_13 : decode cX0_costOf 13 = .ok (.iload_n 3, 1) := by decide +kernel
theorem dX0_costOf_14 : decode cX0_costOf 14 = .ok (.ishr, 1) := by decide +kernel
theorem dX0_costOf_15 : decode cX0_costOf 15 = .ok (.iconst 1, 1) := by decide +kernel
theorem dX0_costOf_16 : decode cX0_costOf 16 = .ok (.iand, 1) := by decide +kernel
theorem dX0_costOf_17 : decode cX0_costOf 17 = .ok (.ifCond .eq 12, 3) := by decide +kernel
theorem dX0_costOf_20 : decode cX0_costOf 20 = .ok (.iload_n 2, 1) := by decide +kernel
theorem dX0_costOf_21 : decode cX0_costOf 21 = .ok (.aload_n 0, 1) := by decide +kernel
theorem dX0_costOf_22 : decode cX0_costOf 22 = .ok (.getfield 21, 3) := by decide +kernel
theorem dX0_costOf_25 : decode cX0_costOf 25 = .ok (.iload_n 3, 1) := by decide +kernel
theorem dX0_costOf_26 : decode cX0_costOf 26 = .ok (.iaload, 1) := by decide +kernel
theorem dX0_costOf_27 : decode cX0_costOf 27 = .ok (.iadd, 1) := by decide +kernel
theorem dX0_costOf_28 : decode cX0_costOf 28 = .ok (.istore_n 2, 1) := by decide +kernel
theorem dX0_costOf_29 : decode cX0_costOf 29 = .ok (.iinc 3 1, 3) := by decide +kernel
theorem dX0_costOf_32 : decode cX0_costOf 32 = .ok (.goto (-28), 3) := by decide +kernel
theorem dX0_costOf_35 : decode cX0_costOf 35 = .ok (.iload_n 2, 1) := by decide +kernel
theorem dX0_costOf_36 : decode cX0_costOf 36 = .ok (.ireturn, 1) := by decide +kernel
theorem dX0_layOn_0 : decode cX0_layOn 0 = .ok (.iconst 0, 1) := by decide +kernel
theorem dX0_layOn_1 : decode cX0_layOn 1 = .ok (.istore_n 3, 1) := by decide +kernel
theorem dX0_layOn_2 : decode cX0_layOn 2 = .ok (.iload_n 3, 1) := by decide +kernel
theorem dX0_layOn_3 : decode cX0_layOn 3 = .ok (.aload_n 0, 1) := by decide +kernel
theorem dX0_layOn_4 : decode cX0_layOn 4 = .ok (.getfield 30, 3) := by decide +kernel
theorem dX0_layOn_7 : decode cX0_layOn 7 = .ok (.if_icmp .ge 133, 3) := by decide +kernel
theorem dX0_layOn_10 : decode cX0_layOn 10 = .ok (.iload_n 2, 1) := by decide +kernel
theorem dX0_layOn_11 : decode cX0_layOn 11 = .ok (.iload_n 3, 1) := by decide +kernel
theorem dX0_layOn_12 : decode cX0_layOn 12 = .ok (.ishr, 1) := by decide +kernel
theorem dX0_layOn_13 : decode cX0_layOn 13 = .ok (.iconst 1, 1) := by decide +kernel
theorem dX0_layOn_14 : decode cX0_layOn 14 = .ok (.iand, 1) := by decide +kernel
theorem dX0_layOn_15 : decode cX0_layOn 15 = .ok (.ifCond .ne 6, 3) := by decide +kernel
theorem dX0_layOn_18 : decode cX0_layOn 18 = .ok (.goto 116, 3) := by decide +kernel
theorem dX0_layOn_21 : decode cX0_layOn 21 = .ok (.aload_n 0, 1) := by decide +kernel
theorem dX0_layOn_22 : decode cX0_layOn 22 = .ok (.getfield 15, 3) := by decide +kernel
theorem dX0_layOn_25 : decode cX0_layOn 25 = .ok (.iload_n 3, 1) := by decide +kernel
theorem dX0_layOn_26 : decode cX0_layOn 26 = .ok (.iaload, 1) := by decide +kernel
theorem dX0_layOn_27 : decode cX0_layOn 27 = .ok (.tableswitch 95 0 2 #[25, 51, 73], 25) := by decide +kernel
theorem dX0_layOn_52 : decode cX0_layOn 52 = .ok (.aload_n 1, 1) := by decide +kernel
theorem dX0_layOn_53 : decode cX0_layOn 53 = .ok (.getfield 34, 3) := by decide +kernel
theorem dX0_layOn_56 : decode cX0_layOn 56 = .ok (.aload_n 0, 1) := by decide +kernel
theorem dX0_layOn_57 : decode cX0_layOn 57 = .ok (.getfield 9, 3) := by decide +kernel
theorem dX0_layOn_60 : decode cX0_layOn 60 = .ok (.iload_n 3, 1) := by decide +kernel
theorem dX0_layOn_61 : decode cX0_layOn 61 = .ok (.iaload, 1) := by decide +kernel
theorem dX0_layOn_62 : decode cX0_layOn 62 = .ok (.bipush 10, 2) := by decide +kernel
theorem dX0_layOn_64 : decode cX0_layOn 64 = .ok (.aload_n 0, 1) := by decide +kernel
theorem dX0_layOn_65 : decode cX0_layOn 65 = .ok (.getfield 18, 3) := by decide +kernel
theorem dX0_layOn_68 : decode cX0_layOn 68 = .ok (.iload_n 3, 1) := by decide +kernel
theorem dX0_layOn_69 : decode cX0_layOn 69 = .ok (.iaload, 1) := by decide +kernel
theorem dX0_layOn_70 : decode cX0_layOn 70 = .ok (.imul, 1) := by decide +kernel
theorem dX0_layOn_71 : decode cX0_layOn 71 = .ok (.bipush 6, 2) := by decide +kernel
theorem dX0_layOn_73 : decode cX0_layOn 73 = .ok (.iadd, 1) := by decide +kernel
theorem dX0_layOn_74 : decode cX0_layOn 74 = .ok (.iastore, 1) := by decide +kernel
theorem dX0_layOn_75 : decode cX0_layOn 75 = .ok (.goto 59, 3) := by decide +kernel
theorem dX0_layOn_78 : decode cX0_layOn 78 = .ok (.aload_n 1, 1) := by decide +kernel
theorem dX0_layOn_79 : decode cX0_layOn 79 = .ok (.getfield 39, 3) := by decide +kernel
theorem dX0_layOn_82 : decode cX0_layOn 82 = .ok (.aload_n 0, 1) := by decide +kernel
theorem dX0_layOn_83 : decode cX0_layOn 83 = .ok (.getfield 9, 3) := by decide +kernel
theorem dX0_layOn_86 : decode cX0_layOn 86 = .ok (.iload_n 3, 1) := by decide +kernel
theorem dX0_layOn_87 : decode cX0_layOn 87 = .ok (.iaload, 1) := by decide +kernel
theorem dX0_layOn_88 : decode cX0_layOn 88 = .ok (.iconst 1, 1) := by decide +kernel
theorem dX0_layOn_89 : decode cX0_layOn 89 = .ok (.aload_n 0, 1) := by decide +kernel
theorem dX0_layOn_90 : decode cX0_layOn 90 = .ok (.getfield 18, 3) := by decide +kernel
theorem dX0_layOn_93 : decode cX0_layOn 93 = .ok (.iload_n 3, 1) := by decide +kernel
theorem dX0_layOn_94 : decode cX0_layOn 94 = .ok (.iaload, 1) := by decide +kernel
theorem dX0_layOn_95 : decode cX0_layOn 95 = .ok (.iadd, 1) := by decide +kernel
theorem dX0_layOn_96 : decode cX0_layOn 96 = .ok (.iastore, 1) := by decide +kernel
theorem dX0_layOn_97 : decode cX0_layOn 97 = .ok (.goto 37, 3) := by decide +kernel
theorem dX0_layOn_100 : decode cX0_layOn 100 = .ok (.aload_n 1, 1) := by decide +kernel
theorem dX0_layOn_101 : decode cX0_layOn 101 = .ok (.getfield 42, 3) := by decide +kernel
theorem dX0_layOn_104 : decode cX0_layOn 104 = .ok (.aload_n 0, 1) := by decide +kernel
theorem dX0_layOn_105 : decode cX0_layOn 105 = .ok (.getfield 9, 3) := by decide +kernel
theorem dX0_layOn_108 : decode cX0_layOn 108 = .ok (.iload_n 3, 1) := by decide +kernel
theorem dX0_layOn_109 : decode cX0_layOn 109 = .ok (.iaload, 1) := by decide +kernel
theorem dX0_layOn_110 : decode cX0_layOn 110 = .ok (.iconst 1, 1) := by decide +kernel
theorem dX0_layOn_111 : decode cX0_layOn 111 = .ok (.aload_n 0, 1) := by decide +kernel
theorem dX0_layOn_112 : decode cX0_layOn 112 = .ok (.getfield 18, 3) := by decide +kernel
theorem dX0_layOn_115 : decode cX0_layOn 115 = .ok (.iload_n 3, 1) := by decide +kernel
theorem dX0_layOn_116 : decode cX0_layOn 116 = .ok (.iaload, 1) := by decide +kernel
theorem dX0_layOn_117 : decode cX0_layOn 117 = .ok (.iadd, 1) := by decide +kernel
theorem dX0_layOn_118 : decode cX0_layOn 118 = .ok (.iastore, 1) := by decide +kernel
theorem dX0_layOn_119 : decode cX0_layOn 119 = .ok (.goto 15, 3) := by decide +kernel
theorem dX0_layOn_122 : decode cX0_layOn 122 = .ok (.aload_n 1, 1) := by decide +kernel
theorem dX0_layOn_123 : decode cX0_layOn 123 = .ok (.getfield 45, 3) := by decide +kernel
theorem dX0_layOn_126 : decode cX0_layOn 126 = .ok (.aload_n 0, 1) := by decide +kernel
theorem dX0_layOn_127 : decode cX0_layOn 127 = .ok (.getfield 9, 3) := by decide +kernel
theorem dX0_layOn_130 : decode cX0_layOn 130 = .ok (.iload_n 3, 1) := by decide +kernel
theorem dX0_layOn_131 : decode cX0_layOn 131 = .ok (.iaload, 1) := by decide +kernel
theorem dX0_layOn_132 : decode cX0_layOn 132 = .ok (.iconst 1, 1) := by decide +kernel
theorem dX0_layOn_133 : decode cX0_layOn 133 = .ok (.iastore, 1) := by decide +kernel
theorem dX0_layOn_134 : decode cX0_layOn 134 = .ok (.iinc 3 1, 3) := by decide +kernel
theorem dX0_layOn_137 : decode cX0_layOn 137 = .ok (.goto (-135), 3) := by decide +kernel
theorem dX0_layOn_140 : decode cX0_layOn 140 = .ok (.return_, 1) := by decide +kernel
theorem dX1_init_0 : decode cX1_init 0 = .ok (.aload_n 0, 1) := by decide +kernel
theorem dX1_init_1 : decode cX1_init 1 = .ok (.invokespecial 3, 3) := by decide +kernel
theorem dX1_init_4 : decode cX1_init 4 = .ok (.aload_n 0, 1) := by decide +kernel
theorem dX1_init_5 : decode cX1_init 5 = .ok (.bipush 12, 2) := by decide +kernel
theorem dX1_init_7 : decode cX1_init 7 = .ok (.newarray .int, 2) := by decide +kernel
theorem dX1_init_9 : decode cX1_init 9 = .ok (.putfield 9, 3) := by decide +kernel
theorem dX1_init_12 : decode cX1_init 12 = .ok (.aload_n 0, 1) := by decide +kernel
theorem dX1_init_13 : decode cX1_init 13 = .ok (.bipush 12, 2) := by decide +kernel
theorem dX1_init_15 : decode cX1_init 15 = .ok (.newarray .int, 2) := by decide +kernel
theorem dX1_init_17 : decode cX1_init 17 = .ok (.putfield 15, 3) := by decide +kernel
theorem dX1_init_20 : decode cX1_init 20 = .ok (.aload_n 0, 1) := by decide +kernel
theorem dX1_init_21 : decode cX1_init 21 = .ok (.bipush 12, 2) := by decide +kernel
theorem dX1_init_23 : decode cX1_init 23 = .ok (.newarray .int, 2) := by decide +kernel
theorem dX1_init_25 : decode cX1_init 25 = .ok (.putfield 18, 3) := by decide +kernel
theorem dX1_init_28 : decode cX1_init 28 = .ok (.return_, 1) := by decide +kernel
theorem dX1_become_0 : decode cX1_become 0 = .ok (.aload_n 1, 1) := by decide +kernel
theorem dX1_become_1 : decode cX1_become 1 = .ok (.getfield 9, 3) := by decide +kernel
theorem dX1_become_4 : decode cX1_become 4 = .ok (.iconst 0, 1) := by decide +kernel
theorem dX1_become_5 : decode cX1_become 5 = .ok (.aload_n 0, 1) := by decide +kernel
theorem dX1_become_6 : decode cX1_become 6 = .ok (.getfield 9, 3) := by decide +kernel
theorem dX1_become_9 : decode cX1_become 9 = .ok (.iconst 0, 1) := by decide +kernel
theorem dX1_become_10 : decode cX1_become 10 = .ok (.bipush 12, 2) := by decide +kernel
theorem dX1_become_12 : decode cX1_become 12 = .ok (.invokestatic 21, 3) := by decide +kernel
theorem dX1_become_15 : decode cX1_become 15 = .ok (.aload_n 1, 1) := by decide +kernel
theorem dX1_become_16 : decode cX1_become 16 = .ok (.getfield 15, 3) := by decide +kernel
theorem dX1_become_19 : decode cX1_become 19 = .ok (.iconst 0, 1) := by decide +kernel
theorem dX1_become_20 : decode cX1_become 20 = .ok (.aload_n 0, 1) := by decide +kernel
theorem dX1_become_21 : decode cX1_become 21 = .ok (.getfield 15, 3) := by decide +kernel
theorem dX1_become_24 : decode cX1_become 24 = .ok (.iconst 0, 1) := by decide +kernel
theorem dX1_become_25 : decode cX1_become 25 = .ok (.bipush 12, 2) := by decide +kernel
theorem dX1_become_27 : decode cX1_become 27 = .ok (.invokestatic 21, 3) := by decide +kernel
theorem dX1_become_30 : decode cX1_become 30 = .ok (.aload_n 1, 1) := by decide +kernel
theorem dX1_become_31 : decode cX1_become 31 = .ok (.getfield 18, 3) := by decide +kernel
theorem dX1_become_34 : decode cX1_become 34 = .ok (.iconst 0, 1) := by decide +kernel
theorem dX1_become_35 : decode cX1_become 35 = .ok (.aload_n 0, 1) := by decide +kernel
theorem dX1_become_36 : decode cX1_become 36 = .ok (.getfield 18, 3) := by decide +kernel
theorem dX1_become_39 : decode cX1_become 39 = .ok (.iconst 0, 1) := by decide +kernel
theorem dX1_become_40 : decode cX1_become 40 = .ok (.bipush 12, 2) := by decide +kernel
theorem dX1_become_42 : decode cX1_become 42 = .ok (.invokestatic 21, 3) := by decide +kernel
theorem dX1_become_45 : decode cX1_become 45 = .ok (.aload_n 0, 1) := by decide +kernel
theorem dX1_become_46 : decode cX1_become 46 = .ok (.aload_n 1, 1) := by decide +kernel
theorem dX1_become_47 : decode cX1_become 47 = .ok (.getfield 27, 3) := by decide +kernel
theorem dX1_become_50 : decode cX1_become 50 = .ok (.putfield 27, 3) := by decide +kernel
theorem dX1_become_53 : decode cX1_become 53 = .ok (.return_, 1) := by decide +kernel
theorem dX1_isTaken_0 : decode cX1_isTaken 0 = .ok (.iconst 0, 1) := by decide +kernel
theorem dX1_isTaken_1 : decode cX1_isTaken 1 = .ok (.istore_n 2, 1) := by decide +kernel
theorem dX1_isTaken_2 : decode cX1_isTaken 2 = .ok (.iload_n 2, 1) := by decide +kernel
theorem dX1_isTaken_3 : decode cX1_isTaken 3 = .ok (.aload_n 0, 1) := by decide +kernel
theorem dX1_isTaken_4 : decode cX1_isTaken 4 = .ok (.getfield 27, 3) := by decide +kernel
theorem dX1_isTaken_7 : decode cX1_isTaken 7 = .ok (.if_icmp .ge 21, 3) := by decide +kernel
theorem dX1_isTaken_10 : decode cX1_isTaken 10 = .ok (.aload_n 0, 1) := by decide +kernel
theorem dX1_isTaken_11 : decode cX1_isTaken 11 = .ok (.getfield 9, 3) := by decide +kernel
theorem dX1_isTaken_14 : decode cX1_isTaken 14 = .ok (.iload_n 2, 1) := by decide +kernel
theorem dX1_isTaken_15 : decode cX1_isTaken 15 = .ok (.iaload, 1) := by decide +kernel
theorem dX1_isTaken_16 : decode cX1_isTaken 16 = .ok (.iload_n 1, 1) := by decide +kernel
theorem dX1_isTaken_17 : decode cX1_isTaken 17 = .ok (.if_icmp .ne 5, 3) := by decide +kernel
theorem dX1_isTaken_20 : decode cX1_isTaken 20 = .ok (.iconst 1, 1) := by decide +kernel
theorem dX1_isTaken_21 : decode cX1_isTaken 21 = .ok (.ireturn, 1) := by decide +kernel
theorem dX1_isTaken_22 : decode cX1_isTaken 22 = .ok (.iinc 2 1, 3) := by decide +kernel
theorem dX1_isTaken_25 : decode cX1_isTaken 25 = .ok (.goto (-23), 3) := by decide +kernel
theorem dX1_isTaken_28 : decode cX1_isTaken 28 = .ok (.iconst 0, 1) := by decide +kernel
theorem dX1_isTaken_29 : decode cX1_isTaken 29 = .ok (.ireturn, 1) := by decide +kernel
theorem dX1_admit_0 : decode cX1_admit 0 = .ok (.aload_n 0, 1) := by decide +kernel
theorem dX1_admit_1 : decode cX1_admit 1 = .ok (.getfield 27, 3) := by decide +kernel
theorem dX1_admit_4 : decode cX1_admit 4 = .ok (.bipush 12, 2) := by decide +kernel
theorem dX1_admit_6 : decode cX1_admit 6 = .ok (.if_icmp .ge 43, 3) := by decide +kernel
theorem dX1_admit_9 : decode cX1_admit 9 = .ok (.aload_n 0, 1) := by decide +kernel
theorem dX1_admit_10 : decode cX1_admit 10 = .ok (.getfield 9, 3) := by decide +kernel
theorem dX1_admit_13 : decode cX1_admit 13 = .ok (.aload_n 0, 1) := by decide +kernel
theorem dX1_admit_14 : decode cX1_admit 14 = .ok (.getfield 27, 3) := by decide +kernel
theorem dX1_admit_17 : decode cX1_admit 17 = .ok (.iload_n 1, 1) := by decide +kernel
theorem dX1_admit_18 : decode cX1_admit 18 = .ok (.iastore, 1) := by decide +kernel
theorem dX1_admit_19 : decode cX1_admit 19 = .ok (.aload_n 0, 1) := by decide +kernel
theorem dX1_admit_20 : decode cX1_admit 20 = .ok (.getfield 15, 3) := by decide +kernel
theorem dX1_admit_23 : decode cX1_admit 23 = .ok (.aload_n 0, 1) := by decide +kernel
theorem dX1_admit_24 : decode cX1_admit 24 = .ok (.getfield 27, 3) := by decide +kernel
theorem dX1_admit_27 : decode cX1_admit 27 = .ok (.iload_n 2, 1) := by decide +kernel
theorem dX1_admit_28 : decode cX1_admit 28 = .ok (.iastore, 1) := by decide +kernel
theorem dX1_admit_29 : decode cX1_admit 29 = .ok (.aload_n 0, 1) := by decide +kernel
theorem dX1_admit_30 : decode cX1_admit 30 = .ok (.getfield 18, 3) := by decide +kernel
theorem dX1_admit_33 : decode cX1_admit 33 = .ok (.aload_n 0, 1) := by decide +kernel
theorem dX1_admit_34 : decode cX1_admit 34 = .ok (.getfield 27, 3) := by decide +kernel
theorem dX1_admit_37 : decode cX1_admit 37 = .ok (.iconst 3, 1) := by decide +kernel
theorem dX1_admit_38 : decode cX1_admit 38 = .ok (.iastore, 1) := by decide +kernel
theorem dX1_admit_39 : decode cX1_admit 39 = .ok (.aload_n 0, 1) := by decide +kernel
theorem dX1_admit_40 : decode cX1_admit 40 = .ok (.dup, 1) := by decide +kernel
theorem dX1_admit_41 : decode cX1_admit 41 = .ok (.getfield 27, 3) := by decide +kernel
theorem dX1_admit_44 : decode cX1_admit 44 = .ok (.iconst 1, 1) := by decide +kernel
theorem dX1_admit_45 : decode cX1_admit 45 = .ok (.iadd, 1) := by decide +kernel
theorem dX1_admit_46 : decode cX1_admit 46 = .ok (.putfield 27, 3) := by decide +kernel
theorem dX1_admit_49 : decode cX1_admit 49 = .ok (.return_, 1) := by decide +kernel
theorem dX1_dismiss_0 : decode cX1_dismiss 0 = .ok (.iload_n 1, 1) := by decide +kernel
theorem dX1_dismiss_1 : decode cX1_dismiss 1 = .ok (.iconst 1, 1) := by decide +kernel
theorem dX1_dismiss_2 : decode cX1_dismiss 2 = .ok (.iadd, 1) := by decide +kernel
theorem dX1_dismiss_3 : decode cX1_dismiss 3 = .ok (.istore_n 2, 1) := by decide +kernel
theorem dX1_dismiss_4 : decode cX1_dismiss 4 = .ok (.iload_n 2, 1) := by decide +kernel
theorem dX1_dismiss_5 : decode cX1_dismiss 5 = .ok (.aload_n 0, 1) := by decide +kernel
theorem dX1_dismiss_6 : decode cX1_dismiss 6 = .ok (.getfield 27, 3) := by decide +kernel
theorem dX1_dismiss_9 : decode cX1_dismiss 9 = .ok (.if_icmp .ge 51, 3) := by decide +kernel
theorem dX1_dismiss_12 : decode cX1_dismiss 12 = .ok (.aload_n 0, 1) := by decide +kernel
theorem dX1_dismiss_13 : decode cX1_dismiss 13 = .ok (.getfield 9, 3) := by decide +kernel
theorem dX1_dismiss_16 : decode cX1_dismiss 16 = .ok (.iload_n 2, 1) := by decide +kernel
theorem dX1_dismiss_17 : decode cX1_dismiss 17 = .ok (.iconst 1, 1) := by decide +kernel
theorem dX1_dismiss_18 : decode cX1_dismiss 18 = .ok (.isub, 1) := by decide +kernel
theorem dX1_dismiss_19 : decode cX1_dismiss 19 = .ok (.aload_n 0, 1) := by decide +kernel
theorem dX1_dismiss_20 : decode cX1_dismiss 20 = .ok (.getfield 9, 3) := by decide +kernel
theorem dX1_dismiss_23 : decode cX1_dismiss 23 = .ok (.iload_n 2, 1) := by decide +kernel
theorem dX1_dismiss_24 : decode cX1_dismiss 24 = .ok (.iaload, 1) := by decide +kernel
theorem dX1_dismiss_25 : decode cX1_dismiss 25 = .ok (.iastore, 1) := by decide +kernel
theorem dX1_dismiss_26 : decode cX1_dismiss 26 = .ok (.aload_n 0, 1) := by decide +kernel
theorem dX1_dismiss_27 : decode cX1_dismiss 27 = .ok (.getfield 15, 3) := by decide +kernel
theorem dX1_dismiss_30 : decode cX1_dismiss 30 = .ok (.iload_n 2, 1) := by decide +kernel
theorem dX1_dismiss_31 : decode cX1_dismiss 31 = .ok (.iconst 1, 1) := by decide +kernel
theorem dX1_dismiss_32 : decode cX1_dismiss 32 = .ok (.isub, 1) := by decide +kernel
theorem dX1_dismiss_33 : decode cX1_dismiss 33 = .ok (.aload_n 0, 1) := by decide +kernel
theorem dX1_dismiss_34 : decode cX1_dismiss 34 = .ok (.getfield 15, 3) := by decide +kernel
theorem dX1_dismiss_37 : decode cX1_dismiss 37 = .ok (.iload_n 2, 1) := by decide +kernel
theorem dX1_dismiss_38 : decode cX1_dismiss 38 = .ok (.iaload, 1) := by decide +kernel
theorem dX1_dismiss_39 : decode cX1_dismiss 39 = .ok (.iastore, 1) := by decide +kernel
theorem dX1_dismiss_40 : decode cX1_dismiss 40 = .ok (.aload_n 0, 1) := by decide +kernel
theorem dX1_dismiss_41 : decode cX1_dismiss 41 = .ok (.getfield 18, 3) := by decide +kernel
theorem dX1_dismiss_44 : decode cX1_dismiss 44 = .ok (.iload_n 2, 1) := by decide +kernel
theorem dX1_dismiss_45 : decode cX1_dismiss 45 = .ok (.iconst 1, 1) := by decide +kernel
theorem dX1_dismiss_46 : decode cX1_dismiss 46 = .ok (.isub, 1) := by decide +kernel
theorem dX1_dismiss_47 : decode cX1_dismiss 47 = .ok (.aload_n 0, 1) := by decide +kernel
theorem dX1_dismiss_48 : decode cX1_dismiss 48 = .ok (.getfield 18, 3) := by decide +kernel
theorem dX1_dismiss_51 : decode cX1_dismiss 51 = .ok (.iload_n 2, 1) := by decide +kernel
theorem dX1_dismiss_52 : decode cX1_dismiss 52 = .ok (.iaload, 1) := by decide +kernel
theorem dX1_dismiss_53 : decode cX1_dismiss 53 = .ok (.iastore, 1) := by decide +kernel
theorem dX1_dismiss_54 : decode cX1_dismiss 54 = .ok (.iinc 2 1, 3) := by decide +kernel
theorem dX1_dismiss_57 : decode cX1_dismiss 57 = .ok (.goto (-53), 3) := by decide +kernel
theorem dX1_dismiss_60 : decode cX1_dismiss 60 = .ok (.aload_n 0, 1) := by decide +kernel
theorem dX1_dismiss_61 : decode cX1_dismiss 61 = .ok (.dup, 1) := by decide +kernel
theorem dX1_dismiss_62 : decode cX1_dismiss 62 = .ok (.getfield 27, 3) := by decide +kernel
theorem dX1_dismiss_65 : decode cX1_dismiss 65 = .ok (.iconst 1, 1) := by decide +kernel
theorem dX1_dismiss_66 : decode cX1_dismiss 66 = .ok (.isub, 1) := by decide +kernel
theorem dX1_dismiss_67 : decode cX1_dismiss 67 = .ok (.putfield 27, 3) := by decide +kernel
theorem dX1_dismiss_70 : decode cX1_dismiss 70 = .ok (.return_, 1) := by decide +kernel
theorem dX1_warnPlainOnes_0 : decode cX1_warnPlainOnes 0 = .ok (.iconst 0, 1) := by decide +kernel
theorem dX1_warnPlainOnes_1 : decode cX1_warnPlainOnes 1 = .ok (.istore_n 1, 1) := by decide +kernel
theorem dX1_warnPlainOnes_2 : decode cX1_warnPlainOnes 2 = .ok (.iload_n 1, 1) := by decide +kernel
theorem dX1_warnPlainOnes_3 : decode cX1_warnPlainOnes 3 = .ok (.aload_n 0, 1) := by decide +kernel
theorem dX1_warnPlainOnes_4 : decode cX1_warnPlainOnes 4 = .ok (.getfield 27, 3) := by decide +kernel
theorem dX1_warnPlainOnes_7 : decode cX1_warnPlainOnes 7 = .ok (.if_icmp .ge 32, 3) := by decide +kernel
theorem dX1_warnPlainOnes_10 : decode cX1_warnPlainOnes 10 = .ok (.aload_n 0, 1) := by decide +kernel
theorem dX1_warnPlainOnes_11 : decode cX1_warnPlainOnes 11 = .ok (.getfield 15, 3) := by decide +kernel
theorem dX1_warnPlainOnes_14 : decode cX1_warnPlainOnes 14 = .ok (.iload_n 1, 1) := by decide +kernel
theorem dX1_warnPlainOnes_15 : decode cX1_warnPlainOnes 15 = .ok (.iaload, 1) := by decide +kernel
theorem dX1_warnPlainOnes_16 : decode cX1_warnPlainOnes 16 = .ok (.ifCond .ne 17, 3) := by decide +kernel
theorem dX1_warnPlainOnes_19 : decode cX1_warnPlainOnes 19 = .ok (.aload_n 0, 1) := by decide +kernel
theorem dX1_warnPlainOnes_20 : decode cX1_warnPlainOnes 20 = .ok (.getfield 15, 3) := by decide +kernel
theorem dX1_warnPlainOnes_23 : decode cX1_warnPlainOnes 23 = .ok (.iload_n 1, 1) := by decide +kernel
theorem dX1_warnPlainOnes_24 : decode cX1_warnPlainOnes 24 = .ok (.iconst 1, 1) := by decide +kernel
theorem dX1_warnPlainOnes_25 : decode cX1_warnPlainOnes 25 = .ok (.iastore, 1) := by decide +kernel
theorem dX1_warnPlainOnes_26 : decode cX1_warnPlainOnes 26 = .ok (.aload_n 0, 1) := by decide +kernel
theorem dX1_warnPlainOnes_27 : decode cX1_warnPlainOnes 27 = .ok (.getfield 18, 3) := by decide +kernel
theorem dX1_warnPlainOnes_30 : decode cX1_warnPlainOnes 30 = .ok (.iload_n 1, 1) := by decide +kernel
theorem dX1_warnPlainOnes_31 : decode cX1_warnPlainOnes 31 = .ok (.iconst 3, 1) := by decide +kernel
theorem dX1_warnPlainOnes_32 : decode cX1_warnPlainOnes 32 = .ok (.iastore, 1) := by decide +kernel
theorem dX1_warnPlainOnes_33 : decode cX1_warnPlainOnes 33 = .ok (.iinc 1 1, 3) := by decide +kernel
theorem dX1_warnPlainOnes_36 : decode cX1_warnPlainOnes 36 = .ok (.goto (-34), 3) := by decide +kernel
theorem dX1_warnPlainOnes_39 : decode cX1_warnPlainOnes 39 = .ok (.return_, 1) := by decide +kernel
theorem dX2_init_0 : decode cX2_init 0 = .ok (.aload_n 0, 1) := by decide +kernel
theorem dX2_init_1 : decode cX2_init 1 = .ok (.invokespecial 3, 3) := by decide +kernel
theorem dX2_init_4 : decode cX2_init 4 = .ok (.aload_n 0, 1) := by decide +kernel
theorem dX2_init_5 : decode cX2_init 5 = .ok (.bipush 24, 2) := by decide +kernel
theorem dX2_init_7 : decode cX2_init 7 = .ok (.newarray .int, 2) := by decide +kernel
theorem dX2_init_9 : decode cX2_init 9 = .ok (.putfield 9, 3) := by decide +kernel
theorem dX2_init_12 : decode cX2_init 12 = .ok (.aload_n 0, 1) := by decide +kernel
theorem dX2_init_13 : decode cX2_init 13 = .ok (.bipush 24, 2) := by decide +kernel
theorem dX2_init_15 : decode cX2_init 15 = .ok (.newarray .int, 2) := by decide +kernel
theorem dX2_init_17 : decode cX2_init 17 = .ok (.putfield 15, 3) := by decide +kernel
theorem dX2_init_20 : decode cX2_init 20 = .ok (.return_, 1) := by decide +kernel
theorem dX2_become_0 : decode cX2_become 0 = .ok (.aload_n 1, 1) := by decide +kernel
theorem dX2_become_1 : decode cX2_become 1 = .ok (.getfield 9, 3) := by decide +kernel
theorem dX2_become_4 : decode cX2_become 4 = .ok (.iconst 0, 1) := by decide +kernel
theorem dX2_become_5 : decode cX2_become 5 = .ok (.aload_n 0, 1) := by decide +kernel
theorem dX2_become_6 : decode cX2_become 6 = .ok (.getfield 9, 3) := by decide +kernel
theorem dX2_become_9 : decode cX2_become 9 = .ok (.iconst 0, 1) := by decide +kernel
theorem dX2_become_10 : decode cX2_become 10 = .ok (.bipush 24, 2) := by decide +kernel
theorem dX2_become_12 : decode cX2_become 12 = .ok (.invokestatic 18, 3) := by decide +kernel
theorem dX2_become_15 : decode cX2_become 15 = .ok (.aload_n 1, 1) := by decide +kernel
theorem dX2_become_16 : decode cX2_become 16 = .ok (.getfield 15, 3) := by decide +kernel
theorem dX2_become_19 : decode cX2_become 19 = .ok (.iconst 0, 1) := by decide +kernel
theorem dX2_become_20 : decode cX2_become 20 = .ok (.aload_n 0, 1) := by decide +kernel
theorem dX2_become_21 : decode cX2_become 21 = .ok (.getfield 15, 3) := by decide +kernel
theorem dX2_become_24 : decode cX2_become 24 = .ok (.iconst 0, 1) := by decide +kernel
theorem dX2_become_25 : decode cX2_become 25 = .ok (.bipush 24, 2) := by decide +kernel
theorem dX2_become_27 : decode cX2_become 27 = .ok (.invokestatic 18, 3) := by decide +kernel
theorem dX2_become_30 : decode cX2_become 30 = .ok (.aload_n 0, 1) := by decide +kernel
theorem dX2_become_31 : decode cX2_become 31 = .ok (.aload_n 1, 1) := by decide +kernel
theorem dX2_become_32 : decode cX2_become 32 = .ok (.getfield 24, 3) := by decide +kernel
theorem dX2_become_35 : decode cX2_become 35 = .ok (.putfield 24, 3) := by decide +kernel
theorem dX2_become_38 : decode cX2_become 38 = .ok (.return_, 1) := by decide +kernel
theorem dX2_add_0 : decode cX2_add 0 = .ok (.aload_n 0, 1) := by decide +kernel
theorem dX2_add_1 : decode cX2_add 1 = .ok (.getfield 24, 3) := by decide +kernel
theorem dX2_add_4 : decode cX2_add 4 = .ok (.bipush 24, 2) := by decide +kernel
theorem dX2_add_6 : decode cX2_add 6 = .ok (.if_icmp .ge 33, 3) := by decide +kernel
theorem dX2_add_9 : decode cX2_add 9 = .ok (.aload_n 0, 1) := by decide +kernel
theorem dX2_add_10 : decode cX2_add 10 = .ok (.getfield 9, 3) := by decide +kernel
theorem dX2_add_13 : decode cX2_add 13 = .ok (.aload_n 0, 1) := by decide +kernel
theorem dX2_add_14 : decode cX2_add 14 = .ok (.getfield 24, 3) := by decide +kernel
theorem dX2_add_17 : decode cX2_add 17 = .ok (.iload_n 1, 1) := by decide +kernel
theorem dX2_add_18 : decode cX2_add 18 = .ok (.iastore, 1) := by decide +kernel
theorem dX2_add_19 : decode cX2_add 19 = .ok (.aload_n 0, 1) := by decide +kernel
theorem dX2_add_20 : decode cX2_add 20 = .ok (.getfield 15, 3) := by decide +kernel
theorem dX2_add_23 : decode cX2_add 23 = .ok (.aload_n 0, 1) := by decide +kernel
theorem dX2_add_24 : decode cX2_add 24 = .ok (.getfield 24, 3) := by decide +kernel
theorem dX2_add_27 : decode cX2_add 27 = .ok (.iload_n 2, 1) := by decide +kernel
theorem dX2_add_28 : decode cX2_add 28 = .ok (.iastore, 1) := by decide +kernel
theorem dX2_add_29 : decode cX2_add 29 = .ok (.aload_n 0, 1) := by decide +kernel
theorem dX2_add_30 : decode cX2_add 30 = .ok (.dup, 1) := by decide +kernel
theorem dX2_add_31 : decode cX2_add 31 = .ok (.getfield 24, 3) := by decide +kernel
theorem dX2_add_34 : decode cX2_add 34 = .ok (.iconst 1, 1) := by decide +kernel
theorem dX2_add_35 : decode cX2_add 35 = .ok (.iadd, 1) := by decide +kernel
theorem dX2_add_36 : decode cX2_add 36 = .ok (.putfield 24, 3) := by decide +kernel
theorem dX2_add_39 : decode cX2_add 39 = .ok (.return_, 1) := by decide +kernel
theorem dX3_init_0 : decode cX3_init 0 = .ok (.aload_n 0, 1) := by decide +kernel
theorem dX3_init_1 : decode cX3_init 1 = .ok (.invokespecial 3, 3) := by decide +kernel
theorem dX3_init_4 : decode cX3_init 4 = .ok (.aload_n 0, 1) := by decide +kernel
theorem dX3_init_5 : decode cX3_init 5 = .ok (.bipush 16, 2) := by decide +kernel
theorem dX3_init_7 : decode cX3_init 7 = .ok (.newarray .int, 2) := by decide +kernel
theorem dX3_init_9 : decode cX3_init 9 = .ok (.putfield 9, 3) := by decide +kernel
theorem dX3_init_12 : decode cX3_init 12 = .ok (.aload_n 0, 1) := by decide +kernel
theorem dX3_init_13 : decode cX3_init 13 = .ok (.bipush 16, 2) := by decide +kernel
theorem dX3_init_15 : decode cX3_init 15 = .ok (.newarray .int, 2) := by decide +kernel
theorem dX3_init_17 : decode cX3_init 17 = .ok (.putfield 15, 3) := by decide +kernel
theorem dX3_init_20 : decode cX3_init 20 = .ok (.aload_n 0, 1) := by decide +kernel
theorem dX3_init_21 : decode cX3_init 21 = .ok (.bipush 16, 2) := by decide +kernel
theorem dX3_init_23 : decode cX3_init 23 = .ok (.newarray .int, 2) := by decide +kernel
theorem dX3_init_25 : decode cX3_init 25 = .ok (.putfield 18, 3) := by decide +kernel
theorem dX3_init_28 : decode cX3_init 28 = .ok (.aload_n 0, 1) := by decide +kernel
theorem dX3_init_29 : decode cX3_init 29 = .ok (.bipush 16, 2) := by decide +kernel
theorem dX3_init_31 : decode cX3_init 31 = .ok (.newarray .int, 2) := by decide +kernel
theorem dX3_init_33 : decode cX3_init 33 = .ok (.putfield 21, 3) := by decide +kernel
theorem dX3_init_36 : decode cX3_init 36 = .ok (.aload_n 0, 1) := by decide +kernel
theorem dX3_init_37 : decode cX3_init 37 = .ok (.bipush 16, 2) := by decide +kernel
theorem dX3_init_39 : decode cX3_init 39 = .ok (.newarray .int, 2) := by decide +kernel
theorem dX3_init_41 : decode cX3_init 41 = .ok (.putfield 24, 3) := by decide +kernel
theorem dX3_init_44 : decode cX3_init 44 = .ok (.return_, 1) := by decide +kernel
theorem dX3_become_0 : decode cX3_become 0 = .ok (.aload_n 1, 1) := by decide +kernel
theorem dX3_become_1 : decode cX3_become 1 = .ok (.getfield 9, 3) := by decide +kernel
theorem dX3_become_4 : decode cX3_become 4 = .ok (.iconst 0, 1) := by decide +kernel
theorem dX3_become_5 : decode cX3_become 5 = .ok (.aload_n 0, 1) := by decide +kernel
theorem dX3_become_6 : decode cX3_become 6 = .ok (.getfield 9, 3) := by decide +kernel
theorem dX3_become_9 : decode cX3_become 9 = .ok (.iconst 0, 1) := by decide +kernel
theorem dX3_become_10 : decode cX3_become 10 = .ok (.bipush 16, 2) := by decide +kernel
theorem dX3_become_12 : decode cX3_become 12 = .ok (.invokestatic 27, 3) := by decide +kernel
theorem dX3_become_15 : decode cX3_become 15 = .ok (.aload_n 1, 1) := by decide +kernel
theorem dX3_become_16 : decode cX3_become 16 = .ok (.getfield 15, 3) := by decide +kernel
theorem dX3_become_19 : decode cX3_become 19 = .ok (.iconst 0, 1) := by decide +kernel
theorem dX3_become_20 : decode cX3_become 20 = .ok (.aload_n 0, 1) := by decide +kernel
theorem dX3_become_21 : decode cX3_become 21 = .ok (.getfield 15, 3) := by decide +kernel
theorem dX3_become_24 : decode cX3_become 24 = .ok (.iconst 0, 1) := by decide +kernel
theorem dX3_become_25 : decode cX3_become 25 = .ok (.bipush 16, 2) := by decide +kernel
theorem dX3_become_27 : decode cX3_become 27 = .ok (.invokestatic 27, 3) := by decide +kernel
theorem dX3_become_30 : decode cX3_become 30 = .ok (.aload_n 1, 1) := by decide +kernel
theorem dX3_become_31 : decode cX3_become 31 = .ok (.getfield 18, 3) := by decide +kernel
theorem dX3_become_34 : decode cX3_become 34 = .ok (.iconst 0, 1) := by decide +kernel
theorem dX3_become_35 : decode cX3_become 35 = .ok (.aload_n 0, 1) := by decide +kernel
theorem dX3_become_36 : decode cX3_become 36 = .ok (.getfield 18, 3) := by decide +kernel
theorem dX3_become_39 : decode cX3_become 39 = .ok (.iconst 0, 1) := by decide +kernel
theorem dX3_become_40 : decode cX3_become 40 = .ok (.bipush 16, 2) := by decide +kernel
theorem dX3_become_42 : decode cX3_become 42 = .ok (.invokestatic 27, 3) := by decide +kernel
theorem dX3_become_45 : decode cX3_become 45 = .ok (.aload_n 1, 1) := by decide +kernel
theorem dX3_become_46 : decode cX3_become 46 = .ok (.getfield 21, 3) := by decide +kernel
theorem dX3_become_49 : decode cX3_become 49 = .ok (.iconst 0, 1) := by decide +kernel
theorem dX3_become_50 : decode cX3_become 50 = .ok (.aload_n 0, 1) := by decide +kernel
theorem dX3_become_51 : decode cX3_become 51 = .ok (.getfield 21, 3) := by decide +kernel
theorem dX3_become_54 : decode cX3_become 54 = .ok (.iconst 0, 1) := by decide +kernel
theorem dX3_become_55 : decode cX3_become 55 = .ok (.bipush 16, 2) := by decide +kernel
theorem dX3_become_57 : decode cX3_become 57 = .ok (.invokestatic 27, 3) := by decide +kernel
theorem dX3_become_60 : decode cX3_become 60 = .ok (.aload_n 1, 1) := by decide +kernel
theorem dX3_become_61 : decode cX3_become 61 = .ok (.getfield 24, 3) := by decide +kernel
theorem dX3_become_64 : decode cX3_become 64 = .ok (.iconst 0, 1) := by decide +kernel
theorem dX3_become_65 : decode cX3_become 65 = .ok (.aload_n 0, 1) := by decide +kernel
theorem dX3_become_66 : decode cX3_become 66 = .ok (.getfield 24, 3) := by decide +kernel
theorem dX3_become_69 : decode cX3_become 69 = .ok (.iconst 0, 1) := by decide +kernel
theorem dX3_become_70 : decode cX3_become 70 = .ok (.bipush 16, 2) := by decide +kernel
theorem dX3_become_72 : decode cX3_become 72 = .ok (.invokestatic 27, 3) := by decide +kernel
theorem dX3_become_75 : decode cX3_become 75 = .ok (.return_, 1) := by decide +kernel
theorem dX3_heedIn_0 : decode cX3_heedIn 0 = .ok (.bipush 9, 2) := by decide +kernel
theorem dX3_heedIn_2 : decode cX3_heedIn 2 = .ok (.istore 4, 2) := by decide +kernel
theorem dX3_heedIn_4 : decode cX3_heedIn 4 = .ok (.iconst 0, 1) := by decide +kernel
theorem dX3_heedIn_5 : decode cX3_heedIn 5 = .ok (.istore 5, 2) := by decide +kernel
theorem dX3_heedIn_7 : decode cX3_heedIn 7 = .ok (.iload 5, 2) := by decide +kernel
theorem dX3_heedIn_9 : decode cX3_heedIn 9 = .ok (.iload_n 1, 1) := by decide +kernel
theorem dX3_heedIn_10 : decode cX3_heedIn 10 = .ok (.if_icmp .gt 67, 3) := by decide +kernel
theorem dX3_heedIn_13 : decode cX3_heedIn 13 = .ok (.iload 5, 2) := by decide +kernel
theorem dX3_heedIn_15 : decode cX3_heedIn 15 = .ok (.bipush 16, 2) := by decide +kernel
theorem dX3_heedIn_17 : decode cX3_heedIn 17 = .ok (.if_icmp .ge 60, 3) := by decide +kernel
theorem dX3_heedIn_20 : decode cX3_heedIn 20 = .ok (.aload_n 0, 1) := by decide +kernel
theorem dX3_heedIn_21 : decode cX3_heedIn 21 = .ok (.getfield 24, 3) := by decide +kernel
theorem dX3_heedIn_24 : decode cX3_heedIn 24 = .ok (.iload 5, 2) := by decide +kernel
theorem dX3_heedIn_26 : decode cX3_heedIn 26 = .ok (.iaload, 1) := by decide +kernel
theorem dX3_heedIn_27 : decode cX3_heedIn 27 = .ok (.ifCond .eq 9, 3) := by decide +kernel
theorem dX3_heedIn_30 : decode cX3_heedIn 30 = .ok (.iconst 0, 1) := by decide +kernel
theorem dX3_heedIn_31 : decode cX3_heedIn 31 = .ok (.istore 4, 2) := by decide +kernel
theorem dX3_heedIn_33 : decode cX3_heedIn 33 = .ok (.goto 38, 3) := by decide +kernel
theorem dX3_heedIn_36 : decode cX3_heedIn 36 = .ok (.bipush 9, 2) := by decide +kernel
theorem dX3_heedIn_38 : decode cX3_heedIn 38 = .ok (.iload 4, 2) := by decide +kernel
theorem dX3_heedIn_40 : decode cX3_heedIn 40 = .ok (.iload_n 3, 1) := by decide +kernel
theorem dX3_heedIn_41 : decode cX3_heedIn 41 = .ok (.iadd, 1) := by decide +kernel
theorem dX3_heedIn_42 : decode cX3_heedIn 42 = .ok (.invokestatic 33, 3) := by decide +kernel
theorem dX3_heedIn_45 : decode cX3_heedIn 45 = .ok (.istore 4, 2) := by decide +kernel
theorem dX3_heedIn_47 : decode cX3_heedIn 47 = .ok (.aload_n 0, 1) := by decide +kernel
theorem dX3_heedIn_48 : decode cX3_heedIn 48 = .ok (.getfield 21, 3) := by decide +kernel
theorem dX3_heedIn_51 : decode cX3_heedIn 51 = .ok (.iload 5, 2) := by decide +kernel
theorem dX3_heedIn_53 : decode cX3_heedIn 53 = .ok (.iaload, 1) := by decide +kernel
theorem dX3_heedIn_54 : decode cX3_heedIn 54 = .ok (.ifCond .eq 17, 3) := by decide +kernel
theorem dX3_heedIn_57 : decode cX3_heedIn 57 = .ok (.iload_n 2, 1) := by decide +kernel
theorem dX3_heedIn_58 : decode cX3_heedIn 58 = .ok (.ifCond .ne 13, 3) := by decide +kernel
theorem dX3_heedIn_61 : decode cX3_heedIn 61 = .ok (.iconst 0, 1) := by decide +kernel
theorem dX3_heedIn_62 : decode cX3_heedIn 62 = .ok (.iload 4, 2) := by decide +kernel
theorem dX3_heedIn_64 : decode cX3_heedIn 64 = .ok (.iconst 2, 1) := by decide +kernel
theorem dX3_heedIn_65 : decode cX3_heedIn 65 = .ok (.isub, 1) := by decide +kernel
theorem dX3_heedIn_66 : decode cX3_heedIn 66 = .ok (.invokestatic 39, 3) := by decide +kernel
theorem dX3_heedIn_69 : decode cX3_heedIn 69 = .ok (.istore 4, 2) := by decide +kernel
theorem dX3_heedIn_71 : decode cX3_heedIn 71 = .ok (.iinc 5 1, 3) := by decide +kernel
theorem dX3_heedIn_74 : decode cX3_heedIn 74 = .ok (.goto (-67), 3) := by decide +kernel
theorem dX3_heedIn_77 : decode cX3_heedIn 77 = .ok (.iload 4, 2) := by decide +kernel
theorem dX3_heedIn_79 : decode cX3_heedIn 79 = .ok (.ireturn, 1) := by decide +kernel
theorem dX3_lastSlip_0 : decode cX3_lastSlip 0 = .ok (.bipush 15, 2) := by decide +kernel
theorem dX3_lastSlip_2 : decode cX3_lastSlip 2 = .ok (.istore_n 1, 1) := by decide +kernel
theorem dX3_lastSlip_3 : decode cX3_lastSlip 3 = .ok (.iload_n 1, 1) := by decide +kernel
theorem dX3_lastSlip_4 : decode cX3_lastSlip 4 = .ok (.ifCond .lt 20, 3) := by decide +kernel
theorem dX3_lastSlip_7 : decode cX3_lastSlip 7 = .ok (.aload_n 0, 1) := by decide +kernel
theorem dX3_lastSlip_8 : decode cX3_lastSlip 8 = .ok (.getfield 15, 3) := by decide +kernel
theorem dX3_lastSlip_11 : decode cX3_lastSlip 11 = .ok (.iload_n 1, 1) := by decide +kernel
theorem dX3_lastSlip_12 : decode cX3_lastSlip 12 = .ok (.iaload, 1) := by decide +kernel
theorem dX3_lastSlip_13 : decode cX3_lastSlip 13 = .ok (.ifCond .eq 5, 3) := by decide +kernel
theorem dX3_lastSlip_16 : decode cX3_lastSlip 16 = .ok (.iload_n 1, 1) := by decide +kernel
theorem dX3_lastSlip_17 : decode cX3_lastSlip 17 = .ok (.ireturn, 1) := by decide +kernel
theorem dX3_lastSlip_18 : decode cX3_lastSlip 18 = .ok (.iinc 1 (-1), 3) := by decide +kernel
theorem dX3_lastSlip_21 : decode cX3_lastSlip 21 = .ok (.goto (-18), 3) := by decide +kernel
theorem dX3_lastSlip_24 : decode cX3_lastSlip 24 = .ok (.iconst (-1), 1) := by decide +kernel
theorem dX3_lastSlip_25 : decode cX3_lastSlip 25 = .ok (.ireturn, 1) := by decide +kernel
theorem dX4_init_0 : decode cX4_init 0 = .ok (.aload_n 0, 1) := by decide +kernel
theorem dX4_init_1 : decode cX4_init 1 = .ok (.invokespecial 3, 3) := by decide +kernel
theorem dX4_init_4 : decode cX4_init 4 = .ok (.aload_n 0, 1) := by decide +kernel
theorem dX4_init_5 : decode cX4_init 5 = .ok (.iconst 4, 1) := by decide +kernel
theorem dX4_init_6 : decode cX4_init 6 = .ok (.newarray .int, 2) := by decide +kernel
theorem dX4_init_8 : decode cX4_init 8 = .ok (.dup, 1) := by decide +kernel
theorem dX4_init_9 : decode cX4_init 9 = .ok (.iconst 0, 1) := by decide +kernel
theorem dX4_init_10 : decode cX4_init 10 = .ok (.iconst (-1), 1) := by decide +kernel
theorem dX4_init_11 : decode cX4_init 11 = .ok (.iastore, 1) := by decide +kernel
theorem dX4_init_12 : decode cX4_init 12 = .ok (.dup, 1) := by decide +kernel
theorem dX4_init_13 : decode cX4_init 13 = .ok (.iconst 1, 1) := by decide +kernel
theorem dX4_init_14 : decode cX4_init 14 = .ok (.iconst (-1), 1) := by decide +kernel
theorem dX4_init_15 : decode cX4_init 15 = .ok (.iastore, 1) := by decide +kernel
theorem dX4_init_16 : decode cX4_init 16 = .ok (.dup, 1) := by decide +kernel
theorem dX4_init_17 : decode cX4_init 17 = .ok (.iconst 2, 1) := by decide +kernel
theorem dX4_init_18 : decode cX4_init 18 = .ok (.iconst (-1), 1) := by decide +kernel
theorem dX4_init_19 : decode cX4_init 19 = .ok (.iastore, 1) := by decide +kernel
theorem dX4_init_20 : decode cX4_init 20 = .ok (.dup, 1) := by decide +kernel
theorem dX4_init_21 : decode cX4_init 21 = .ok (.iconst 3, 1) := by decide +kernel
theorem dX4_init_22 : decode cX4_init 22 = .ok (.iconst (-1), 1) := by decide +kernel
theorem dX4_init_23 : decode cX4_init 23 = .ok (.iastore, 1) := by decide +kernel
theorem dX4_init_24 : decode cX4_init 24 = .ok (.putfield 9, 3) := by decide +kernel
theorem dX4_init_27 : decode cX4_init 27 = .ok (.aload_n 0, 1) := by decide +kernel
theorem dX4_init_28 : decode cX4_init 28 = .ok (.iconst 4, 1) := by decide +kernel
theorem dX4_init_29 : decode cX4_init 29 = .ok (.newarray .int, 2) := by decide +kernel
theorem dX4_init_31 : decode cX4_init 31 = .ok (.putfield 15, 3) := by decide +kernel
theorem dX4_init_34 : decode cX4_init 34 = .ok (.aload_n 0, 1) := by decide +kernel
theorem dX4_init_35 : decode cX4_init 35 = .ok (.bipush 64, 2) := by decide +kernel
theorem dX4_init_37 : decode cX4_init 37 = .ok (.newarray .int, 2) := by decide +kernel
theorem dX4_init_39 : decode cX4_init 39 = .ok (.putfield 18, 3) := by decide +kernel
theorem dX4_init_42 : decode cX4_init 42 = .ok (.return_, 1) := by decide +kernel
theorem dX4_isMissing_0 : decode cX4_isMissing 0 = .ok (.aload_n 0, 1) := by decide +kernel
theorem dX4_isMissing_1 : decode cX4_isMissing 1 = .ok (.getfield 9, 3) := by decide +kernel
theorem dX4_isMissing_4 : decode cX4_isMissing 4 = .ok (.iload_n 1, 1) := by decide +kernel
theorem dX4_isMissing_5 : decode cX4_isMissing 5 = .ok (.iaload, 1) := by decide +kernel
theorem dX4_isMissing_6 : decode cX4_isMissing 6 = .ok (.iconst (-1), 1) := by decide +kernel
theorem dX4_isMissing_7 : decode cX4_isMissing 7 = .ok (.if_icmp .ne 7, 3) := by decide +kernel
theorem dX4_isMissing_10 : decode cX4_isMissing 10 = .ok (.iconst 1, 1) := by decide +kernel
theorem dX4_isMissing_11 : decode cX4_isMissing 11 = .ok (.goto 4, 3) := by decide +kernel
theorem dX4_isMissing_14 : decode cX4_isMissing 14 = .ok (.iconst 0, 1) := by decide +kernel
theorem dX4_isMissing_15 : decode cX4_isMissing 15 = .ok (.ireturn, 1) := by decide +kernel
theorem dX4_refusal_0 : decode cX4_refusal 0 = .ok (.aload_n 0, 1) := by decide +kernel
theorem dX4_refusal_1 : decode cX4_refusal 1 = .ok (.iload_n 1, 1) := by decide +kernel
theorem dX4_refusal_2 : decode cX4_refusal 2 = .ok (.invokevirtual 21, 3) := by decide +kernel
theorem dX4_refusal_5 : decode cX4_refusal 5 = .ok (.ifCond .eq 6, 3) := by decide +kernel
theorem dX4_refusal_8 : decode cX4_refusal 8 = .ok (.bipush (-11), 2) := by decide +kernel
theorem dX4_refusal_10 : decode cX4_refusal 10 = .ok (.ireturn, 1) := by decide +kernel
theorem dX4_refusal_11 : decode cX4_refusal 11 = .ok (.aload_n 0, 1) := by decide +kernel
theorem dX4_refusal_12 : decode cX4_refusal 12 = .ok (.getfield 9, 3) := by decide +kernel
theorem dX4_refusal_15 : decode cX4_refusal 15 = .ok (.iload_n 1, 1) := by decide +kernel
theorem dX4_refusal_16 : decode cX4_refusal 16 = .ok (.iaload, 1) := by decide +kernel
theorem dX4_refusal_17 : decode cX4_refusal 17 = .ok (.iload_n 2, 1) := by decide +kernel
theorem dX4_refusal_18 : decode cX4_refusal 18 = .ok (.if_icmp .ne 7, 3) := by decide +kernel
theorem dX4_refusal_21 : decode cX4_refusal 21 = .ok (.iconst 0, 1) := by decide +kernel
theorem dX4_refusal_22 : decode cX4_refusal 22 = .ok (.goto 5, 3) := by decide +kernel
theorem dX4_refusal_25 : decode cX4_refusal 25 = .ok (.bipush (-12), 2) := by decide +kernel
theorem dX4_refusal_27 : decode cX4_refusal 27 = .ok (.ireturn, 1) := by decide +kernel
theorem dX4_hasItems_0 : decode cX4_hasItems 0 = .ok (.iload_n 2, 1) := by decide +kernel
theorem dX4_hasItems_1 : decode cX4_hasItems 1 = .ok (.ifCond .lt 33, 3) := by decide +kernel
theorem dX4_hasItems_4 : decode cX4_hasItems 4 = .ok (.iload_n 3, 1) := by decide +kernel
theorem dX4_hasItems_5 : decode cX4_hasItems 5 = .ok (.ifCond .lt 29, 3) := by decide +kernel
theorem dX4_hasItems_8 : decode cX4_hasItems 8 = .ok (.iload_n 2, 1) := by decide +kernel
theorem dX4_hasItems_9 : decode cX4_hasItems 9 = .ok (.aload_n 0, 1) := by decide +kernel
theorem dX4_hasItems_10 : decode cX4_hasItems 10 = .ok (.getfield 15, 3) := by decide +kernel
theorem dX4_hasItems_13 : decode cX4_hasItems 13 = .ok (.iload_n 1, 1) := by decide +kernel
theorem dX4_hasItems_14 : decode cX4_hasItems 14 = .ok (.iaload, 1) := by decide +kernel
theorem dX4_hasItems_15 : decode cX4_hasItems 15 = .ok (.if_icmp .gt 19, 3) := by decide +kernel
theorem dX4_hasItems_18 : decode cX4_hasItems 18 = .ok (.iload_n 3, 1) := by decide +kernel
theorem dX4_hasItems_19 : decode cX4_hasItems 19 = .ok (.aload_n 0, 1) := by decide +kernel
theorem dX4_hasItems_20 : decode cX4_hasItems 20 = .ok (.getfield 15, 3) := by decide +kernel
theorem dX4_hasItems_23 : decode cX4_hasItems 23 = .ok (.iload_n 1, 1) := by decide +kernel
theorem dX4_hasItems_24 : decode cX4_hasItems 24 = .ok (.iaload, 1) := by decide +kernel
theorem dX4_hasItems_25 : decode cX4_hasItems 25 = .ok (.iload_n 2, 1) := by decide +kernel
theorem dX4_hasItems_26 : decode cX4_hasItems 26 = .ok (.isub, 1) := by decide +kernel
theorem dX4_hasItems_27 : decode cX4_hasItems 27 = .ok (.if_icmp .gt 7, 3) := by decide +kernel
theorem dX4_hasItems_30 : decode cX4_hasItems 30 = .ok (.iconst 1, 1) := by decide +kernel
theorem dX4_hasItems_31 : decode cX4_hasItems 31 = .ok (.goto 4, 3) := by decide +kernel
theorem dX4_hasItems_34 : decode cX4_hasItems 34 = .ok (.iconst 0, 1) := by decide +kernel
theorem dX4_hasItems_35 : decode cX4_hasItems 35 = .ok (.ireturn, 1) := by decide +kernel
theorem dX4_lay_0 : decode cX4_lay 0 = .ok (.aload_n 0, 1) := by decide +kernel
theorem dX4_lay_1 : decode cX4_lay 1 = .ok (.getfield 9, 3) := by decide +kernel
theorem dX4_lay_4 : decode cX4_lay 4 = .ok (.iload_n 1, 1) := by decide +kernel
theorem dX4_lay_5 : decode cX4_lay 5 = .ok (.iload_n 2, 1) := by decide +kernel
theorem dX4_lay_6 : decode cX4_lay 6 = .ok (.iastore, 1) := by decide +kernel
theorem dX4_lay_7 : decode cX4_lay 7 = .ok (.aload_n 0, 1) := by decide +kernel
theorem dX4_lay_8 : decode cX4_lay 8 = .ok (.getfield 15, 3) := by decide +kernel
theorem dX4_lay_11 : decode cX4_lay 11 = .ok (.iload_n 1, 1) := by decide +kernel
theorem dX4_lay_12 : decode cX4_lay 12 = .ok (.iload_n 3, 1) := by decide +kernel
theorem dX4_lay_13 : decode cX4_lay 13 = .ok (.iastore, 1) := by decide +kernel
theorem dX4_lay_14 : decode cX4_lay 14 = .ok (.iconst 0, 1) := by decide +kernel
theorem dX4_lay_15 : decode cX4_lay 15 = .ok (.istore 4, 2) := by decide +kernel
theorem dX4_lay_17 : decode cX4_lay 17 = .ok (.iload 4, 2) := by decide +kernel
theorem dX4_lay_19 : decode cX4_lay 19 = .ok (.iload_n 3, 1) := by decide +kernel
theorem dX4_lay_20 : decode cX4_lay 20 = .ok (.if_icmp .ge 22, 3) := by decide +kernel
theorem dX4_lay_23 : decode cX4_lay 23 = .ok (.aload_n 0, 1) := by decide +kernel
theorem dX4_lay_24 : decode cX4_lay 24 = .ok (.getfield 18, 3) := by decide +kernel
theorem dX4_lay_27 : decode cX4_lay 27 = .ok (.iload_n 1, 1) := by decide +kernel
theorem dX4_lay_28 : decode cX4_lay 28 = .ok (.bipush 16, 2) := by decide +kernel
theorem dX4_lay_30 : decode cX4_lay 30 = .ok (.imul, 1) := by decide +kernel
theorem dX4_lay_31 : decode cX4_lay 31 = .ok (.iload 4, 2) := by decide +kernel
theorem dX4_lay_33 : decode cX4_lay 33 = .ok (.iadd, 1) := by decide +kernel
theorem dX4_lay_34 : decode cX4_lay 34 = .ok (.iconst 0, 1) := by decide +kernel
theorem dX4_lay_35 : decode cX4_lay 35 = .ok (.iastore, 1) := by decide +kernel
theorem dX4_lay_36 : decode cX4_lay 36 = .ok (.iinc 4 1, 3) := by decide +kernel
theorem dX4_lay_39 : decode cX4_lay 39 = .ok (.goto (-22), 3) := by decide +kernel
theorem dX4_lay_42 : decode cX4_lay 42 = .ok (.return_, 1) := by decide +kernel
theorem dX4_itemAt_0 : decode cX4_itemAt 0 = .ok (.aload_n 0, 1) := by decide +kernel
theorem dX4_itemAt_1 : decode cX4_itemAt 1 = .ok (.getfield 18, 3) := by decide +kernel
theorem dX4_itemAt_4 : decode cX4_itemAt 4 = .ok (.iload_n 1, 1) := by decide +kernel
theorem dX4_itemAt_5 : decode cX4_itemAt 5 = .ok (.bipush 16, 2) := by decide +kernel
theorem dX4_itemAt_7 : decode cX4_itemAt 7 = .ok (.imul, 1) := by decide +kernel
theorem dX4_itemAt_8 : decode cX4_itemAt 8 = .ok (.iload_n 2, 1) := by decide +kernel
theorem dX4_itemAt_9 : decode cX4_itemAt 9 = .ok (.iadd, 1) := by decide +kernel
theorem dX4_itemAt_10 : decode cX4_itemAt 10 = .ok (.iaload, 1) := by decide +kernel
theorem dX4_itemAt_11 : decode cX4_itemAt 11 = .ok (.ireturn, 1) := by decide +kernel
theorem dX4_write_0 : decode cX4_write 0 = .ok (.aload_n 0, 1) := by decide +kernel
theorem dX4_write_1 : decode cX4_write 1 = .ok (.getfield 9, 3) := by decide +kernel
theorem dX4_write_4 : decode cX4_write 4 = .ok (.iload_n 1, 1) := by decide +kernel
theorem dX4_write_5 : decode cX4_write 5 = .ok (.iaload, 1) := by decide +kernel
theorem dX4_write_6 : decode cX4_write 6 = .ok (.istore 4, 2) := by decide +kernel
theorem dX4_write_8 : decode cX4_write 8 = .ok (.aload_n 0, 1) := by decide +kernel
theorem dX4_write_9 : decode cX4_write 9 = .ok (.getfield 18, 3) := by decide +kernel
theorem dX4_write_12 : decode cX4_write 12 = .ok (.iload_n 1, 1) := by decide +kernel
theorem dX4_write_13 : decode cX4_write 13 = .ok (.bipush 16, 2) := by decide +kernel
theorem dX4_write_15 : decode cX4_write 15 = .ok (.imul, 1) := by decide +kernel
theorem dX4_write_16 : decode cX4_write 16 = .ok (.iload_n 2, 1) := by decide +kernel
theorem dX4_write_17 : decode cX4_write 17 = .ok (.iadd, 1) := by decide +kernel
theorem dX4_write_18 : decode cX4_write 18 = .ok (.iload 4, 2) := by decide +kernel
theorem dX4_write_20 : decode cX4_write 20 = .ok (.ifCond .ne 8, 3) := by decide +kernel
theorem dX4_write_23 : decode cX4_write 23 = .ok (.iload_n 3, 1) := by decide +kernel
theorem dX4_write_24 : decode cX4_write 24 = .ok (.i2b, 1) := by decide +kernel
theorem dX4_write_25 : decode cX4_write 25 = .ok (.goto 15, 3) := by decide +kernel
theorem dX4_write_28 : decode cX4_write 28 = .ok (.iload 4, 2) := by decide +kernel
theorem dX4_write_30 : decode cX4_write 30 = .ok (.iconst 1, 1) := by decide +kernel
theorem dX4_write_31 : decode cX4_write 31 = .ok (.if_icmp .ne 8, 3) := by decide +kernel
theorem dX4_write_34 : decode cX4_write 34 = .ok (.iload_n 3, 1) := by decide +kernel
theorem dX4_write_35 : decode cX4_write 35 = .ok (.i2s, 1) := by decide +kernel
theorem dX4_write_36 : decode cX4_write 36 = .ok (.goto 4, 3) := by decide +kernel
theorem dX4_write_39 : decode cX4_write 39 = .ok (.iload_n 3, 1) := by decide +kernel
theorem dX4_write_40 : decode cX4_write 40 = .ok (.iastore, 1) := by decide +kernel
theorem dX4_write_41 : decode cX4_write 41 = .ok (.return_, 1) := by decide +kernel
theorem dX4_transfer_0 : decode cX4_transfer 0 = .ok (.aload_n 0, 1) := by decide +kernel
theorem dX4_transfer_1 : decode cX4_transfer 1 = .ok (.getfield 18, 3) := by decide +kernel
theorem dX4_transfer_4 : decode cX4_transfer 4 = .ok (.iload_n 1, 1) := by decide +kernel
theorem dX4_transfer_5 : decode cX4_transfer 5 = .ok (.bipush 16, 2) := by decide +kernel
theorem dX4_transfer_7 : decode cX4_transfer 7 = .ok (.imul, 1) := by decide +kernel
theorem dX4_transfer_8 : decode cX4_transfer 8 = .ok (.iload_n 2, 1) := by decide +kernel
theorem dX4_transfer_9 : decode cX4_transfer 9 = .ok (.iadd, 1) := by decide +kernel
theorem dX4_transfer_10 : decode cX4_transfer 10 = .ok (.aload_n 0, 1) := by decide +kernel
theorem dX4_transfer_11 : decode cX4_transfer 11 = .ok (.getfield 18, 3) := by decide +kernel
theorem dX4_transfer_14 : decode cX4_transfer 14 = .ok (.iload_n 3, 1) := by decide +kernel
theorem dX4_transfer_15 : decode cX4_transfer 15 = .ok (.bipush 16, 2) := by decide +kernel
theorem dX4_transfer_17 : decode cX4_transfer 17 = .ok (.imul, 1) := by decide +kernel
theorem dX4_transfer_18 : decode cX4_transfer 18 = .ok (.iload 4, 2) := by decide +kernel
theorem dX4_transfer_20 : decode cX4_transfer 20 = .ok (.iadd, 1) := by decide +kernel
theorem dX4_transfer_21 : decode cX4_transfer 21 = .ok (.iload 5, 2) := by decide +kernel
theorem dX4_transfer_23 : decode cX4_transfer 23 = .ok (.invokestatic 25, 3) := by decide +kernel
theorem dX4_transfer_26 : decode cX4_transfer 26 = .ok (.return_, 1) := by decide +kernel
theorem dX4_placesAmong_0 : decode cX4_placesAmong 0 = .ok (.iconst 0, 1) := by decide +kernel
theorem dX4_placesAmong_1 : decode cX4_placesAmong 1 = .ok (.istore 4, 2) := by decide +kernel
theorem dX4_placesAmong_3 : decode cX4_placesAmong 3 = .ok (.iload_n 2, 1) := by decide +kernel
theorem dX4_placesAmong_4 : decode cX4_placesAmong 4 = .ok (.istore 5, 2) := by decide +kernel
theorem dX4_placesAmong_6 : decode cX4_placesAmong 6 = .ok (.iload 5, 2) := by decide +kernel
theorem dX4_placesAmong_8 : decode cX4_placesAmong 8 = .ok (.iload_n 2, 1) := by decide +kernel
theorem dX4_placesAmong_9 : decode cX4_placesAmong 9 = .ok (.iload_n 3, 1) := by decide +kernel
theorem dX4_placesAmong_10 : decode cX4_placesAmong 10 = .ok (.iadd, 1) := by decide +kernel
theorem dX4_placesAmong_11 : decode cX4_placesAmong 11 = .ok (.if_icmp .ge 44, 3) := by decide +kernel
theorem dX4_placesAmong_14 : decode cX4_placesAmong 14 = .ok (.aload_n 0, 1) := by decide +kernel
theorem dX4_placesAmong_15 : decode cX4_placesAmong 15 = .ok (.iload_n 1, 1) := by decide +kernel
theorem dX4_placesAmong_16 : decode cX4_placesAmong 16 = .ok (.iload 5, 2) := by decide +kernel
theorem dX4_placesAmong_18 : decode cX4_placesAmong 18 = .ok (.invokevirtual 31, 3) := by decide +kernel
theorem dX4_placesAmong_21 : decode cX4_placesAmong 21 = .ok (.istore 6, 2) := by decide +kernel
theorem dX4_placesAmong_23 : decode cX4_placesAmong 23 = .ok (.iload 6, 2) := by decide +kernel
theorem dX4_placesAmong_25 : decode cX4_placesAmong 25 = .ok (.iconst (-1), 1) := by decide +kernel
theorem dX4_placesAmong_26 : decode cX4_placesAmong 26 = .ok (.if_icmp .eq 14, 3) := by decide +kernel
theorem dX4_placesAmong_29 : decode cX4_placesAmong 29 = .ok (.iload 6, 2) := by decide +kernel
theorem dX4_placesAmong_31 : decode cX4_placesAmong 31 = .ok (.iconst 4, 1) := by decide +kernel
theorem dX4_placesAmong_32 : decode cX4_placesAmong 32 = .ok (.invokestatic 35, 3) := by decide +kernel
theorem dX4_placesAmong_35 : decode cX4_placesAmong 35 = .ok (.ifCond .ne 5, 3) := by decide +kernel
theorem dX4_placesAmong_38 : decode cX4_placesAmong 38 = .ok (.iconst (-1), 1) := by decide +kernel
theorem dX4_placesAmong_39 : decode cX4_placesAmong 39 = .ok (.ireturn, 1) := by decide +kernel
theorem dX4_placesAmong_40 : decode cX4_placesAmong 40 = .ok (.iload 6, 2) := by decide +kernel
theorem dX4_placesAmong_42 : decode cX4_placesAmong 42 = .ok (.iconst (-1), 1) := by decide +kernel
theorem dX4_placesAmong_43 : decode cX4_placesAmong 43 = .ok (.if_icmp .eq 6, 3) := by decide +kernel
theorem dX4_placesAmong_46 : decode cX4_placesAmong 46 = .ok (.iinc 4 1, 3) := by decide +kernel
theorem dX4_placesAmong_49 : decode cX4_placesAmong 49 = .ok (.iinc 5 1, 3) := by decide +kernel
theorem dX4_placesAmong_52 : decode cX4_placesAmong 52 = .ok (.goto (-46), 3) := by decide +kernel
theorem dX4_placesAmong_55 : decode cX4_placesAmong 55 = .ok (.iload 4, 2) := by decide +kernel
theorem dX4_placesAmong_57 : decode cX4_placesAmong 57 = .ok (.ireturn, 1) := by decide +kernel
theorem dX5_init_0 : decode cX5_init 0 = .ok (.aload_n 0, 1) := by decide +kernel
theorem dX5_init_1 : decode cX5_init 1 = .ok (.invokespecial 3, 3) := by decide +kernel
theorem dX5_init_4 : decode cX5_init 4 = .ok (.aload_n 0, 1) := by decide +kernel
theorem dX5_init_5 : decode cX5_init 5 = .ok (.new 9, 3) := by decide +kernel
theorem dX5_init_8 : decode cX5_init 8 = .ok (.dup, 1) := by decide +kernel
theorem dX5_init_9 : decode cX5_init 9 = .ok (.invokespecial 11, 3) := by decide +kernel
theorem dX5_init_12 : decode cX5_init 12 = .ok (.putfield 12, 3) := by decide +kernel
theorem dX5_init_15 : decode cX5_init 15 = .ok (.aload_n 0, 1) := by decide +kernel
theorem dX5_init_16 : decode cX5_init 16 = .ok (.new 18, 3) := by decide +kernel
theorem dX5_init_19 : decode cX5_init 19 = .ok (.dup, 1) := by decide +kernel
theorem dX5_init_20 : decode cX5_init 20 = .ok (.invokespecial 20, 3) := by decide +kernel
theorem dX5_init_23 : decode cX5_init 23 = .ok (.putfield 21, 3) := by decide +kernel
theorem dX5_init_26 : decode cX5_init 26 = .ok (.aload_n 0, 1) := by decide +kernel
theorem dX5_init_27 : decode cX5_init 27 = .ok (.new 25, 3) := by decide +kernel
theorem dX5_init_30 : decode cX5_init 30 = .ok (.dup, 1) := by decide +kernel
theorem dX5_init_31 : decode cX5_init 31 = .ok (.invokespecial 27, 3) := by decide +kernel
theorem dX5_init_34 : decode cX5_init 34 = .ok (.putfield 28, 3) := by decide +kernel
theorem dX5_init_37 : decode cX5_init 37 = .ok (.aload_n 0, 1) := by decide +kernel
theorem dX5_init_38 : decode cX5_init 38 = .ok (.new 32, 3) := by decide +kernel
theorem dX5_init_41 : decode cX5_init 41 = .ok (.dup, 1) := by decide +kernel
theorem dX5_init_42 : decode cX5_init 42 = .ok (.invokespecial 34, 3) := by decide +kernel
theorem dX5_init_45 : decode cX5_init 45 = .ok (.putfield 35, 3) := by decide +kernel
theorem dX5_init_48 : decode cX5_init 48 = .ok (.aload_n 0, 1) := by decide +kernel
theorem dX5_init_49 : decode cX5_init 49 = .ok (.iconst 5, 1) := by decide +kernel
theorem dX5_init_50 : decode cX5_init 50 = .ok (.newarray .int, 2) := by decide +kernel
theorem dX5_init_52 : decode cX5_init 52 = .ok (.dup, 1) := by decide +kernel
theorem dX5_init_53 : decode cX5_init 53 = .ok (.iconst 0, 1) := by decide +kernel
theorem dX5_init_54 : decode cX5_init 54 = .ok (.iconst 4, 1) := by decide +kernel
theorem dX5_init_55 : decode cX5_init 55 = .ok (.iastore, 1) := by decide +kernel
theorem dX5_init_56 : decode cX5_init 56 = .ok (.dup, 1) := by decide +kernel
theorem dX5_init_57 : decode cX5_init 57 = .ok (.iconst 1, 1) := by decide +kernel
theorem dX5_init_58 : decode cX5_init 58 = .ok (.iconst 3, 1) := by decide +kernel
theorem dX5_init_59 : decode cX5_init 59 = .ok (.iastore, 1) := by decide +kernel
theorem dX5_init_60 : decode cX5_init 60 = .ok (.dup, 1) := by decide +kernel
theorem dX5_init_61 : decode cX5_init 61 = .ok (.iconst 2, 1) := by decide +kernel
theorem dX5_init_62 : decode cX5_init 62 = .ok (.iconst 3, 1) := by decide +kernel
theorem dX5_init_63 : decode cX5_init 63 = .ok (.iastore, 1) := by decide +kernel
theorem dX5_init_64 : decode cX5_init 64 = .ok (.dup, 1) := by decide +kernel
theorem dX5_init_65 : decode cX5_init 65 = .ok (.iconst 3, 1) := by decide +kernel
theorem dX5_init_66 : decode cX5_init 66 = .ok (.iconst 2, 1) := by decide +kernel
theorem dX5_init_67 : decode cX5_init 67 = .ok (.iastore, 1) := by decide +kernel
theorem dX5_init_68 : decode cX5_init 68 = .ok (.dup, 1) := by decide +kernel
theorem dX5_init_69 : decode cX5_init 69 = .ok (.iconst 4, 1) := by decide +kernel
theorem dX5_init_70 : decode cX5_init 70 = .ok (.iconst 2, 1) := by decide +kernel
theorem dX5_init_71 : decode cX5_init 71 = .ok (.iastore, 1) := by decide +kernel
theorem dX5_init_72 : decode cX5_init 72 = .ok (.putfield 39, 3) := by decide +kernel
theorem dX5_init_75 : decode cX5_init 75 = .ok (.aload_n 0, 1) := by decide +kernel
theorem dX5_init_76 : decode cX5_init 76 = .ok (.iconst 1, 1) := by decide +kernel
theorem dX5_init_77 : decode cX5_init 77 = .ok (.putfield 43, 3) := by decide +kernel
theorem dX5_init_80 : decode cX5_init 80 = .ok (.aload_n 0, 1) := by decide +kernel
theorem dX5_init_81 : decode cX5_init 81 = .ok (.iconst 4, 1) := by decide +kernel
theorem dX5_init_82 : decode cX5_init 82 = .ok (.newarray .int, 2) := by decide +kernel
theorem dX5_init_84 : decode cX5_init 84 = .ok (.putfield 47, 3) := by decide +kernel
theorem dX5_init_87 : decode cX5_init 87 = .ok (.aload_n 0, 1) := by decide +kernel
theorem dX5_init_88 : decode cX5_init 88 = .ok (.iconst 1, 1) := by decide +kernel
theorem dX5_init_89 : decode cX5_init 89 = .ok (.putfield 50, 3) := by decide +kernel
theorem dX5_init_92 : decode cX5_init 92 = .ok (.return_, 1) := by decide +kernel
theorem dX5_become_0 : decode cX5_become 0 = .ok (.aload_n 0, 1) := by decide +kernel
theorem dX5_become_1 : decode cX5_become 1 = .ok (.getfield 12, 3) := by decide +kernel
theorem dX5_become_4 : decode cX5_become 4 = .ok (.aload_n 1, 1) := by decide +kernel
theorem dX5_become_5 : decode cX5_become 5 = .ok (.getfield 12, 3) := by decide +kernel
theorem dX5_become_8 : decode cX5_become 8 = .ok (.invokevirtual 53, 3) := by decide +kernel
theorem dX5_become_11 : decode cX5_become 11 = .ok (.aload_n 0, 1) := by decide +kernel
theorem dX5_become_12 : decode cX5_become 12 = .ok (.getfield 21, 3) := by decide +kernel
theorem dX5_become_15 : decode cX5_become 15 = .ok (.aload_n 1, 1) := by decide +kernel
theorem dX5_become_16 : decode cX5_become 16 = .ok (.getfield 21, 3) := by decide +kernel
theorem dX5_become_19 : decode cX5_become 19 = .ok (.invokevirtual 57, 3) := by decide +kernel
theorem dX5_become_22 : decode cX5_become 22 = .ok (.aload_n 0, 1) := by decide +kernel
theorem dX5_become_23 : decode cX5_become 23 = .ok (.getfield 28, 3) := by decide +kernel
theorem dX5_become_26 : decode cX5_become 26 = .ok (.aload_n 1, 1) := by decide +kernel
theorem dX5_become_27 : decode cX5_become 27 = .ok (.getfield 28, 3) := by decide +kernel
theorem dX5_become_30 : decode cX5_become 30 = .ok (.invokevirtual 60, 3) := by decide +kernel
theorem dX5_become_33 : decode cX5_become 33 = .ok (.aload_n 0, 1) := by decide +kernel
theorem dX5_become_34 : decode cX5_become 34 = .ok (.getfield 35, 3) := by decide +kernel
theorem dX5_become_37 : decode cX5_become 37 = .ok (.aload_n 1, 1) := by decide +kernel
theorem dX5_become_38 : decode cX5_become 38 = .ok (.getfield 35, 3) := by decide +kernel
theorem dX5_become_41 : decode cX5_become 41 = .ok (.invokevirtual 63, 3) := by decide +kernel
theorem dX5_become_44 : decode cX5_become 44 = .ok (.aload_n 1, 1) := by decide +kernel
theorem dX5_become_45 : decode cX5_become 45 = .ok (.getfield 39, 3) := by decide +kernel
theorem dX5_become_48 : decode cX5_become 48 = .ok (.iconst 0, 1) := by decide +kernel
theorem dX5_become_49 : decode cX5_become 49 = .ok (.aload_n 0, 1) := by decide +kernel
theorem dX5_become_50 : decode cX5_become 50 = .ok (.getfield 39, 3) := by decide +kernel
theorem dX5_become_53 : decode cX5_become 53 = .ok (.iconst 0, 1) := by decide +kernel
theorem dX5_become_54 : decode cX5_become 54 = .ok (.iconst 5, 1) := by decide +kernel
theorem dX5_become_55 : decode cX5_become 55 = .ok (.invokestatic 66, 3) := by decide +kernel
theorem dX5_become_58 : decode cX5_become 58 = .ok (.aload_n 0, 1) := by decide +kernel
theorem dX5_become_59 : decode cX5_become 59 = .ok (.aload_n 1, 1) := by decide +kernel
theorem dX5_become_60 : decode cX5_become 60 = .ok (.getfield 43, 3) := by decide +kernel
theorem dX5_become_63 : decode cX5_become 63 = .ok (.putfield 43, 3) := by decide +kernel
theorem dX5_become_66 : decode cX5_become 66 = .ok (.return_, 1) := by decide +kernel
theorem dX5_drawPulls_0 : decode cX5_drawPulls 0 = .ok (.iconst 0, 1) := by decide +kernel
theorem dX5_drawPulls_1 : decode cX5_drawPulls 1 = .ok (.istore 5, 2) := by decide +kernel
theorem dX5_drawPulls_3 : decode cX5_drawPulls 3 = .ok (.iload 5, 2) := by decide +kernel
theorem dX5_drawPulls_5 : decode cX5_drawPulls 5 = .ok (.iconst 4, 1) := by decide +kernel
theorem dX5_drawPulls_6 : decode cX5_drawPulls 6 = .ok (.if_icmp .ge 17, 3) := by decide +kernel
theorem dX5_drawPulls_9 : decode cX5_drawPulls 9 = .ok (.aload_n 0, 1) := by decide +kernel
theorem dX5_drawPulls_10 : decode cX5_drawPulls 10 = .ok (.getfield 47, 3) := by decide +kernel
theorem dX5_drawPulls_13 : decode cX5_drawPulls 13 = .ok (.iload 5, 2) := by decide +kernel
theorem dX5_drawPulls_15 : decode cX5_drawPulls 15 = .ok (.iconst 1, 1) := by decide +kernel
theorem dX5_drawPulls_16 : decode cX5_drawPulls 16 = .ok (.iastore, 1) := by decide +kernel
theorem dX5_drawPulls_17 : decode cX5_drawPulls 17 = .ok (.iinc 5 1, 3) := by decide +kernel
theorem dX5_drawPulls_20 : decode cX5_drawPulls 20 = .ok (.goto (-17), 3) := by decide +kernel
theorem dX5_drawPulls_23 : decode cX5_drawPulls 23 = .ok (.aload_n 0, 1) := by decide +kernel
theorem dX5_drawPulls_24 : decode cX5_drawPulls 24 = .ok (.getfield 12, 3) := by decide +kernel
theorem dX5_drawPulls_27 : decode cX5_drawPulls 27 = .ok (.getfield 72, 3) := by decide +kernel
theorem dX5_drawPulls_30 : decode cX5_drawPulls 30 = .ok (.iload_n 3, 1) := by decide +kernel
theorem dX5_drawPulls_31 : decode cX5_drawPulls 31 = .ok (.iaload, 1) := by decide +kernel
theorem dX5_drawPulls_32 : decode cX5_drawPulls 32 = .ok (.iconst 1, 1) := by decide +kernel
theorem dX5_drawPulls_33 : decode cX5_drawPulls 33 = .ok (.isub, 1) := by decide +kernel
theorem dX5_drawPulls_34 : decode cX5_drawPulls 34 = .ok (.istore 5, 2) := by decide +kernel
theorem dX5_drawPulls_36 : decode cX5_drawPulls 36 = .ok (.iload 5, 2) := by decide +kernel
theorem dX5_drawPulls_38 : decode cX5_drawPulls 38 = .ok (.ifCond .lt 19, 3) := by decide +kernel
theorem dX5_drawPulls_41 : decode cX5_drawPulls 41 = .ok (.aload_n 0, 1) := by decide +kernel
theorem dX5_drawPulls_42 : decode cX5_drawPulls 42 = .ok (.getfield 47, 3) := by decide +kernel
theorem dX5_drawPulls_45 : decode cX5_drawPulls 45 = .ok (.iload 5, 2) := by decide +kernel
theorem dX5_drawPulls_47 : decode cX5_drawPulls 47 = .ok (.dup2, 1) := by decide +kernel
theorem dX5_drawPulls_48 : decode cX5_drawPulls 48 = .ok (.iaload, 1) := by decide +kernel
theorem dX5_drawPulls_49 : decode cX5_drawPulls 49 = .ok (.aload_n 0, 1) := by decide +kernel
theorem dX5_drawPulls_50 : decode cX5_drawPulls 50 = .ok (.getfield 39, 3) := by decide +kernel
theorem dX5_drawPulls_53 : decode cX5_drawPulls 53 = .ok (.iconst 0, 1) := by decide +kernel
theorem dX5_drawPulls_54 : decode cX5_drawPulls 54 = .ok (.iaload, 1) := by decide +kernel
theorem dX5_drawPulls_55 : decode cX5_drawPulls 55 = .ok (.iadd, 1) := by decide +kernel
theorem dX5_drawPulls_56 : decode cX5_drawPulls 56 = .ok (.iastore, 1) := by decide +kernel
theorem dX5_drawPulls_57 : decode cX5_drawPulls 57 = .ok (.aload_n 0, 1) := by decide +kernel
theorem dX5_drawPulls_58 : decode cX5_drawPulls 58 = .ok (.getfield 12, 3) := by decide +kernel
theorem dX5_drawPulls_61 : decode cX5_drawPulls 61 = .ok (.getfield 75, 3) := by decide +kernel
theorem dX5_drawPulls_64 : decode cX5_drawPulls 64 = .ok (.iload_n 3, 1) := by decide +kernel
theorem dX5_drawPulls_65 : decode cX5_drawPulls 65 = .ok (.iaload, 1) := by decide +kernel
theorem dX5_drawPulls_66 : decode cX5_drawPulls 66 = .ok (.iconst 1, 1) := by decide +kernel
theorem dX5_drawPulls_67 : decode cX5_drawPulls 67 = .ok (.isub, 1) := by decide +kernel
theorem dX5_drawPulls_68 : decode cX5_drawPulls 68 = .ok (.istore 6, 2) := by decide +kernel
theorem dX5_drawPulls_70 : decode cX5_drawPulls 70 = .ok (.iload 6, 2) := by decide +kernel
theorem dX5_drawPulls_72 : decode cX5_drawPulls 72 = .ok (.ifCond .lt 24, 3) := by decide +kernel
theorem dX5_drawPulls_75 : decode cX5_drawPulls 75 = .ok (.iload_n 1, 1) := by decide +kernel
theorem dX5_drawPulls_76 : decode cX5_drawPulls 76 = .ok (.iconst 2, 1) := by decide +kernel
theorem dX5_drawPulls_77 : decode cX5_drawPulls 77 = .ok (.if_icmp .eq 19, 3) := by decide +kernel
theorem dX5_drawPulls_80 : decode cX5_drawPulls 80 = .ok (.aload_n 0, 1) := by decide +kernel
theorem dX5_drawPulls_81 : decode cX5_drawPulls 81 = .ok (.getfield 47, 3) := by decide +kernel
theorem dX5_drawPulls_84 : decode cX5_drawPulls 84 = .ok (.iload 6, 2) := by decide +kernel
theorem dX5_drawPulls_86 : decode cX5_drawPulls 86 = .ok (.dup2, 1) := by decide +kernel
theorem dX5_drawPulls_87 : decode cX5_drawPulls 87 = .ok (.iaload, 1) := by decide +kernel
theorem dX5_drawPulls_88 : decode cX5_drawPulls 88 = .ok (.aload_n 0, 1) := by decide +kernel
theorem dX5_drawPulls_89 : decode cX5_drawPulls 89 = .ok (.getfield 39, 3) := by decide +kernel
theorem dX5_drawPulls_92 : decode cX5_drawPulls 92 = .ok (.iconst 1, 1) := by decide +kernel
theorem dX5_drawPulls_93 : decode cX5_drawPulls 93 = .ok (.iaload, 1) := by decide +kernel
theorem dX5_drawPulls_94 : decode cX5_drawPulls 94 = .ok (.iadd, 1) := by decide +kernel
theorem dX5_drawPulls_95 : decode cX5_drawPulls 95 = .ok (.iastore, 1) := by decide +kernel
theorem dX5_drawPulls_96 : decode cX5_drawPulls 96 = .ok (.aload_n 0, 1) := by decide +kernel
theorem dX5_drawPulls_97 : decode cX5_drawPulls 97 = .ok (.getfield 12, 3) := by decide +kernel
theorem dX5_drawPulls_100 : decode cX5_drawPulls 100 = .ok (.getfield 78, 3) := by decide +kernel
theorem dX5_drawPulls_103 : decode cX5_drawPulls 103 = .ok (.iload_n 3, 1) := by decide +kernel
theorem dX5_drawPulls_104 : decode cX5_drawPulls 104 = .ok (.iaload, 1) := by decide +kernel
theorem dX5_drawPulls_105 : decode cX5_drawPulls 105 = .ok (.istore 7, 2) := by decide +kernel
theorem dX5_drawPulls_107 : decode cX5_drawPulls 107 = .ok (.aload_n 0, 1) := by decide +kernel
theorem dX5_drawPulls_108 : decode cX5_drawPulls 108 = .ok (.getfield 47, 3) := by decide +kernel
theorem dX5_drawPulls_111 : decode cX5_drawPulls 111 = .ok (.iload 7, 2) := by decide +kernel
theorem dX5_drawPulls_113 : decode cX5_drawPulls 113 = .ok (.bipush 10, 2) := by decide +kernel
theorem dX5_drawPulls_115 : decode cX5_drawPulls 115 = .ok (.idiv, 1) := by decide +kernel
theorem dX5_drawPulls_116 : decode cX5_drawPulls 116 = .ok (.dup2, 1) := by decide +kernel
theorem dX5_drawPulls_117 : decode cX5_drawPulls 117 = .ok (.iaload, 1) := by decide +kernel
theorem dX5_drawPulls_118 : decode cX5_drawPulls 118 = .ok (.iload 7, 2) := by decide +kernel
theorem dX5_drawPulls_120 : decode cX5_drawPulls 120 = .ok (.bipush 10, 2) := by decide +kernel
theorem dX5_drawPulls_122 : decode cX5_drawPulls 122 = .ok (.irem, 1) := by decide +kernel
theorem dX5_drawPulls_123 : decode cX5_drawPulls 123 = .ok (.iadd, 1) := by decide +kernel
theorem dX5_drawPulls_124 : decode cX5_drawPulls 124 = .ok (.iastore, 1) := by decide +kernel
theorem dX5_drawPulls_125 : decode cX5_drawPulls 125 = .ok (.iload_n 1, 1) := by decide +kernel
theorem dX5_drawPulls_126 : decode cX5_drawPulls 126 = .ok (.iconst 1, 1) := by decide +kernel
theorem dX5_drawPulls_127 : decode cX5_drawPulls 127 = .ok (.if_icmp .ne 42, 3) := by decide +kernel
theorem dX5_drawPulls_130 : decode cX5_drawPulls 130 = .ok (.aload_n 0, 1) := by decide +kernel
theorem dX5_drawPulls_131 : decode cX5_drawPulls 131 = .ok (.getfield 47, 3) := by decide +kernel
theorem dX5_drawPulls_134 : decode cX5_drawPulls 134 = .ok (.iconst 0, 1) := by decide +kernel
theorem dX5_drawPulls_135 : decode cX5_drawPulls 135 = .ok (.dup2, 1) := by decide +kernel
theorem dX5_drawPulls_136 : decode cX5_drawPulls 136 = .ok (.iaload, 1) := by decide +kernel
theorem dX5_drawPulls_137 : decode cX5_drawPulls 137 = .ok (.iload 5, 2) := by decide +kernel
theorem dX5_drawPulls_139 : decode cX5_drawPulls 139 = .ok (.ifCond .ne 7, 3) := by decide +kernel
theorem dX5_drawPulls_142 : decode cX5_drawPulls 142 = .ok (.iconst 0, 1) := by decide +kernel
theorem dX5_drawPulls_143 : decode cX5_drawPulls 143 = .ok (.goto 4, 3) := by decide +kernel
theorem dX5_drawPulls_146 : decode cX5_drawPulls 146 = .ok (.iload_n 2, 1) := by decide +kernel
theorem dX5_drawPulls_147 : decode cX5_drawPulls 147 = .ok (.iadd, 1) := by decide +kernel
theorem dX5_drawPulls_148 : decode cX5_drawPulls 148 = .ok (.iastore, 1) := by decide +kernel
theorem dX5_drawPulls_149 : decode cX5_drawPulls 149 = .ok (.aload_n 0, 1) := by decide +kernel
theorem dX5_drawPulls_150 : decode cX5_drawPulls 150 = .ok (.getfield 47, 3) := by decide +kernel
theorem dX5_drawPulls_153 : decode cX5_drawPulls 153 = .ok (.iconst 1, 1) := by decide +kernel
theorem dX5_drawPulls_154 : decode cX5_drawPulls 154 = .ok (.dup2, 1) := by decide +kernel
theorem dX5_drawPulls_155 : decode cX5_drawPulls 155 = .ok (.iaload, 1) := by decide +kernel
theorem dX5_drawPulls_156 : decode cX5_drawPulls 156 = .ok (.iload 5, 2) := by decide +kernel
theorem dX5_drawPulls_158 : decode cX5_drawPulls 158 = .ok (.iconst 1, 1) := by decide +kernel
theorem dX5_drawPulls_159 : decode cX5_drawPulls 159 = .ok (.if_icmp .ne 7, 3) := by decide +kernel
theorem dX5_drawPulls_162 : decode cX5_drawPulls 162 = .ok (.iconst 0, 1) := by decide +kernel
theorem dX5_drawPulls_163 : decode cX5_drawPulls 163 = .ok (.goto 4, 3) := by decide +kernel
theorem dX5_drawPulls_166 : decode cX5_drawPulls 166 = .ok (.iload_n 2, 1) := by decide +kernel
theorem dX5_drawPulls_167 : decode cX5_drawPulls 167 = .ok (.iadd, 1) := by decide +kernel
theorem dX5_drawPulls_168 : decode cX5_drawPulls 168 = .ok (.iastore, 1) := by decide +kernel
theorem dX5_drawPulls_169 : decode cX5_drawPulls 169 = .ok (.iload_n 1, 1) := by decide +kernel
theorem dX5_drawPulls_170 : decode cX5_drawPulls 170 = .ok (.iconst 3, 1) := by decide +kernel
theorem dX5_drawPulls_171 : decode cX5_drawPulls 171 = .ok (.if_icmp .ne 31, 3) := by decide +kernel
theorem dX5_drawPulls_174 : decode cX5_drawPulls 174 = .ok (.aload_n 0, 1) := by decide +kernel
theorem dX5_drawPulls_175 : decode cX5_drawPulls 175 = .ok (.getfield 47, 3) := by decide +kernel
theorem dX5_drawPulls_178 : decode cX5_drawPulls 178 = .ok (.iconst 0, 1) := by decide +kernel
theorem dX5_drawPulls_179 : decode cX5_drawPulls 179 = .ok (.iaload, 1) := by decide +kernel
theorem dX5_drawPulls_180 : decode cX5_drawPulls 180 = .ok (.istore 8, 2) := by decide +kernel
theorem dX5_drawPulls_182 : decode cX5_drawPulls 182 = .ok (.aload_n 0, 1) := by decide +kernel
theorem dX5_drawPulls_183 : decode cX5_drawPulls 183 = .ok (.getfield 47, 3) := by decide +kernel
theorem dX5_drawPulls_186 : decode cX5_drawPulls 186 = .ok (.iconst 0, 1) := by decide +kernel
theorem dX5_drawPulls_187 : decode cX5_drawPulls 187 = .ok (.aload_n 0, 1) := by decide +kernel
theorem dX5_drawPulls_188 : decode cX5_drawPulls 188 = .ok (.getfield 47, 3) := by decide +kernel
theorem dX5_drawPulls_191 : decode cX5_drawPulls 191 = .ok (.iconst 1, 1) := by decide +kernel
theorem dX5_drawPulls_192 : decode cX5_drawPulls 192 = .ok (.iaload, 1) := by decide +kernel
theorem dX5_drawPulls_193 : decode cX5_drawPulls 193 = .ok (.iastore, 1) := by decide +kernel
theorem dX5_drawPulls_194 : decode cX5_drawPulls 194 = .ok (.aload_n 0, 1) := by decide +kernel
theorem dX5_drawPulls_195 : decode cX5_drawPulls 195 = .ok (.getfield 47, 3) := by decide +kernel
theorem dX5_drawPulls_198 : decode cX5_drawPulls 198 = .ok (.iconst 1, 1) := by decide +kernel
theorem dX5_drawPulls_199 : decode cX5_drawPulls 199 = .ok (.iload 8, 2) := by decide +kernel
theorem dX5_drawPulls_201 : decode cX5_drawPulls 201 = .ok (.iastore, 1) := by decide +kernel
theorem dX5_drawPulls_202 : decode cX5_drawPulls 202 = .ok (.aload_n 0, 1) := by decide +kernel
theorem dX5_drawPulls_203 : decode cX5_drawPulls 203 = .ok (.getfield 12, 3) := by decide +kernel
theorem dX5_drawPulls_206 : decode cX5_drawPulls 206 = .ok (.getfield 81, 3) := by decide +kernel
theorem dX5_drawPulls_209 : decode cX5_drawPulls 209 = .ok (.iload_n 3, 1) := by decide +kernel
theorem dX5_drawPulls_210 : decode cX5_drawPulls 210 = .ok (.iaload, 1) := by decide +kernel
theorem dX5_drawPulls_211 : decode cX5_drawPulls 211 = .ok (.istore 8, 2) := by decide +kernel
theorem dX5_drawPulls_213 : decode cX5_drawPulls 213 = .ok (.iload 8, 2) := by decide +kernel
theorem dX5_drawPulls_215 : decode cX5_drawPulls 215 = .ok (.ifCond .eq 27, 3) := by decide +kernel
theorem dX5_drawPulls_218 : decode cX5_drawPulls 218 = .ok (.aload_n 0, 1) := by decide +kernel
theorem dX5_drawPulls_219 : decode cX5_drawPulls 219 = .ok (.getfield 47, 3) := by decide +kernel
theorem dX5_drawPulls_222 : decode cX5_drawPulls 222 = .ok (.iload 8, 2) := by decide +kernel
theorem dX5_drawPulls_224 : decode cX5_drawPulls 224 = .ok (.bipush 10, 2) := by decide +kernel
theorem dX5_drawPulls_226 : decode cX5_drawPulls 226 = .ok (.idiv, 1) := by decide +kernel
theorem dX5_drawPulls_227 : decode cX5_drawPulls 227 = .ok (.dup2, 1) := by decide +kernel
theorem dX5_drawPulls_228 : decode cX5_drawPulls 228 = .ok (.iaload, 1) := by decide +kernel
theorem dX5_drawPulls_229 : decode cX5_drawPulls 229 = .ok (.aload_n 0, 1) := by decide +kernel
theorem dX5_drawPulls_230 : decode cX5_drawPulls 230 = .ok (.getfield 39, 3) := by decide +kernel
theorem dX5_drawPulls_233 : decode cX5_drawPulls 233 = .ok (.iconst 3, 1) := by decide +kernel
theorem dX5_drawPulls_234 : decode cX5_drawPulls 234 = .ok (.iaload, 1) := by decide +kernel
theorem dX5_drawPulls_235 : decode cX5_drawPulls 235 = .ok (.iload 4, 2) := by decide +kernel
theorem dX5_drawPulls_237 : decode cX5_drawPulls 237 = .ok (.iconst 1, 1) := by decide +kernel
theorem dX5_drawPulls_238 : decode cX5_drawPulls 238 = .ok (.isub, 1) := by decide +kernel
theorem dX5_drawPulls_239 : decode cX5_drawPulls 239 = .ok (.imul, 1) := by decide +kernel
theorem dX5_drawPulls_240 : decode cX5_drawPulls 240 = .ok (.iadd, 1) := by decide +kernel
theorem dX5_drawPulls_241 : decode cX5_drawPulls 241 = .ok (.iastore, 1) := by decide +kernel
theorem dX5_drawPulls_242 : decode cX5_drawPulls 242 = .ok (.return_, 1) := by decide +kernel
theorem dX5_weigh_0 : decode cX5_weigh 0 = .ok (.aload_n 0, 1) := by decide +kernel
theorem dX5_weigh_1 : decode cX5_weigh 1 = .ok (.aload_n 0, 1) := by decide +kernel
theorem dX5_weigh_2 : decode cX5_weigh 2 = .ok (.getfield 21, 3) := by decide +kernel
theorem dX5_weigh_5 : decode cX5_weigh 5 = .ok (.getfield 84, 3) := by decide +kernel
theorem dX5_weigh_8 : decode cX5_weigh 8 = .ok (.iload_n 1, 1) := by decide +kernel
theorem dX5_weigh_9 : decode cX5_weigh 9 = .ok (.iaload, 1) := by decide +kernel
theorem dX5_weigh_10 : decode cX5_weigh 10 = .ok (.aload_n 0, 1) := by decide +kernel
theorem dX5_weigh_11 : decode cX5_weigh 11 = .ok (.getfield 21, 3) := by decide +kernel
theorem dX5_weigh_14 : decode cX5_weigh 14 = .ok (.getfield 87, 3) := by decide +kernel
theorem dX5_weigh_17 : decode cX5_weigh 17 = .ok (.iload_n 1, 1) := by decide +kernel
theorem dX5_weigh_18 : decode cX5_weigh 18 = .ok (.iaload, 1) := by decide +kernel
theorem dX5_weigh_19 : decode cX5_weigh 19 = .ok (.iload_n 2, 1) := by decide +kernel
theorem dX5_weigh_20 : decode cX5_weigh 20 = .ok (.iload_n 3, 1) := by decide +kernel
theorem dX5_weigh_21 : decode cX5_weigh 21 = .ok (.invokevirtual 90, 3) := by decide +kernel
theorem dX5_weigh_24 : decode cX5_weigh 24 = .ok (.aload_n 0, 1) := by decide +kernel
theorem dX5_weigh_25 : decode cX5_weigh 25 = .ok (.getfield 12, 3) := by decide +kernel
theorem dX5_weigh_28 : decode cX5_weigh 28 = .ok (.getfield 81, 3) := by decide +kernel
theorem dX5_weigh_31 : decode cX5_weigh 31 = .ok (.iload_n 2, 1) := by decide +kernel
theorem dX5_weigh_32 : decode cX5_weigh 32 = .ok (.iaload, 1) := by decide +kernel
theorem dX5_weigh_33 : decode cX5_weigh 33 = .ok (.istore 5, 2) := by decide +kernel
theorem dX5_weigh_35 : decode cX5_weigh 35 = .ok (.aload_n 0, 1) := by decide +kernel
theorem dX5_weigh_36 : decode cX5_weigh 36 = .ok (.getfield 21, 3) := by decide +kernel
theorem dX5_weigh_39 : decode cX5_weigh 39 = .ok (.getfield 94, 3) := by decide +kernel
theorem dX5_weigh_42 : decode cX5_weigh 42 = .ok (.iload_n 1, 1) := by decide +kernel
theorem dX5_weigh_43 : decode cX5_weigh 43 = .ok (.iaload, 1) := by decide +kernel
theorem dX5_weigh_44 : decode cX5_weigh 44 = .ok (.istore 6, 2) := by decide +kernel
theorem dX5_weigh_46 : decode cX5_weigh 46 = .ok (.iconst 1, 1) := by decide +kernel
theorem dX5_weigh_47 : decode cX5_weigh 47 = .ok (.iload 5, 2) := by decide +kernel
theorem dX5_weigh_49 : decode cX5_weigh 49 = .ok (.bipush 10, 2) := by decide +kernel
theorem dX5_weigh_51 : decode cX5_weigh 51 = .ok (.irem, 1) := by decide +kernel
theorem dX5_weigh_52 : decode cX5_weigh 52 = .ok (.iload 6, 2) := by decide +kernel
theorem dX5_weigh_54 : decode cX5_weigh 54 = .ok (.iconst 4, 1) := by decide +kernel
theorem dX5_weigh_55 : decode cX5_weigh 55 = .ok (.idiv, 1) := by decide +kernel
theorem dX5_weigh_56 : decode cX5_weigh 56 = .ok (.isub, 1) := by decide +kernel
theorem dX5_weigh_57 : decode cX5_weigh 57 = .ok (.invokestatic 97, 3) := by decide +kernel
theorem dX5_weigh_60 : decode cX5_weigh 60 = .ok (.istore 7, 2) := by decide +kernel
theorem dX5_weigh_62 : decode cX5_weigh 62 = .ok (.aload_n 0, 1) := by decide +kernel
theorem dX5_weigh_63 : decode cX5_weigh 63 = .ok (.getfield 47, 3) := by decide +kernel
theorem dX5_weigh_66 : decode cX5_weigh 66 = .ok (.iload 5, 2) := by decide +kernel
theorem dX5_weigh_68 : decode cX5_weigh 68 = .ok (.bipush 10, 2) := by decide +kernel
theorem dX5_weigh_70 : decode cX5_weigh 70 = .ok (.idiv, 1) := by decide +kernel
theorem dX5_weigh_71 : decode cX5_weigh 71 = .ok (.iaload, 1) := by decide +kernel
theorem dX5_weigh_72 : decode cX5_weigh 72 = .ok (.istore 8, 2) := by decide +kernel
theorem dX5_weigh_74 : decode cX5_weigh 74 = .ok (.iload 8, 2) := by decide +kernel
theorem dX5_weigh_76 : decode cX5_weigh 76 = .ok (.ineg, 1) := by decide +kernel
theorem dX5_weigh_77 : decode cX5_weigh 77 = .ok (.istore 9, 2) := by decide +kernel
theorem dX5_weigh_79 : decode cX5_weigh 79 = .ok (.iconst 0, 1) := by decide +kernel
theorem dX5_weigh_80 : decode cX5_weigh 80 = .ok (.istore 10, 2) := by decide +kernel
theorem dX5_weigh_82 : decode cX5_weigh 82 = .ok (.iload 10, 2) := by decide +kernel
theorem dX5_weigh_84 : decode cX5_weigh 84 = .ok (.iconst 4, 1) := by decide +kernel
theorem dX5_weigh_85 : decode cX5_weigh 85 = .ok (.if_icmp .ge 21, 3) := by decide +kernel
theorem dX5_weigh_88 : decode cX5_weigh 88 = .ok (.iload 9, 2) := by decide +kernel
theorem dX5_weigh_90 : decode cX5_weigh 90 = .ok (.aload_n 0, 1) := by decide +kernel
theorem dX5_weigh_91 : decode cX5_weigh 91 = .ok (.getfield 47, 3) := by decide +kernel
theorem dX5_weigh_94 : decode cX5_weigh 94 = .ok (.iload 10, 2) := by decide +kernel
theorem dX5_weigh_96 : decode cX5_weigh 96 = .ok (.iaload, 1) := by decide +kernel
theorem dX5_weigh_97 : decode cX5_weigh 97 = .ok (.iadd, 1) := by decide +kernel
theorem dX5_weigh_98 : decode cX5_weigh 98 = .ok (.istore 9, 2) := by decide +kernel
theorem dX5_weigh_100 : decode cX5_weigh 100 = .ok (.iinc 10 1, 3) := by decide +kernel
theorem dX5_weigh_103 : decode cX5_weigh 103 = .ok (.goto (-21), 3) := by decide +kernel
theorem dX5_weigh_106 : decode cX5_weigh 106 = .ok (.aload_n 0, 1) := by decide +kernel
theorem dX5_weigh_107 : decode cX5_weigh 107 = .ok (.bipush 81, 2) := by decide +kernel
theorem dX5_weigh_109 : decode cX5_weigh 109 = .ok (.iload 8, 2) := by decide +kernel
theorem dX5_weigh_111 : decode cX5_weigh 111 = .ok (.iload 9, 2) := by decide +kernel
theorem dX5_weigh_113 : decode cX5_weigh 113 = .ok (.iadd, 1) := by decide +kernel
theorem dX5_weigh_114 : decode cX5_weigh 114 = .ok (.imul, 1) := by decide +kernel
theorem dX5_weigh_115 : decode cX5_weigh 115 = .ok (.putfield 50, 3) := by decide +kernel
theorem dX5_weigh_118 : decode cX5_weigh 118 = .ok (.aload_n 0, 1) := by decide +kernel
theorem dX5_weigh_119 : decode cX5_weigh 119 = .ok (.iload 6, 2) := by decide +kernel
theorem dX5_weigh_121 : decode cX5_weigh 121 = .ok (.iload 5, 2) := by decide +kernel
theorem dX5_weigh_123 : decode cX5_weigh 123 = .ok (.bipush 10, 2) := by decide +kernel
theorem dX5_weigh_125 : decode cX5_weigh 125 = .ok (.idiv, 1) := by decide +kernel
theorem dX5_weigh_126 : decode cX5_weigh 126 = .ok (.aload_n 0, 1) := by decide +kernel
theorem dX5_weigh_127 : decode cX5_weigh 127 = .ok (.getfield 43, 3) := by decide +kernel
theorem dX5_weigh_130 : decode cX5_weigh 130 = .ok (.invokestatic 103, 3) := by decide +kernel
theorem dX5_weigh_133 : decode cX5_weigh 133 = .ok (.ifCond .eq 27, 3) := by decide +kernel
theorem dX5_weigh_136 : decode cX5_weigh 136 = .ok (.iload 4, 2) := by decide +kernel
theorem dX5_weigh_138 : decode cX5_weigh 138 = .ok (.iload 8, 2) := by decide +kernel
theorem dX5_weigh_140 : decode cX5_weigh 140 = .ok (.iload 7, 2) := by decide +kernel
theorem dX5_weigh_142 : decode cX5_weigh 142 = .ok (.imul, 1) := by decide +kernel
theorem dX5_weigh_143 : decode cX5_weigh 143 = .ok (.iload 9, 2) := by decide +kernel
theorem dX5_weigh_145 : decode cX5_weigh 145 = .ok (.iconst 0, 1) := by decide +kernel
theorem dX5_weigh_146 : decode cX5_weigh 146 = .ok (.iload 7, 2) := by decide +kernel
theorem dX5_weigh_148 : decode cX5_weigh 148 = .ok (.bipush 6, 2) := by decide +kernel
theorem dX5_weigh_150 : decode cX5_weigh 150 = .ok (.isub, 1) := by decide +kernel
theorem dX5_weigh_151 : decode cX5_weigh 151 = .ok (.invokestatic 97, 3) := by decide +kernel
theorem dX5_weigh_154 : decode cX5_weigh 154 = .ok (.imul, 1) := by decide +kernel
theorem dX5_weigh_155 : decode cX5_weigh 155 = .ok (.iadd, 1) := by decide +kernel
theorem dX5_weigh_156 : decode cX5_weigh 156 = .ok (.imul, 1) := by decide +kernel
theorem dX5_weigh_157 : decode cX5_weigh 157 = .ok (.goto 4, 3) := by decide +kernel
theorem dX5_weigh_160 : decode cX5_weigh 160 = .ok (.iconst 0, 1) := by decide +kernel
theorem dX5_weigh_161 : decode cX5_weigh 161 = .ok (.putfield 107, 3) := by decide +kernel
theorem dX5_weigh_164 : decode cX5_weigh 164 = .ok (.return_, 1) := by decide +kernel
theorem dX5_seesOfSlip_0 : decode cX5_seesOfSlip 0 = .ok (.aload_n 0, 1) := by decide +kernel
theorem dX5_seesOfSlip_1 : decode cX5_seesOfSlip 1 = .ok (.getfield 12, 3) := by decide +kernel
theorem dX5_seesOfSlip_4 : decode cX5_seesOfSlip 4 = .ok (.iload_n 1, 1) := by decide +kernel
theorem dX5_seesOfSlip_5 : decode cX5_seesOfSlip 5 = .ok (.iconst 0, 1) := by decide +kernel
theorem dX5_seesOfSlip_6 : decode cX5_seesOfSlip 6 = .ok (.aload_n 0, 1) := by decide +kernel
theorem dX5_seesOfSlip_7 : decode cX5_seesOfSlip 7 = .ok (.getfield 39, 3) := by decide +kernel
theorem dX5_seesOfSlip_10 : decode cX5_seesOfSlip 10 = .ok (.iconst 2, 1) := by decide +kernel
theorem dX5_seesOfSlip_11 : decode cX5_seesOfSlip 11 = .ok (.iaload, 1) := by decide +kernel
theorem dX5_seesOfSlip_12 : decode cX5_seesOfSlip 12 = .ok (.invokevirtual 110, 3) := by decide +kernel
theorem dX5_seesOfSlip_15 : decode cX5_seesOfSlip 15 = .ok (.istore_n 3, 1) := by decide +kernel
theorem dX5_seesOfSlip_16 : decode cX5_seesOfSlip 16 = .ok (.aload_n 0, 1) := by decide +kernel
theorem dX5_seesOfSlip_17 : decode cX5_seesOfSlip 17 = .ok (.getfield 12, 3) := by decide +kernel
theorem dX5_seesOfSlip_20 : decode cX5_seesOfSlip 20 = .ok (.iload_n 1, 1) := by decide +kernel
theorem dX5_seesOfSlip_21 : decode cX5_seesOfSlip 21 = .ok (.iconst 1, 1) := by decide +kernel
theorem dX5_seesOfSlip_22 : decode cX5_seesOfSlip 22 = .ok (.aload_n 0, 1) := by decide +kernel
theorem dX5_seesOfSlip_23 : decode cX5_seesOfSlip 23 = .ok (.getfield 39, 3) := by decide +kernel
theorem dX5_seesOfSlip_26 : decode cX5_seesOfSlip 26 = .ok (.iconst 2, 1) := by decide +kernel
theorem dX5_seesOfSlip_27 : decode cX5_seesOfSlip 27 = .ok (.iaload, 1) := by decide +kernel
theorem dX5_seesOfSlip_28 : decode cX5_seesOfSlip 28 = .ok (.invokevirtual 110, 3) := by decide +kernel
theorem dX5_seesOfSlip_31 : decode cX5_seesOfSlip 31 = .ok (.istore 4, 2) := by decide +kernel
theorem dX5_seesOfSlip_33 : decode cX5_seesOfSlip 33 = .ok (.iconst 0, 1) := by decide +kernel
theorem dX5_seesOfSlip_34 : decode cX5_seesOfSlip 34 = .ok (.istore 5, 2) := by decide +kernel
theorem dX5_seesOfSlip_36 : decode cX5_seesOfSlip 36 = .ok (.iconst 0, 1) := by decide +kernel
theorem dX5_seesOfSlip_37 : decode cX5_seesOfSlip 37 = .ok (.istore 6, 2) := by decide +kernel
theorem dX5_seesOfSlip_39 : decode cX5_seesOfSlip 39 = .ok (.iload 6, 2) := by decide +kernel
theorem dX5_seesOfSlip_41 : decode cX5_seesOfSlip 41 = .ok (.aload_n 0, 1) := by decide +kernel
theorem dX5_seesOfSlip_42 : decode cX5_seesOfSlip 42 = .ok (.getfield 21, 3) := by decide +kernel
theorem dX5_seesOfSlip_45 : decode cX5_seesOfSlip 45 = .ok (.getfield 114, 3) := by decide +kernel
theorem dX5_seesOfSlip_48 : decode cX5_seesOfSlip 48 = .ok (.if_icmp .ge 53, 3) := by decide +kernel
theorem dX5_seesOfSlip_51 : decode cX5_seesOfSlip 51 = .ok (.aload_n 0, 1) := by decide +kernel
theorem dX5_seesOfSlip_52 : decode cX5_seesOfSlip 52 = .ok (.iload 6, 2) := by decide +kernel
theorem dX5_seesOfSlip_54 : decode cX5_seesOfSlip 54 = .ok (.iload_n 1, 1) := by decide +kernel
theorem dX5_seesOfSlip_55 : decode cX5_seesOfSlip 55 = .ok (.iload_n 2, 1) := by decide +kernel
theorem dX5_seesOfSlip_56 : decode cX5_seesOfSlip 56 = .ok (.aload_n 0, 1) := by decide +kernel
theorem dX5_seesOfSlip_57 : decode cX5_seesOfSlip 57 = .ok (.getfield 21, 3) := by decide +kernel
theorem dX5_seesOfSlip_60 : decode cX5_seesOfSlip 60 = .ok (.getfield 84, 3) := by decide +kernel
theorem dX5_seesOfSlip_63 : decode cX5_seesOfSlip 63 = .ok (.iload 6, 2) := by decide +kernel
theorem dX5_seesOfSlip_65 : decode cX5_seesOfSlip 65 = .ok (.iaload, 1) := by decide +kernel
theorem dX5_seesOfSlip_66 : decode cX5_seesOfSlip 66 = .ok (.iconst 2, 1) := by decide +kernel
theorem dX5_seesOfSlip_67 : decode cX5_seesOfSlip 67 = .ok (.if_icmp .ne 8, 3) := by decide +kernel
theorem dX5_seesOfSlip_70 : decode cX5_seesOfSlip 70 = .ok (.iload 4, 2) := by decide +kernel
theorem dX5_seesOfSlip_72 : decode cX5_seesOfSlip 72 = .ok (.goto 4, 3) := by decide +kernel
theorem dX5_seesOfSlip_75 : decode cX5_seesOfSlip 75 = .ok (.iload_n 3, 1) := by decide +kernel
theorem dX5_seesOfSlip_76 : decode cX5_seesOfSlip 76 = .ok (.invokevirtual 117, 3) := by decide +kernel
theorem dX5_seesOfSlip_79 : decode cX5_seesOfSlip 79 = .ok (.iload 5, 2) := by decide +kernel
theorem dX5_seesOfSlip_81 : decode cX5_seesOfSlip 81 = .ok (.aload_n 0, 1) := by decide +kernel
theorem dX5_seesOfSlip_82 : decode cX5_seesOfSlip 82 = .ok (.getfield 107, 3) := by decide +kernel
theorem dX5_seesOfSlip_85 : decode cX5_seesOfSlip 85 = .ok (.aload_n 0, 1) := by decide +kernel
theorem dX5_seesOfSlip_86 : decode cX5_seesOfSlip 86 = .ok (.getfield 50, 3) := by decide +kernel
theorem dX5_seesOfSlip_89 : decode cX5_seesOfSlip 89 = .ok (.invokestatic 120, 3) := by decide +kernel
theorem dX5_seesOfSlip_92 : decode cX5_seesOfSlip 92 = .ok (.iadd, 1) := by decide +kernel
theorem dX5_seesOfSlip_93 : decode cX5_seesOfSlip 93 = .ok (.istore 5, 2) := by decide +kernel
theorem dX5_seesOfSlip_95 : decode cX5_seesOfSlip 95 = .ok (.iinc 6 1, 3) := by decide +kernel
theorem dX5_seesOfSlip_98 : decode cX5_seesOfSlip 98 = .ok (.goto (-59), 3) := by decide +kernel
theorem dX5_seesOfSlip_101 : decode cX5_seesOfSlip 101 = .ok (.iload 5, 2) := by decide +kernel
theorem dX5_seesOfSlip_103 : decode cX5_seesOfSlip 103 = .ok (.ireturn, 1) := by decide +kernel
theorem dX5_seesOfAll_0 : decode cX5_seesOfAll 0 = .ok (.iconst 0, 1) := by decide +kernel
theorem dX5_seesOfAll_1 : decode cX5_seesOfAll 1 = .ok (.istore_n 2, 1) := by decide +kernel
theorem dX5_seesOfAll_2 : decode cX5_seesOfAll 2 = .ok (.iconst 0, 1) := by decide +kernel
theorem dX5_seesOfAll_3 : decode cX5_seesOfAll 3 = .ok (.istore_n 3, 1) := by decide +kernel
theorem dX5_seesOfAll_4 : decode cX5_seesOfAll 4 = .ok (.iload_n 3, 1) := by decide +kernel
theorem dX5_seesOfAll_5 : decode cX5_seesOfAll 5 = .ok (.bipush 16, 2) := by decide +kernel
theorem dX5_seesOfAll_7 : decode cX5_seesOfAll 7 = .ok (.if_icmp .ge 30, 3) := by decide +kernel
theorem dX5_seesOfAll_10 : decode cX5_seesOfAll 10 = .ok (.aload_n 0, 1) := by decide +kernel
theorem dX5_seesOfAll_11 : decode cX5_seesOfAll 11 = .ok (.getfield 12, 3) := by decide +kernel
theorem dX5_seesOfAll_14 : decode cX5_seesOfAll 14 = .ok (.getfield 81, 3) := by decide +kernel
theorem dX5_seesOfAll_17 : decode cX5_seesOfAll 17 = .ok (.iload_n 3, 1) := by decide +kernel
theorem dX5_seesOfAll_18 : decode cX5_seesOfAll 18 = .ok (.iaload, 1) := by decide +kernel
theorem dX5_seesOfAll_19 : decode cX5_seesOfAll 19 = .ok (.ifCond .eq 12, 3) := by decide +kernel
theorem dX5_seesOfAll_22 : decode cX5_seesOfAll 22 = .ok (.iload_n 2, 1) := by decide +kernel
theorem dX5_seesOfAll_23 : decode cX5_seesOfAll 23 = .ok (.aload_n 0, 1) := by decide +kernel
theorem dX5_seesOfAll_24 : decode cX5_seesOfAll 24 = .ok (.iload_n 3, 1) := by decide +kernel
theorem dX5_seesOfAll_25 : decode cX5_seesOfAll 25 = .ok (.iload_n 1, 1) := by decide +kernel
theorem dX5_seesOfAll_26 : decode cX5_seesOfAll 26 = .ok (.invokevirtual 123, 3) := by decide +kernel
theorem dX5_seesOfAll_29 : decode cX5_seesOfAll 29 = .ok (.iadd, 1) := by decide +kernel
theorem dX5_seesOfAll_30 : decode cX5_seesOfAll 30 = .ok (.istore_n 2, 1) := by decide +kernel
theorem dX5_seesOfAll_31 : decode cX5_seesOfAll 31 = .ok (.iinc 3 1, 3) := by decide +kernel
theorem dX5_seesOfAll_34 : decode cX5_seesOfAll 34 = .ok (.goto (-30), 3) := by decide +kernel
theorem dX5_seesOfAll_37 : decode cX5_seesOfAll 37 = .ok (.iload_n 2, 1) := by decide +kernel
theorem dX5_seesOfAll_38 : decode cX5_seesOfAll 38 = .ok (.ireturn, 1) := by decide +kernel
theorem dX5_someoneCanSeeFrom_0 : decode cX5_someoneCanSeeFrom 0 = .ok (.iconst 0, 1) := by decide +kernel
theorem dX5_someoneCanSeeFrom_1 : decode cX5_someoneCanSeeFrom 1 = .ok (.istore_n 2, 1) := by decide +kernel
theorem dX5_someoneCanSeeFrom_2 : decode cX5_someoneCanSeeFrom 2 = .ok (.iload_n 2, 1) := by decide +kernel
theorem dX5_someoneCanSeeFrom_3 : decode cX5_someoneCanSeeFrom 3 = .ok (.bipush 16, 2) := by decide +kernel
theorem dX5_someoneCanSeeFrom_5 : decode cX5_someoneCanSeeFrom 5 = .ok (.if_icmp .ge 70, 3) := by decide +kernel
theorem dX5_someoneCanSeeFrom_8 : decode cX5_someoneCanSeeFrom 8 = .ok (.iconst 0, 1) := by decide +kernel
theorem dX5_someoneCanSeeFrom_9 : decode cX5_someoneCanSeeFrom 9 = .ok (.istore_n 3, 1) := by decide +kernel
theorem dX5_someoneCanSeeFrom_10 : decode cX5_someoneCanSeeFrom 10 = .ok (.iload_n 3, 1) := by decide +kernel
theorem dX5_someoneCanSeeFrom_11 : decode cX5_someoneCanSeeFrom 11 = .ok (.aload_n 0, 1) := by decide +kernel
theorem dX5_someoneCanSeeFrom_12 : decode cX5_someoneCanSeeFrom 12 = .ok (.getfield 21, 3) := by decide +kernel
theorem dX5_someoneCanSeeFrom_15 : decode cX5_someoneCanSeeFrom 15 = .ok (.getfield 114, 3) := by decide +kernel
theorem dX5_someoneCanSeeFrom_18 : decode cX5_someoneCanSeeFrom 18 = .ok (.if_icmp .ge 51, 3) := by decide +kernel
theorem dX5_someoneCanSeeFrom_21 : decode cX5_someoneCanSeeFrom 21 = .ok (.aload_n 0, 1) := by decide +kernel
theorem dX5_someoneCanSeeFrom_22 : decode cX5_someoneCanSeeFrom 22 = .ok (.getfield 12, 3) := by decide +kernel
theorem dX5_someoneCanSeeFrom_25 : decode cX5_someoneCanSeeFrom 25 = .ok (.getfield 81, 3) := by decide +kernel
theorem dX5_someoneCanSeeFrom_28 : decode cX5_someoneCanSeeFrom 28 = .ok (.iload_n 2, 1) := by decide +kernel
theorem dX5_someoneCanSeeFrom_29 : decode cX5_someoneCanSeeFrom 29 = .ok (.iaload, 1) := by decide +kernel
theorem dX5_someoneCanSeeFrom_30 : decode cX5_someoneCanSeeFrom 30 = .ok (.ifCond .eq 39, 3) := by decide +kernel
theorem dX5_someoneCanSeeFrom_33 : decode cX5_someoneCanSeeFrom 33 = .ok (.aload_n 0, 1) := by decide +kernel
theorem dX5_someoneCanSeeFrom_34 : decode cX5_someoneCanSeeFrom 34 = .ok (.getfield 21, 3) := by decide +kernel
theorem dX5_someoneCanSeeFrom_37 : decode cX5_someoneCanSeeFrom 37 = .ok (.getfield 94, 3) := by decide +kernel
theorem dX5_someoneCanSeeFrom_40 : decode cX5_someoneCanSeeFrom 40 = .ok (.iload_n 3, 1) := by decide +kernel
theorem dX5_someoneCanSeeFrom_41 : decode cX5_someoneCanSeeFrom 41 = .ok (.iaload, 1) := by decide +kernel
theorem dX5_someoneCanSeeFrom_42 : decode cX5_someoneCanSeeFrom 42 = .ok (.aload_n 0, 1) := by decide +kernel
theorem dX5_someoneCanSeeFrom_43 : decode cX5_someoneCanSeeFrom 43 = .ok (.getfield 12, 3) := by decide +kernel
theorem dX5_someoneCanSeeFrom_46 : decode cX5_someoneCanSeeFrom 46 = .ok (.getfield 81, 3) := by decide +kernel
theorem dX5_someoneCanSeeFrom_49 : decode cX5_someoneCanSeeFrom 49 = .ok (.iload_n 2, 1) := by decide +kernel
theorem dX5_someoneCanSeeFrom_50 : decode cX5_someoneCanSeeFrom 50 = .ok (.iaload, 1) := by decide +kernel
theorem dX5_someoneCanSeeFrom_51 : decode cX5_someoneCanSeeFrom 51 = .ok (.bipush 10, 2) := by decide +kernel
theorem dX5_someoneCanSeeFrom_53 : decode cX5_someoneCanSeeFrom 53 = .ok (.idiv, 1) := by decide +kernel
theorem dX5_someoneCanSeeFrom_54 : decode cX5_someoneCanSeeFrom 54 = .ok (.iload_n 1, 1) := by decide +kernel
theorem dX5_someoneCanSeeFrom_55 : decode cX5_someoneCanSeeFrom 55 = .ok (.invokestatic 103, 3) := by decide +kernel
theorem dX5_someoneCanSeeFrom_58 : decode cX5_someoneCanSeeFrom 58 = .ok (.ifCond .eq 5, 3) := by decide +kernel
theorem dX5_someoneCanSeeFrom_61 : decode cX5_someoneCanSeeFrom 61 = .ok (.iconst 1, 1) := by decide +kernel
theorem dX5_someoneCanSeeFrom_62 : decode cX5_someoneCanSeeFrom 62 = .ok (.ireturn, 1) := by decide +kernel
theorem dX5_someoneCanSeeFrom_63 : decode cX5_someoneCanSeeFrom 63 = .ok (.iinc 3 1, 3) := by decide +kernel
theorem dX5_someoneCanSeeFrom_66 : decode cX5_someoneCanSeeFrom 66 = .ok (.goto (-56), 3) := by decide +kernel
theorem dX5_someoneCanSeeFrom_69 : decode cX5_someoneCanSeeFrom 69 = .ok (.iinc 2 1, 3) := by decide +kernel
theorem dX5_someoneCanSeeFrom_72 : decode cX5_someoneCanSeeFrom 72 = .ok (.goto (-70), 3) := by decide +kernel
theorem dX5_someoneCanSeeFrom_75 : decode cX5_someoneCanSeeFrom 75 = .ok (.iconst 0, 1) := by decide +kernel
theorem dX5_someoneCanSeeFrom_76 : decode cX5_someoneCanSeeFrom 76 = .ok (.ireturn, 1) := by decide +kernel
theorem dX5_leftAt_0 : decode cX5_leftAt 0 = .ok (.iconst 0, 1) := by decide +kernel
theorem dX5_leftAt_1 : decode cX5_leftAt 1 = .ok (.istore_n 2, 1) := by decide +kernel
theorem dX5_leftAt_2 : decode cX5_leftAt 2 = .ok (.iconst 0, 1) := by decide +kernel
theorem dX5_leftAt_3 : decode cX5_leftAt 3 = .ok (.istore_n 3, 1) := by decide +kernel
theorem dX5_leftAt_4 : decode cX5_leftAt 4 = .ok (.iload_n 3, 1) := by decide +kernel
theorem dX5_leftAt_5 : decode cX5_leftAt 5 = .ok (.iload_n 1, 1) := by decide +kernel
theorem dX5_leftAt_6 : decode cX5_leftAt 6 = .ok (.if_icmp .ge 66, 3) := by decide +kernel
theorem dX5_leftAt_9 : decode cX5_leftAt 9 = .ok (.iload_n 3, 1) := by decide +kernel
theorem dX5_leftAt_10 : decode cX5_leftAt 10 = .ok (.bipush 16, 2) := by decide +kernel
theorem dX5_leftAt_12 : decode cX5_leftAt 12 = .ok (.if_icmp .ge 60, 3) := by decide +kernel
theorem dX5_leftAt_15 : decode cX5_leftAt 15 = .ok (.iconst 0, 1) := by decide +kernel
theorem dX5_leftAt_16 : decode cX5_leftAt 16 = .ok (.bipush 10, 2) := by decide +kernel
theorem dX5_leftAt_18 : decode cX5_leftAt 18 = .ok (.aload_n 0, 1) := by decide +kernel
theorem dX5_leftAt_19 : decode cX5_leftAt 19 = .ok (.getfield 39, 3) := by decide +kernel
theorem dX5_leftAt_22 : decode cX5_leftAt 22 = .ok (.iconst 4, 1) := by decide +kernel
theorem dX5_leftAt_23 : decode cX5_leftAt 23 = .ok (.iaload, 1) := by decide +kernel
theorem dX5_leftAt_24 : decode cX5_leftAt 24 = .ok (.iload_n 1, 1) := by decide +kernel
theorem dX5_leftAt_25 : decode cX5_leftAt 25 = .ok (.iload_n 3, 1) := by decide +kernel
theorem dX5_leftAt_26 : decode cX5_leftAt 26 = .ok (.isub, 1) := by decide +kernel
theorem dX5_leftAt_27 : decode cX5_leftAt 27 = .ok (.imul, 1) := by decide +kernel
theorem dX5_leftAt_28 : decode cX5_leftAt 28 = .ok (.isub, 1) := by decide +kernel
theorem dX5_leftAt_29 : decode cX5_leftAt 29 = .ok (.invokestatic 97, 3) := by decide +kernel
theorem dX5_leftAt_32 : decode cX5_leftAt 32 = .ok (.istore 4, 2) := by decide +kernel
theorem dX5_leftAt_34 : decode cX5_leftAt 34 = .ok (.aload_n 0, 1) := by decide +kernel
theorem dX5_leftAt_35 : decode cX5_leftAt 35 = .ok (.getfield 12, 3) := by decide +kernel
theorem dX5_leftAt_38 : decode cX5_leftAt 38 = .ok (.getfield 81, 3) := by decide +kernel
theorem dX5_leftAt_41 : decode cX5_leftAt 41 = .ok (.iload_n 3, 1) := by decide +kernel
theorem dX5_leftAt_42 : decode cX5_leftAt 42 = .ok (.iaload, 1) := by decide +kernel
theorem dX5_leftAt_43 : decode cX5_leftAt 43 = .ok (.ifCond .eq 23, 3) := by decide +kernel
theorem dX5_leftAt_46 : decode cX5_leftAt 46 = .ok (.iload 4, 2) := by decide +kernel
theorem dX5_leftAt_48 : decode cX5_leftAt 48 = .ok (.ifCond .eq 18, 3) := by decide +kernel
theorem dX5_leftAt_51 : decode cX5_leftAt 51 = .ok (.iload_n 2, 1) := by decide +kernel
theorem dX5_leftAt_52 : decode cX5_leftAt 52 = .ok (.aload_n 0, 1) := by decide +kernel
theorem dX5_leftAt_53 : decode cX5_leftAt 53 = .ok (.iload_n 3, 1) := by decide +kernel
theorem dX5_leftAt_54 : decode cX5_leftAt 54 = .ok (.iconst 1, 1) := by decide +kernel
theorem dX5_leftAt_55 : decode cX5_leftAt 55 = .ok (.invokevirtual 123, 3) := by decide +kernel
theorem dX5_leftAt_58 : decode cX5_leftAt 58 = .ok (.iload 4, 2) := by decide +kernel
theorem dX5_leftAt_60 : decode cX5_leftAt 60 = .ok (.imul, 1) := by decide +kernel
theorem dX5_leftAt_61 : decode cX5_leftAt 61 = .ok (.bipush 10, 2) := by decide +kernel
theorem dX5_leftAt_63 : decode cX5_leftAt 63 = .ok (.idiv, 1) := by decide +kernel
theorem dX5_leftAt_64 : decode cX5_leftAt 64 = .ok (.iadd, 1) := by decide +kernel
theorem dX5_leftAt_65 : decode cX5_leftAt 65 = .ok (.istore_n 2, 1) := by decide +kernel
theorem dX5_leftAt_66 : decode cX5_leftAt 66 = .ok (.iinc 3 1, 3) := by decide +kernel
theorem dX5_leftAt_69 : decode cX5_leftAt 69 = .ok (.goto (-65), 3) := by decide +kernel
theorem dX5_leftAt_72 : decode cX5_leftAt 72 = .ok (.iload_n 2, 1) := by decide +kernel
theorem dX5_leftAt_73 : decode cX5_leftAt 73 = .ok (.ireturn, 1) := by decide +kernel
theorem dX5_bestShown_0 : decode cX5_bestShown 0 = .ok (.aload_n 0, 1) := by decide +kernel
theorem dX5_bestShown_1 : decode cX5_bestShown 1 = .ok (.getfield 12, 3) := by decide +kernel
theorem dX5_bestShown_4 : decode cX5_bestShown 4 = .ok (.invokevirtual 126, 3) := by decide +kernel
theorem dX5_bestShown_7 : decode cX5_bestShown 7 = .ok (.istore_n 1, 1) := by decide +kernel
theorem dX5_bestShown_8 : decode cX5_bestShown 8 = .ok (.iload_n 1, 1) := by decide +kernel
theorem dX5_bestShown_9 : decode cX5_bestShown 9 = .ok (.iconst (-1), 1) := by decide +kernel
theorem dX5_bestShown_10 : decode cX5_bestShown 10 = .ok (.if_icmp .eq 9, 3) := by decide +kernel
theorem dX5_bestShown_13 : decode cX5_bestShown 13 = .ok (.iload_n 1, 1) := by decide +kernel
theorem dX5_bestShown_14 : decode cX5_bestShown 14 = .ok (.bipush 15, 2) := by decide +kernel
theorem dX5_bestShown_16 : decode cX5_bestShown 16 = .ok (.if_icmp .ne 6, 3) := by decide +kernel
theorem dX5_bestShown_19 : decode cX5_bestShown 19 = .ok (.bipush (-4), 2) := by decide +kernel
theorem dX5_bestShown_21 : decode cX5_bestShown 21 = .ok (.ireturn, 1) := by decide +kernel
theorem dX5_bestShown_22 : decode cX5_bestShown 22 = .ok (.iload_n 1, 1) := by decide +kernel
theorem dX5_bestShown_23 : decode cX5_bestShown 23 = .ok (.iconst 1, 1) := by decide +kernel
theorem dX5_bestShown_24 : decode cX5_bestShown 24 = .ok (.iadd, 1) := by decide +kernel
theorem dX5_bestShown_25 : decode cX5_bestShown 25 = .ok (.istore_n 2, 1) := by decide +kernel
theorem dX5_bestShown_26 : decode cX5_bestShown 26 = .ok (.aload_n 0, 1) := by decide +kernel
theorem dX5_bestShown_27 : decode cX5_bestShown 27 = .ok (.iload_n 2, 1) := by decide +kernel
theorem dX5_bestShown_28 : decode cX5_bestShown 28 = .ok (.invokevirtual 130, 3) := by decide +kernel
theorem dX5_bestShown_31 : decode cX5_bestShown 31 = .ok (.istore_n 3, 1) := by decide +kernel
theorem dX5_bestShown_32 : decode cX5_bestShown 32 = .ok (.iload_n 1, 1) := by decide +kernel
theorem dX5_bestShown_33 : decode cX5_bestShown 33 = .ok (.iconst 2, 1) := by decide +kernel
theorem dX5_bestShown_34 : decode cX5_bestShown 34 = .ok (.iadd, 1) := by decide +kernel
theorem dX5_bestShown_35 : decode cX5_bestShown 35 = .ok (.istore 4, 2) := by decide +kernel
theorem dX5_bestShown_37 : decode cX5_bestShown 37 = .ok (.iload 4, 2) := by decide +kernel
theorem dX5_bestShown_39 : decode cX5_bestShown 39 = .ok (.bipush 16, 2) := by decide +kernel
theorem dX5_bestShown_41 : decode cX5_bestShown 41 = .ok (.if_icmp .ge 29, 3) := by decide +kernel
theorem dX5_bestShown_44 : decode cX5_bestShown 44 = .ok (.aload_n 0, 1) := by decide +kernel
theorem dX5_bestShown_45 : decode cX5_bestShown 45 = .ok (.iload 4, 2) := by decide +kernel
theorem dX5_bestShown_47 : decode cX5_bestShown 47 = .ok (.invokevirtual 130, 3) := by decide +kernel
theorem dX5_bestShown_50 : decode cX5_bestShown 50 = .ok (.istore 5, 2) := by decide +kernel
theorem dX5_bestShown_52 : decode cX5_bestShown 52 = .ok (.iload 5, 2) := by decide +kernel
theorem dX5_bestShown_54 : decode cX5_bestShown 54 = .ok (.iload_n 3, 1) := by decide +kernel
theorem dX5_bestShown_55 : decode cX5_bestShown 55 = .ok (.if_icmp .ge 9, 3) := by decide +kernel
theorem dX5_bestShown_58 : decode cX5_bestShown 58 = .ok (.iload 5, 2) := by decide +kernel
theorem dX5_bestShown_60 : decode cX5_bestShown 60 = .ok (.istore_n 3, 1) := by decide +kernel
theorem dX5_bestShown_61 : decode cX5_bestShown 61 = .ok (.iload 4, 2) := by decide +kernel
theorem dX5_bestShown_63 : decode cX5_bestShown 63 = .ok (.istore_n 2, 1) := by decide +kernel
theorem dX5_bestShown_64 : decode cX5_bestShown 64 = .ok (.iinc 4 1, 3) := by decide +kernel
theorem dX5_bestShown_67 : decode cX5_bestShown 67 = .ok (.goto (-30), 3) := by decide +kernel
theorem dX5_bestShown_70 : decode cX5_bestShown 70 = .ok (.iload_n 2, 1) := by decide +kernel
theorem dX5_bestShown_71 : decode cX5_bestShown 71 = .ok (.ireturn, 1) := by decide +kernel
theorem dX5_pointsWhereDrawnMost_0 : decode cX5_pointsWhereDrawnMost 0 = .ok (.iconst 0, 1) := by decide +kernel
theorem dX5_pointsWhereDrawnMost_1 : decode cX5_pointsWhereDrawnMost 1 = .ok (.istore_n 1, 1) := by decide +kernel
theorem dX5_pointsWhereDrawnMost_2 : decode cX5_pointsWhereDrawnMost 2 = .ok (.iconst 0, 1) := by decide +kernel
theorem dX5_pointsWhereDrawnMost_3 : decode cX5_pointsWhereDrawnMost 3 = .ok (.istore_n 2, 1) := by decide +kernel
theorem dX5_pointsWhereDrawnMost_4 : decode cX5_pointsWhereDrawnMost 4 = .ok (.iload_n 2, 1) := by decide +kernel
theorem dX5_pointsWhereDrawnMost_5 : decode cX5_pointsWhereDrawnMost 5 = .ok (.aload_n 0, 1) := by decide +kernel
theorem dX5_pointsWhereDrawnMost_6 : decode cX5_pointsWhereDrawnMost 6 = .ok (.getfield 35, 3) := by decide +kernel
theorem dX5_pointsWhereDrawnMost_9 : decode cX5_pointsWhereDrawnMost 9 = .ok (.getfield 134, 3) := by decide +kernel
theorem dX5_pointsWhereDrawnMost_12 : decode cX5_pointsWhereDrawnMost 12 = .ok (.if_icmp .ge 75, 3) := by decide +kernel
theorem dX5_pointsWhereDrawnMost_15 : decode cX5_pointsWhereDrawnMost 15 = .ok (.aload_n 0, 1) := by decide +kernel
theorem dX5_pointsWhereDrawnMost_16 : decode cX5_pointsWhereDrawnMost 16 = .ok (.iconst 0, 1) := by decide +kernel
theorem dX5_pointsWhereDrawnMost_17 : decode cX5_pointsWhereDrawnMost 17 = .ok (.iconst 0, 1) := by decide +kernel
theorem dX5_pointsWhereDrawnMost_18 : decode cX5_pointsWhereDrawnMost 18 = .ok (.aload_n 0, 1) := by decide +kernel
theorem dX5_pointsWhereDrawnMost_19 : decode cX5_pointsWhereDrawnMost 19 = .ok (.getfield 35, 3) := by decide +kernel
theorem dX5_pointsWhereDrawnMost_22 : decode cX5_pointsWhereDrawnMost 22 = .ok (.getfield 135, 3) := by decide +kernel
theorem dX5_pointsWhereDrawnMost_25 : decode cX5_pointsWhereDrawnMost 25 = .ok (.iload_n 2, 1) := by decide +kernel
theorem dX5_pointsWhereDrawnMost_26 : decode cX5_pointsWhereDrawnMost 26 = .ok (.iaload, 1) := by decide +kernel
theorem dX5_pointsWhereDrawnMost_27 : decode cX5_pointsWhereDrawnMost 27 = .ok (.iconst 1, 1) := by decide +kernel
theorem dX5_pointsWhereDrawnMost_28 : decode cX5_pointsWhereDrawnMost 28 = .ok (.invokevirtual 90, 3) := by decide +kernel
theorem dX5_pointsWhereDrawnMost_31 : decode cX5_pointsWhereDrawnMost 31 = .ok (.iconst 0, 1) := by decide +kernel
theorem dX5_pointsWhereDrawnMost_32 : decode cX5_pointsWhereDrawnMost 32 = .ok (.istore_n 3, 1) := by decide +kernel
theorem dX5_pointsWhereDrawnMost_33 : decode cX5_pointsWhereDrawnMost 33 = .ok (.iconst 0, 1) := by decide +kernel
theorem dX5_pointsWhereDrawnMost_34 : decode cX5_pointsWhereDrawnMost 34 = .ok (.istore 4, 2) := by decide +kernel
theorem dX5_pointsWhereDrawnMost_36 : decode cX5_pointsWhereDrawnMost 36 = .ok (.iload 4, 2) := by decide +kernel
theorem dX5_pointsWhereDrawnMost_38 : decode cX5_pointsWhereDrawnMost 38 = .ok (.iconst 4, 1) := by decide +kernel
theorem dX5_pointsWhereDrawnMost_39 : decode cX5_pointsWhereDrawnMost 39 = .ok (.if_icmp .ge 21, 3) := by decide +kernel
theorem dX5_pointsWhereDrawnMost_42 : decode cX5_pointsWhereDrawnMost 42 = .ok (.iload_n 3, 1) := by decide +kernel
theorem dX5_pointsWhereDrawnMost_43 : decode cX5_pointsWhereDrawnMost 43 = .ok (.aload_n 0, 1) := by decide +kernel
theorem dX5_pointsWhereDrawnMost_44 : decode cX5_pointsWhereDrawnMost 44 = .ok (.getfield 47, 3) := by decide +kernel
theorem dX5_pointsWhereDrawnMost_47 : decode cX5_pointsWhereDrawnMost 47 = .ok (.iload 4, 2) := by decide +kernel
theorem dX5_pointsWhereDrawnMost_49 : decode cX5_pointsWhereDrawnMost 49 = .ok (.iaload, 1) := by decide +kernel
theorem dX5_pointsWhereDrawnMost_50 : decode cX5_pointsWhereDrawnMost 50 = .ok (.invokestatic 97, 3) := by decide +kernel
theorem dX5_pointsWhereDrawnMost_53 : decode cX5_pointsWhereDrawnMost 53 = .ok (.istore_n 3, 1) := by decide +kernel
theorem dX5_pointsWhereDrawnMost_54 : decode cX5_pointsWhereDrawnMost 54 = .ok (.iinc 4 1, 3) := by decide +kernel
theorem dX5_pointsWhereDrawnMost_57 : decode cX5_pointsWhereDrawnMost 57 = .ok (.goto (-21), 3) := by decide +kernel
theorem dX5_pointsWhereDrawnMost_60 : decode cX5_pointsWhereDrawnMost 60 = .ok (.aload_n 0, 1) := by decide +kernel
theorem dX5_pointsWhereDrawnMost_61 : decode cX5_pointsWhereDrawnMost 61 = .ok (.getfield 47, 3) := by decide +kernel
theorem dX5_pointsWhereDrawnMost_64 : decode cX5_pointsWhereDrawnMost 64 = .ok (.aload_n 0, 1) := by decide +kernel
theorem dX5_pointsWhereDrawnMost_65 : decode cX5_pointsWhereDrawnMost 65 = .ok (.getfield 35, 3) := by decide +kernel
theorem dX5_pointsWhereDrawnMost_68 : decode cX5_pointsWhereDrawnMost 68 = .ok (.getfield 138, 3) := by decide +kernel
theorem dX5_pointsWhereDrawnMost_71 : decode cX5_pointsWhereDrawnMost 71 = .ok (.iload_n 2, 1) := by decide +kernel
theorem dX5_pointsWhereDrawnMost_72 : decode cX5_pointsWhereDrawnMost 72 = .ok (.iaload, 1) := by decide +kernel
theorem dX5_pointsWhereDrawnMost_73 : decode cX5_pointsWhereDrawnMost 73 = .ok (.iaload, 1) := by decide +kernel
theorem dX5_pointsWhereDrawnMost_74 : decode cX5_pointsWhereDrawnMost 74 = .ok (.iload_n 3, 1) := by decide +kernel
theorem dX5_pointsWhereDrawnMost_75 : decode cX5_pointsWhereDrawnMost 75 = .ok (.if_icmp .ne 6, 3) := by decide +kernel
theorem dX5_pointsWhereDrawnMost_78 : decode cX5_pointsWhereDrawnMost 78 = .ok (.iinc 1 1, 3) := by decide +kernel
theorem dX5_pointsWhereDrawnMost_81 : decode cX5_pointsWhereDrawnMost 81 = .ok (.iinc 2 1, 3) := by decide +kernel
theorem dX5_pointsWhereDrawnMost_84 : decode cX5_pointsWhereDrawnMost 84 = .ok (.goto (-80), 3) := by decide +kernel
theorem dX5_pointsWhereDrawnMost_87 : decode cX5_pointsWhereDrawnMost 87 = .ok (.iload_n 1, 1) := by decide +kernel
theorem dX5_pointsWhereDrawnMost_88 : decode cX5_pointsWhereDrawnMost 88 = .ok (.ireturn, 1) := by decide +kernel
theorem dX6_init_0 : decode cX6_init 0 = .ok (.aload_n 0, 1) := by decide +kernel
theorem dX6_init_1 : decode cX6_init 1 = .ok (.invokespecial 3, 3) := by decide +kernel
theorem dX6_init_4 : decode cX6_init 4 = .ok (.aload_n 0, 1) := by decide +kernel
theorem dX6_init_5 : decode cX6_init 5 = .ok (.bipush 100, 2) := by decide +kernel
theorem dX6_init_7 : decode cX6_init 7 = .ok (.newarray .int, 2) := by decide +kernel
theorem dX6_init_9 : decode cX6_init 9 = .ok (.putfield 9, 3) := by decide +kernel
theorem dX6_init_12 : decode cX6_init 12 = .ok (.return_, 1) := by decide +kernel
theorem dX6_isWritable_0 : decode cX6_isWritable 0 = .ok (.iconst 0, 1) := by decide +kernel
theorem dX6_isWritable_1 : decode cX6_isWritable 1 = .ok (.istore_n 3, 1) := by decide +kernel
theorem dX6_isWritable_2 : decode cX6_isWritable 2 = .ok (.iload_n 3, 1) := by decide +kernel
theorem dX6_isWritable_3 : decode cX6_isWritable 3 = .ok (.iload_n 2, 1) := by decide +kernel
theorem dX6_isWritable_4 : decode cX6_isWritable 4 = .ok (.if_icmp .ge 32, 3) := by decide +kernel
theorem dX6_isWritable_7 : decode cX6_isWritable 7 = .ok (.lload_n 0, 1) := by decide +kernel
theorem dX6_isWritable_8 : decode cX6_isWritable 8 = .ok (.iload_n 3, 1) := by decide +kernel
theorem dX6_isWritable_9 : decode cX6_isWritable 9 = .ok (.invokestatic 15, 3) := by decide +kernel
theorem dX6_isWritable_12 : decode cX6_isWritable 12 = .ok (.istore 4, 2) := by decide +kernel
theorem dX6_isWritable_14 : decode cX6_isWritable 14 = .ok (.iload 4, 2) := by decide +kernel
theorem dX6_isWritable_16 : decode cX6_isWritable 16 = .ok (.bipush 32, 2) := by decide +kernel
theorem dX6_isWritable_18 : decode cX6_isWritable 18 = .ok (.if_icmp .lt 10, 3) := by decide +kernel
theorem dX6_isWritable_21 : decode cX6_isWritable 21 = .ok (.iload 4, 2) := by decide +kernel
theorem dX6_isWritable_23 : decode cX6_isWritable 23 = .ok (.bipush 126, 2) := by decide +kernel
theorem dX6_isWritable_25 : decode cX6_isWritable 25 = .ok (.if_icmp .le 5, 3) := by decide +kernel
theorem dX6_isWritable_28 : decode cX6_isWritable 28 = .ok (.iconst 0, 1) := by decide +kernel
theorem dX6_isWritable_29 : decode cX6_isWritable 29 = .ok (.ireturn, 1) := by decide +kernel
theorem dX6_isWritable_30 : decode cX6_isWritable 30 = .ok (.iinc 3 1, 3) := by decide +kernel
theorem dX6_isWritable_33 : decode cX6_isWritable 33 = .ok (.goto (-31), 3) := by decide +kernel
theorem dX6_isWritable_36 : decode cX6_isWritable 36 = .ok (.iconst 1, 1) := by decide +kernel
theorem dX6_isWritable_37 : decode cX6_isWritable 37 = .ok (.ireturn, 1) := by decide +kernel
theorem dX6_byteOf_0 : decode cX6_byteOf 0 = .ok (.lload_n 0, 1) := by decide +kernel
theorem dX6_byteOf_1 : decode cX6_byteOf 1 = .ok (.bipush 8, 2) := by decide +kernel
theorem dX6_byteOf_3 : decode cX6_byteOf 3 = .ok (.iload_n 2, 1) := by decide +kernel
theorem dX6_byteOf_4 : decode cX6_byteOf 4 = .ok (.imul, 1) := by decide +kernel
theorem dX6_byteOf_5 : decode cX6_byteOf 5 = .ok (.lshr, 1) := by decide +kernel
theorem dX6_byteOf_6 : decode cX6_byteOf 6 = .ok (.ldc2_w 19, 3) := by decide +kernel
theorem dX6_byteOf_9 : decode cX6_byteOf 9 = .ok (.land, 1) := by decide +kernel
theorem dX6_byteOf_10 : decode cX6_byteOf 10 = .ok (.l2i, 1) := by decide +kernel
theorem dX6_byteOf_11 : decode cX6_byteOf 11 = .ok (.ireturn, 1) := by decide +kernel
theorem dX6_write_0 : decode cX6_write 0 = .ok (.iload_n 3, 1) := by decide +kernel
theorem dX6_write_1 : decode cX6_write 1 = .ok (.iconst 1, 1) := by decide +kernel
theorem dX6_write_2 : decode cX6_write 2 = .ok (.isub, 1) := by decide +kernel
theorem dX6_write_3 : decode cX6_write 3 = .ok (.istore 4, 2) := by decide +kernel
theorem dX6_write_5 : decode cX6_write 5 = .ok (.iload 4, 2) := by decide +kernel
theorem dX6_write_7 : decode cX6_write 7 = .ok (.ifCond .lt 43, 3) := by decide +kernel
theorem dX6_write_10 : decode cX6_write 10 = .ok (.aload_n 0, 1) := by decide +kernel
theorem dX6_write_11 : decode cX6_write 11 = .ok (.getfield 21, 3) := by decide +kernel
theorem dX6_write_14 : decode cX6_write 14 = .ok (.bipush 100, 2) := by decide +kernel
theorem dX6_write_16 : decode cX6_write 16 = .ok (.if_icmp .ge 34, 3) := by decide +kernel
theorem dX6_write_19 : decode cX6_write 19 = .ok (.aload_n 0, 1) := by decide +kernel
theorem dX6_write_20 : decode cX6_write 20 = .ok (.getfield 9, 3) := by decide +kernel
theorem dX6_write_23 : decode cX6_write 23 = .ok (.aload_n 0, 1) := by decide +kernel
theorem dX6_write_24 : decode cX6_write 24 = .ok (.getfield 21, 3) := by decide +kernel
theorem dX6_write_27 : decode cX6_write 27 = .ok (.lload_n 1, 1) := by decide +kernel
theorem dX6_write_28 : decode cX6_write 28 = .ok (.iload 4, 2) := by decide +kernel
theorem dX6_write_30 : decode cX6_write 30 = .ok (.invokestatic 15, 3) := by decide +kernel
theorem dX6_write_33 : decode cX6_write 33 = .ok (.iastore, 1) := by decide +kernel
theorem dX6_write_34 : decode cX6_write 34 = .ok (.aload_n 0, 1) := by decide +kernel
theorem dX6_write_35 : decode cX6_write 35 = .ok (.dup, 1) := by decide +kernel
theorem dX6_write_36 : decode cX6_write 36 = .ok (.getfield 21, 3) := by decide +kernel
theorem dX6_write_39 : decode cX6_write 39 = .ok (.iconst 1, 1) := by decide +kernel
theorem dX6_write_40 : decode cX6_write 40 = .ok (.iadd, 1) := by decide +kernel
theorem dX6_write_41 : decode cX6_write 41 = .ok (.putfield 21, 3) := by decide +kernel
theorem dX6_write_44 : decode cX6_write 44 = .ok (.iinc 4 (-1), 3) := by decide +kernel
theorem dX6_write_47 : decode cX6_write 47 = .ok (.goto (-42), 3) := by decide +kernel
theorem dX6_write_50 : decode cX6_write 50 = .ok (.return_, 1) := by decide +kernel
theorem dX6_readRoutine_0 : decode cX6_readRoutine 0 = .ok (.aload_n 0, 1) := by decide +kernel
theorem dX6_readRoutine_1 : decode cX6_readRoutine 1 = .ok (.invokevirtual 25, 3) := by decide +kernel
theorem dX6_readRoutine_4 : decode cX6_readRoutine 4 = .ok (.iconst 0, 1) := by decide +kernel
theorem dX6_readRoutine_5 : decode cX6_readRoutine 5 = .ok (.istore_n 2, 1) := by decide +kernel
theorem dX6_readRoutine_6 : decode cX6_readRoutine 6 = .ok (.aload_n 0, 1) := by decide +kernel
theorem dX6_readRoutine_7 : decode cX6_readRoutine 7 = .ok (.aload_n 1, 1) := by decide +kernel
theorem dX6_readRoutine_8 : decode cX6_readRoutine 8 = .ok (.invokevirtual 28, 3) := by decide +kernel
theorem dX6_readRoutine_11 : decode cX6_readRoutine 11 = .ok (.iinc 2 1, 3) := by decide +kernel
theorem dX6_readRoutine_14 : decode cX6_readRoutine 14 = .ok (.iload_n 2, 1) := by decide +kernel
theorem dX6_readRoutine_15 : decode cX6_readRoutine 15 = .ok (.bipush 8, 2) := by decide +kernel
theorem dX6_readRoutine_17 : decode cX6_readRoutine 17 = .ok (.if_icmp .ge 12, 3) := by decide +kernel
theorem dX6_readRoutine_20 : decode cX6_readRoutine 20 = .ok (.aload_n 0, 1) := by decide +kernel
theorem dX6_readRoutine_21 : decode cX6_readRoutine 21 = .ok (.bipush 59, 2) := by decide +kernel
theorem dX6_readRoutine_23 : decode cX6_readRoutine 23 = .ok (.invokevirtual 32, 3) := by decide +kernel
theorem dX6_readRoutine_26 : decode cX6_readRoutine 26 = .ok (.ifCond .ne (-20), 3) := by decide +kernel
theorem dX6_readRoutine_29 : decode cX6_readRoutine 29 = .ok (.aload_n 0, 1) := by decide +kernel
theorem dX6_readRoutine_30 : decode cX6_readRoutine 30 = .ok (.iload_n 2, 1) := by decide +kernel
theorem dX6_readRoutine_31 : decode cX6_readRoutine 31 = .ok (.invokevirtual 36, 3) := by decide +kernel
theorem dX6_readRoutine_34 : decode cX6_readRoutine 34 = .ok (.ireturn, 1) := by decide +kernel
theorem dX6_readHouse_0 : decode cX6_readHouse 0 = .ok (.aload_n 0, 1) := by decide +kernel
theorem dX6_readHouse_1 : decode cX6_readHouse 1 = .ok (.invokevirtual 25, 3) := by decide +kernel
theorem dX6_readHouse_4 : decode cX6_readHouse 4 = .ok (.iconst 0, 1) := by decide +kernel
theorem dX6_readHouse_5 : decode cX6_readHouse 5 = .ok (.istore_n 2, 1) := by decide +kernel
theorem dX6_readHouse_6 : decode cX6_readHouse 6 = .ok (.aload_n 0, 1) := by decide +kernel
theorem dX6_readHouse_7 : decode cX6_readHouse 7 = .ok (.aload_n 1, 1) := by decide +kernel
theorem dX6_readHouse_8 : decode cX6_readHouse 8 = .ok (.invokevirtual 40, 3) := by decide +kernel
theorem dX6_readHouse_11 : decode cX6_readHouse 11 = .ok (.iinc 2 1, 3) := by decide +kernel
theorem dX6_readHouse_14 : decode cX6_readHouse 14 = .ok (.iload_n 2, 1) := by decide +kernel
theorem dX6_readHouse_15 : decode cX6_readHouse 15 = .ok (.bipush 8, 2) := by decide +kernel
theorem dX6_readHouse_17 : decode cX6_readHouse 17 = .ok (.if_icmp .ge 12, 3) := by decide +kernel
theorem dX6_readHouse_20 : decode cX6_readHouse 20 = .ok (.aload_n 0, 1) := by decide +kernel
theorem dX6_readHouse_21 : decode cX6_readHouse 21 = .ok (.bipush 59, 2) := by decide +kernel
theorem dX6_readHouse_23 : decode cX6_readHouse 23 = .ok (.invokevirtual 32, 3) := by decide +kernel
theorem dX6_readHouse_26 : decode cX6_readHouse 26 = .ok (.ifCond .ne (-20), 3) := by decide +kernel
theorem dX6_readHouse_29 : decode cX6_readHouse 29 = .ok (.aload_n 0, 1) := by decide +kernel
theorem dX6_readHouse_30 : decode cX6_readHouse 30 = .ok (.iload_n 2, 1) := by decide +kernel
theorem dX6_readHouse_31 : decode cX6_readHouse 31 = .ok (.invokevirtual 36, 3) := by decide +kernel
theorem dX6_readHouse_34 : decode cX6_readHouse 34 = .ok (.ireturn, 1) := by decide +kernel
theorem dX6_rewind_0 : decode cX6_rewind 0 = .ok (.aload_n 0, 1) := by decide +kernel
theorem dX6_rewind_1 : decode cX6_rewind 1 = .ok (.iconst 0, 1) := by decide +kernel
theorem dX6_rewind_2 : decode cX6_rewind 2 = .ok (.putfield 44, 3) := by decide +kernel
theorem dX6_rewind_5 : decode cX6_rewind 5 = .ok (.aload_n 0, 1) := by decide +kernel
theorem dX6_rewind_6 : decode cX6_rewind 6 = .ok (.iconst 0, 1) := by decide +kernel
theorem dX6_rewind_7 : decode cX6_rewind 7 = .ok (.putfield 47, 3) := by decide +kernel
theorem dX6_rewind_10 : decode cX6_rewind 10 = .ok (.return_, 1) := by decide +kernel
theorem dX6_answer_0 : decode cX6_answer 0 = .ok (.aload_n 0, 1) := by decide +kernel
theorem dX6_answer_1 : decode cX6_answer 1 = .ok (.getfield 47, 3) := by decide +kernel
theorem dX6_answer_4 : decode cX6_answer 4 = .ok (.ifCond .ne 15, 3) := by decide +kernel
theorem dX6_answer_7 : decode cX6_answer 7 = .ok (.aload_n 0, 1) := by decide +kernel
theorem dX6_answer_8 : decode cX6_answer 8 = .ok (.invokevirtual 51, 3) := by decide +kernel
theorem dX6_answer_11 : decode cX6_answer 11 = .ok (.iconst (-1), 1) := by decide +kernel
theorem dX6_answer_12 : decode cX6_answer 12 = .ok (.if_icmp .ne 7, 3) := by decide +kernel
theorem dX6_answer_15 : decode cX6_answer 15 = .ok (.iload_n 1, 1) := by decide +kernel
theorem dX6_answer_16 : decode cX6_answer 16 = .ok (.goto 10, 3) := by decide +kernel
theorem dX6_answer_19 : decode cX6_answer 19 = .ok (.bipush (-20), 2) := by decide +kernel
theorem dX6_answer_21 : decode cX6_answer 21 = .ok (.aload_n 0, 1) := by decide +kernel
theorem dX6_answer_22 : decode cX6_answer 22 = .ok (.getfield 44, 3) := by decide +kernel
theorem dX6_answer_25 : decode cX6_answer 25 = .ok (.isub, 1) := by decide +kernel
theorem dX6_answer_26 : decode cX6_answer 26 = .ok (.ireturn, 1) := by decide +kernel
theorem dX6_readClause_0 : decode cX6_readClause 0 = .ok (.aload_n 0, 1) := by decide +kernel
theorem dX6_readClause_1 : decode cX6_readClause 1 = .ok (.bipush 16, 2) := by decide +kernel
theorem dX6_readClause_3 : decode cX6_readClause 3 = .ok (.invokevirtual 55, 3) := by decide +kernel
theorem dX6_readClause_6 : decode cX6_readClause 6 = .ok (.istore_n 2, 1) := by decide +kernel
theorem dX6_readClause_7 : decode cX6_readClause 7 = .ok (.aload_n 0, 1) := by decide +kernel
theorem dX6_readClause_8 : decode cX6_readClause 8 = .ok (.bipush 58, 2) := by decide +kernel
theorem dX6_readClause_10 : decode cX6_readClause 10 = .ok (.invokevirtual 32, 3) := by decide +kernel
theorem dX6_readClause_13 : decode cX6_readClause 13 = .ok (.ifCond .ne 9, 3) := by decide +kernel
theorem dX6_readClause_16 : decode cX6_readClause 16 = .ok (.aload_n 0, 1) := by decide +kernel
theorem dX6_readClause_17 : decode cX6_readClause 17 = .ok (.iconst 1, 1) := by decide +kernel
theorem dX6_readClause_18 : decode cX6_readClause 18 = .ok (.putfield 47, 3) := by decide +kernel
theorem dX6_readClause_21 : decode cX6_readClause 21 = .ok (.return_, 1) := by decide +kernel
theorem dX6_readClause_22 : decode cX6_readClause 22 = .ok (.aload_n 1, 1) := by decide +kernel
theorem dX6_readClause_23 : decode cX6_readClause 23 = .ok (.getfield 58, 3) := by decide +kernel
theorem dX6_readClause_26 : decode cX6_readClause 26 = .ok (.iload_n 2, 1) := by decide +kernel
theorem dX6_readClause_27 : decode cX6_readClause 27 = .ok (.aload_n 0, 1) := by decide +kernel
theorem dX6_readClause_28 : decode cX6_readClause 28 = .ok (.bipush 109, 2) := by decide +kernel
theorem dX6_readClause_30 : decode cX6_readClause 30 = .ok (.invokevirtual 32, 3) := by decide +kernel
theorem dX6_readClause_33 : decode cX6_readClause 33 = .ok (.ifCond .eq 10, 3) := by decide +kernel
theorem dX6_readClause_36 : decode cX6_readClause 36 = .ok (.aload_n 0, 1) := by decide +kernel
theorem dX6_readClause_37 : decode cX6_readClause 37 = .ok (.invokevirtual 63, 3) := by decide +kernel
theorem dX6_readClause_40 : decode cX6_readClause 40 = .ok (.goto 4, 3) := by decide +kernel
theorem dX6_readClause_43 : decode cX6_readClause 43 = .ok (.iconst 0, 1) := by decide +kernel
theorem dX6_readClause_44 : decode cX6_readClause 44 = .ok (.iastore, 1) := by decide +kernel
theorem dX6_readClause_45 : decode cX6_readClause 45 = .ok (.aload_n 1, 1) := by decide +kernel
theorem dX6_readClause_46 : decode cX6_readClause 46 = .ok (.getfield 66, 3) := by decide +kernel
theorem dX6_readClause_49 : decode cX6_readClause 49 = .ok (.iload_n 2, 1) := by decide +kernel
theorem dX6_readClause_50 : decode cX6_readClause 50 = .ok (.aload_n 0, 1) := by decide +kernel
theorem dX6_readClause_51 : decode cX6_readClause 51 = .ok (.bipush 108, 2) := by decide +kernel
theorem dX6_readClause_53 : decode cX6_readClause 53 = .ok (.invokevirtual 32, 3) := by decide +kernel
theorem dX6_readClause_56 : decode cX6_readClause 56 = .ok (.ifCond .eq 14, 3) := by decide +kernel
theorem dX6_readClause_59 : decode cX6_readClause 59 = .ok (.iconst 1, 1) := by decide +kernel
theorem dX6_readClause_60 : decode cX6_readClause 60 = .ok (.aload_n 0, 1) := by decide +kernel
theorem dX6_readClause_61 : decode cX6_readClause 61 = .ok (.iconst 0, 1) := by decide +kernel
theorem dX6_readClause_62 : decode cX6_readClause 62 = .ok (.iconst 4, 1) := by decide +kernel
theorem dX6_readClause_63 : decode cX6_readClause 63 = .ok (.invokevirtual 69, 3) := by decide +kernel
theorem dX6_readClause_66 : decode cX6_readClause 66 = .ok (.iadd, 1) := by decide +kernel
theorem dX6_readClause_67 : decode cX6_readClause 67 = .ok (.goto 4, 3) := by decide +kernel
theorem dX6_readClause_70 : decode cX6_readClause 70 = .ok (.iconst 0, 1) := by decide +kernel
theorem dX6_readClause_71 : decode cX6_readClause 71 = .ok (.iastore, 1) := by decide +kernel
theorem dX6_readClause_72 : decode cX6_readClause 72 = .ok (.aload_n 1, 1) := by decide +kernel
theorem dX6_readClause_73 : decode cX6_readClause 73 = .ok (.getfield 73, 3) := by decide +kernel
theorem dX6_readClause_76 : decode cX6_readClause 76 = .ok (.iload_n 2, 1) := by decide +kernel
theorem dX6_readClause_77 : decode cX6_readClause 77 = .ok (.aload_n 0, 1) := by decide +kernel
theorem dX6_readClause_78 : decode cX6_readClause 78 = .ok (.bipush 110, 2) := by decide +kernel
theorem dX6_readClause_80 : decode cX6_readClause 80 = .ok (.invokevirtual 32, 3) := by decide +kernel
theorem dX6_readClause_83 : decode cX6_readClause 83 = .ok (.ifCond .eq 14, 3) := by decide +kernel
theorem dX6_readClause_86 : decode cX6_readClause 86 = .ok (.iconst 1, 1) := by decide +kernel
theorem dX6_readClause_87 : decode cX6_readClause 87 = .ok (.aload_n 0, 1) := by decide +kernel
theorem dX6_readClause_88 : decode cX6_readClause 88 = .ok (.iconst 0, 1) := by decide +kernel
theorem dX6_readClause_89 : decode cX6_readClause 89 = .ok (.iconst 4, 1) := by decide +kernel
theorem dX6_readClause_90 : decode cX6_readClause 90 = .ok (.invokevirtual 69, 3) := by decide +kernel
theorem dX6_readClause_93 : decode cX6_readClause 93 = .ok (.iadd, 1) := by decide +kernel
theorem dX6_readClause_94 : decode cX6_readClause 94 = .ok (.goto 4, 3) := by decide +kernel
theorem dX6_readClause_97 : decode cX6_readClause 97 = .ok (.iconst 0, 1) := by decide +kernel
theorem dX6_readClause_98 : decode cX6_readClause 98 = .ok (.iastore, 1) := by decide +kernel
theorem dX6_readClause_99 : decode cX6_readClause 99 = .ok (.aload_n 1, 1) := by decide +kernel
theorem dX6_readClause_100 : decode cX6_readClause 100 = .ok (.getfield 76, 3) := by decide +kernel
theorem dX6_readClause_103 : decode cX6_readClause 103 = .ok (.iload_n 2, 1) := by decide +kernel
theorem dX6_readClause_104 : decode cX6_readClause 104 = .ok (.aload_n 0, 1) := by decide +kernel
theorem dX6_readClause_105 : decode cX6_readClause 105 = .ok (.bipush 106, 2) := by decide +kernel
theorem dX6_readClause_107 : decode cX6_readClause 107 = .ok (.invokevirtual 32, 3) := by decide +kernel
theorem dX6_readClause_110 : decode cX6_readClause 110 = .ok (.ifCond .eq 7, 3) := by decide +kernel
theorem dX6_readClause_113 : decode cX6_readClause 113 = .ok (.iconst 1, 1) := by decide +kernel
theorem dX6_readClause_114 : decode cX6_readClause 114 = .ok (.goto 4, 3) := by decide +kernel
theorem dX6_readClause_117 : decode cX6_readClause 117 = .ok (.iconst 0, 1) := by decide +kernel
theorem dX6_readClause_118 : decode cX6_readClause 118 = .ok (.iastore, 1) := by decide +kernel
theorem dX6_readClause_119 : decode cX6_readClause 119 = .ok (.aload_n 1, 1) := by decide +kernel
theorem dX6_readClause_120 : decode cX6_readClause 120 = .ok (.getfield 79, 3) := by decide +kernel
theorem dX6_readClause_123 : decode cX6_readClause 123 = .ok (.iload_n 2, 1) := by decide +kernel
theorem dX6_readClause_124 : decode cX6_readClause 124 = .ok (.aload_n 0, 1) := by decide +kernel
theorem dX6_readClause_125 : decode cX6_readClause 125 = .ok (.bipush 120, 2) := by decide +kernel
theorem dX6_readClause_127 : decode cX6_readClause 127 = .ok (.invokevirtual 32, 3) := by decide +kernel
theorem dX6_readClause_130 : decode cX6_readClause 130 = .ok (.ifCond .eq 10, 3) := by decide +kernel
theorem dX6_readClause_133 : decode cX6_readClause 133 = .ok (.aload_n 0, 1) := by decide +kernel
theorem dX6_readClause_134 : decode cX6_readClause 134 = .ok (.invokevirtual 63, 3) := by decide +kernel
theorem dX6_readClause_137 : decode cX6_readClause 137 = .ok (.goto 4, 3) := by decide +kernel
theorem dX6_readClause_140 : decode cX6_readClause 140 = .ok (.iconst 0, 1) := by decide +kernel
theorem dX6_readClause_141 : decode cX6_readClause 141 = .ok (.iastore, 1) := by decide +kernel
theorem dX6_readClause_142 : decode cX6_readClause 142 = .ok (.return_, 1) := by decide +kernel
theorem dX6_readWatcher_0 : decode cX6_readWatcher 0 = .ok (.aload_n 0, 1) := by decide +kernel
theorem dX6_readWatcher_1 : decode cX6_readWatcher 1 = .ok (.invokevirtual 51, 3) := by decide +kernel
theorem dX6_readWatcher_4 : decode cX6_readWatcher 4 = .ok (.pop, 1) := by decide +kernel
theorem dX6_readWatcher_5 : decode cX6_readWatcher 5 = .ok (.aload_n 0, 1) := by decide +kernel
theorem dX6_readWatcher_6 : decode cX6_readWatcher 6 = .ok (.getfield 44, 3) := by decide +kernel
theorem dX6_readWatcher_9 : decode cX6_readWatcher 9 = .ok (.istore_n 2, 1) := by decide +kernel
theorem dX6_readWatcher_10 : decode cX6_readWatcher 10 = .ok (.aload_n 0, 1) := by decide +kernel
theorem dX6_readWatcher_11 : decode cX6_readWatcher 11 = .ok (.bipush 12, 2) := by decide +kernel
theorem dX6_readWatcher_13 : decode cX6_readWatcher 13 = .ok (.invokevirtual 55, 3) := by decide +kernel
theorem dX6_readWatcher_16 : decode cX6_readWatcher 16 = .ok (.istore_n 3, 1) := by decide +kernel
theorem dX6_readWatcher_17 : decode cX6_readWatcher 17 = .ok (.aload_n 0, 1) := by decide +kernel
theorem dX6_readWatcher_18 : decode cX6_readWatcher 18 = .ok (.getfield 47, 3) := by decide +kernel
theorem dX6_readWatcher_21 : decode cX6_readWatcher 21 = .ok (.ifCond .ne 21, 3) := by decide +kernel
theorem dX6_readWatcher_24 : decode cX6_readWatcher 24 = .ok (.aload_n 1, 1) := by decide +kernel
theorem dX6_readWatcher_25 : decode cX6_readWatcher 25 = .ok (.iload_n 3, 1) := by decide +kernel
theorem dX6_readWatcher_26 : decode cX6_readWatcher 26 = .ok (.invokevirtual 82, 3) := by decide +kernel
theorem dX6_readWatcher_29 : decode cX6_readWatcher 29 = .ok (.ifCond .eq 13, 3) := by decide +kernel
theorem dX6_readWatcher_32 : decode cX6_readWatcher 32 = .ok (.aload_n 0, 1) := by decide +kernel
theorem dX6_readWatcher_33 : decode cX6_readWatcher 33 = .ok (.iload_n 2, 1) := by decide +kernel
theorem dX6_readWatcher_34 : decode cX6_readWatcher 34 = .ok (.putfield 44, 3) := by decide +kernel
theorem dX6_readWatcher_37 : decode cX6_readWatcher 37 = .ok (.aload_n 0, 1) := by decide +kernel
theorem dX6_readWatcher_38 : decode cX6_readWatcher 38 = .ok (.iconst 1, 1) := by decide +kernel
theorem dX6_readWatcher_39 : decode cX6_readWatcher 39 = .ok (.putfield 47, 3) := by decide +kernel
theorem dX6_readWatcher_42 : decode cX6_readWatcher 42 = .ok (.iconst 0, 1) := by decide +kernel
theorem dX6_readWatcher_43 : decode cX6_readWatcher 43 = .ok (.istore 4, 2) := by decide +kernel
theorem dX6_readWatcher_45 : decode cX6_readWatcher 45 = .ok (.iload 4, 2) := by decide +kernel
theorem dX6_readWatcher_47 : decode cX6_readWatcher 47 = .ok (.iconst 4, 1) := by decide +kernel
theorem dX6_readWatcher_48 : decode cX6_readWatcher 48 = .ok (.if_icmp .ge 30, 3) := by decide +kernel
theorem dX6_readWatcher_51 : decode cX6_readWatcher 51 = .ok (.aload_n 0, 1) := by decide +kernel
theorem dX6_readWatcher_52 : decode cX6_readWatcher 52 = .ok (.getstatic 88, 3) := by decide +kernel
theorem dX6_readWatcher_55 : decode cX6_readWatcher 55 = .ok (.iload 4, 2) := by decide +kernel
theorem dX6_readWatcher_57 : decode cX6_readWatcher 57 = .ok (.caload, 1) := by decide +kernel
theorem dX6_readWatcher_58 : decode cX6_readWatcher 58 = .ok (.invokevirtual 32, 3) := by decide +kernel
theorem dX6_readWatcher_61 : decode cX6_readWatcher 61 = .ok (.ifCond .eq 11, 3) := by decide +kernel
theorem dX6_readWatcher_64 : decode cX6_readWatcher 64 = .ok (.aload_n 1, 1) := by decide +kernel
theorem dX6_readWatcher_65 : decode cX6_readWatcher 65 = .ok (.iload_n 3, 1) := by decide +kernel
theorem dX6_readWatcher_66 : decode cX6_readWatcher 66 = .ok (.iload 4, 2) := by decide +kernel
theorem dX6_readWatcher_68 : decode cX6_readWatcher 68 = .ok (.invokevirtual 92, 3) := by decide +kernel
theorem dX6_readWatcher_71 : decode cX6_readWatcher 71 = .ok (.return_, 1) := by decide +kernel
theorem dX6_readWatcher_72 : decode cX6_readWatcher 72 = .ok (.iinc 4 1, 3) := by decide +kernel
theorem dX6_readWatcher_75 : decode cX6_readWatcher 75 = .ok (.goto (-30), 3) := by decide +kernel
theorem dX6_readWatcher_78 : decode cX6_readWatcher 78 = .ok (.aload_n 0, 1) := by decide +kernel
theorem dX6_readWatcher_79 : decode cX6_readWatcher 79 = .ok (.iconst 1, 1) := by decide +kernel
theorem dX6_readWatcher_80 : decode cX6_readWatcher 80 = .ok (.putfield 47, 3) := by decide +kernel
theorem dX6_readWatcher_83 : decode cX6_readWatcher 83 = .ok (.return_, 1) := by decide +kernel
theorem dX6_placeAndSize_0 : decode cX6_placeAndSize 0 = .ok (.aload_n 0, 1) := by decide +kernel
theorem dX6_placeAndSize_1 : decode cX6_placeAndSize 1 = .ok (.iconst 0, 1) := by decide +kernel
theorem dX6_placeAndSize_2 : decode cX6_placeAndSize 2 = .ok (.iconst 4, 1) := by decide +kernel
theorem dX6_placeAndSize_3 : decode cX6_placeAndSize 3 = .ok (.invokevirtual 69, 3) := by decide +kernel
theorem dX6_placeAndSize_6 : decode cX6_placeAndSize 6 = .ok (.istore_n 1, 1) := by decide +kernel
theorem dX6_placeAndSize_7 : decode cX6_placeAndSize 7 = .ok (.bipush 10, 2) := by decide +kernel
theorem dX6_placeAndSize_9 : decode cX6_placeAndSize 9 = .ok (.iload_n 1, 1) := by decide +kernel
theorem dX6_placeAndSize_10 : decode cX6_placeAndSize 10 = .ok (.imul, 1) := by decide +kernel
theorem dX6_placeAndSize_11 : decode cX6_placeAndSize 11 = .ok (.aload_n 0, 1) := by decide +kernel
theorem dX6_placeAndSize_12 : decode cX6_placeAndSize 12 = .ok (.iconst 1, 1) := by decide +kernel
theorem dX6_placeAndSize_13 : decode cX6_placeAndSize 13 = .ok (.bipush 10, 2) := by decide +kernel
theorem dX6_placeAndSize_15 : decode cX6_placeAndSize 15 = .ok (.invokevirtual 69, 3) := by decide +kernel
theorem dX6_placeAndSize_18 : decode cX6_placeAndSize 18 = .ok (.iadd, 1) := by decide +kernel
theorem dX6_placeAndSize_19 : decode cX6_placeAndSize 19 = .ok (.ireturn, 1) := by decide +kernel
theorem dX6_next_0 : decode cX6_next 0 = .ok (.aload_n 0, 1) := by decide +kernel
theorem dX6_next_1 : decode cX6_next 1 = .ok (.getfield 44, 3) := by decide +kernel
theorem dX6_next_4 : decode cX6_next 4 = .ok (.aload_n 0, 1) := by decide +kernel
theorem dX6_next_5 : decode cX6_next 5 = .ok (.getfield 21, 3) := by decide +kernel
theorem dX6_next_8 : decode cX6_next 8 = .ok (.if_icmp .ge 30, 3) := by decide +kernel
theorem dX6_next_11 : decode cX6_next 11 = .ok (.aload_n 0, 1) := by decide +kernel
theorem dX6_next_12 : decode cX6_next 12 = .ok (.getfield 9, 3) := by decide +kernel
theorem dX6_next_15 : decode cX6_next 15 = .ok (.aload_n 0, 1) := by decide +kernel
theorem dX6_next_16 : decode cX6_next 16 = .ok (.getfield 44, 3) := by decide +kernel
theorem dX6_next_19 : decode cX6_next 19 = .ok (.iaload, 1) := by decide +kernel
theorem dX6_next_20 : decode cX6_next 20 = .ok (.bipush 32, 2) := by decide +kernel
theorem dX6_next_22 : decode cX6_next 22 = .ok (.if_icmp .ne 16, 3) := by decide +kernel
theorem dX6_next_25 : decode cX6_next 25 = .ok (.aload_n 0, 1) := by decide +kernel
theorem dX6_next_26 : decode cX6_next 26 = .ok (.dup, 1) := by decide +kernel
theorem dX6_next_27 : decode cX6_next 27 = .ok (.getfield 44, 3) := by decide +kernel
theorem dX6_next_30 : decode cX6_next 30 = .ok (.iconst 1, 1) := by decide +kernel
theorem dX6_next_31 : decode cX6_next 31 = .ok (.iadd, 1) := by decide +kernel
theorem dX6_next_32 : decode cX6_next 32 = .ok (.putfield 44, 3) := by decide +kernel
theorem dX6_next_35 : decode cX6_next 35 = .ok (.goto (-35), 3) := by decide +kernel
theorem dX6_next_38 : decode cX6_next 38 = .ok (.aload_n 0, 1) := by decide +kernel
theorem dX6_next_39 : decode cX6_next 39 = .ok (.getfield 44, 3) := by decide +kernel
theorem dX6_next_42 : decode cX6_next 42 = .ok (.aload_n 0, 1) := by decide +kernel
theorem dX6_next_43 : decode cX6_next 43 = .ok (.getfield 21, 3) := by decide +kernel
theorem dX6_next_46 : decode cX6_next 46 = .ok (.if_icmp .ge 15, 3) := by decide +kernel
theorem dX6_next_49 : decode cX6_next 49 = .ok (.aload_n 0, 1) := by decide +kernel
theorem dX6_next_50 : decode cX6_next 50 = .ok (.getfield 9, 3) := by decide +kernel
theorem dX6_next_53 : decode cX6_next 53 = .ok (.aload_n 0, 1) := by decide +kernel
theorem dX6_next_54 : decode cX6_next 54 = .ok (.getfield 44, 3) := by decide +kernel
theorem dX6_next_57 : decode cX6_next 57 = .ok (.iaload, 1) := by decide +kernel
theorem dX6_next_58 : decode cX6_next 58 = .ok (.goto 4, 3) := by decide +kernel
theorem dX6_next_61 : decode cX6_next 61 = .ok (.iconst (-1), 1) := by decide +kernel
theorem dX6_next_62 : decode cX6_next 62 = .ok (.ireturn, 1) := by decide +kernel
theorem dX6_accepts_0 : decode cX6_accepts 0 = .ok (.aload_n 0, 1) := by decide +kernel
theorem dX6_accepts_1 : decode cX6_accepts 1 = .ok (.getfield 47, 3) := by decide +kernel
theorem dX6_accepts_4 : decode cX6_accepts 4 = .ok (.ifCond .ne 11, 3) := by decide +kernel
theorem dX6_accepts_7 : decode cX6_accepts 7 = .ok (.aload_n 0, 1) := by decide +kernel
theorem dX6_accepts_8 : decode cX6_accepts 8 = .ok (.invokevirtual 51, 3) := by decide +kernel
theorem dX6_accepts_11 : decode cX6_accepts 11 = .ok (.iload_n 1, 1) := by decide +kernel
theorem dX6_accepts_12 : decode cX6_accepts 12 = .ok (.if_icmp .eq 5, 3) := by decide +kernel
theorem dX6_accepts_15 : decode cX6_accepts 15 = .ok (.iconst 0, 1) := by decide +kernel
theorem dX6_accepts_16 : decode cX6_accepts 16 = .ok (.ireturn, 1) := by decide +kernel
theorem dX6_accepts_17 : decode cX6_accepts 17 = .ok (.aload_n 0, 1) := by decide +kernel
theorem dX6_accepts_18 : decode cX6_accepts 18 = .ok (.dup, 1) := by decide +kernel
theorem dX6_accepts_19 : decode cX6_accepts 19 = .ok (.getfield 44, 3) := by decide +kernel
theorem dX6_accepts_22 : decode cX6_accepts 22 = .ok (.iconst 1, 1) := by decide +kernel
theorem dX6_accepts_23 : decode cX6_accepts 23 = .ok (.iadd, 1) := by decide +kernel
theorem dX6_accepts_24 : decode cX6_accepts 24 = .ok (.putfield 44, 3) := by decide +kernel
theorem dX6_accepts_27 : decode cX6_accepts 27 = .ok (.iconst 1, 1) := by decide +kernel
theorem dX6_accepts_28 : decode cX6_accepts 28 = .ok (.ireturn, 1) := by decide +kernel
theorem dX6_digit_0 : decode cX6_digit 0 = .ok (.aload_n 0, 1) := by decide +kernel
theorem dX6_digit_1 : decode cX6_digit 1 = .ok (.invokevirtual 51, 3) := by decide +kernel
theorem dX6_digit_4 : decode cX6_digit 4 = .ok (.bipush 48, 2) := by decide +kernel
theorem dX6_digit_6 : decode cX6_digit 6 = .ok (.isub, 1) := by decide +kernel
theorem dX6_digit_7 : decode cX6_digit 7 = .ok (.istore_n 3, 1) := by decide +kernel
theorem dX6_digit_8 : decode cX6_digit 8 = .ok (.aload_n 0, 1) := by decide +kernel
theorem dX6_digit_9 : decode cX6_digit 9 = .ok (.getfield 47, 3) := by decide +kernel
theorem dX6_digit_12 : decode cX6_digit 12 = .ok (.ifCond .ne 13, 3) := by decide +kernel
theorem dX6_digit_15 : decode cX6_digit 15 = .ok (.iload_n 3, 1) := by decide +kernel
theorem dX6_digit_16 : decode cX6_digit 16 = .ok (.iload_n 1, 1) := by decide +kernel
theorem dX6_digit_17 : decode cX6_digit 17 = .ok (.if_icmp .lt 8, 3) := by decide +kernel
theorem dX6_digit_20 : decode cX6_digit 20 = .ok (.iload_n 3, 1) := by decide +kernel
theorem dX6_digit_21 : decode cX6_digit 21 = .ok (.iload_n 2, 1) := by decide +kernel
theorem dX6_digit_22 : decode cX6_digit 22 = .ok (.if_icmp .lt 10, 3) := by decide +kernel
theorem dX6_digit_25 : decode cX6_digit 25 = .ok (.aload_n 0, 1) := by decide +kernel
theorem dX6_digit_26 : decode cX6_digit 26 = .ok (.iconst 1, 1) := by decide +kernel
theorem dX6_digit_27 : decode cX6_digit 27 = .ok (.putfield 47, 3) := by decide +kernel
theorem dX6_digit_30 : decode cX6_digit 30 = .ok (.iconst 0, 1) := by decide +kernel
theorem dX6_digit_31 : decode cX6_digit 31 = .ok (.ireturn, 1) := by decide +kernel
theorem dX6_digit_32 : decode cX6_digit 32 = .ok (.aload_n 0, 1) := by decide +kernel
theorem dX6_digit_33 : decode cX6_digit 33 = .ok (.dup, 1) := by decide +kernel
theorem dX6_digit_34 : decode cX6_digit 34 = .ok (.getfield 44, 3) := by decide +kernel
theorem dX6_digit_37 : decode cX6_digit 37 = .ok (.iconst 1, 1) := by decide +kernel
theorem dX6_digit_38 : decode cX6_digit 38 = .ok (.iadd, 1) := by decide +kernel
theorem dX6_digit_39 : decode cX6_digit 39 = .ok (.putfield 44, 3) := by decide +kernel
theorem dX6_digit_42 : decode cX6_digit 42 = .ok (.iload_n 3, 1) := by decide +kernel
theorem dX6_digit_43 : decode cX6_digit 43 = .ok (.ireturn, 1) := by decide +kernel
theorem dX6_number_0 : decode cX6_number 0 = .ok (.aload_n 0, 1) := by decide +kernel
theorem dX6_number_1 : decode cX6_number 1 = .ok (.invokevirtual 51, 3) := by decide +kernel
theorem dX6_number_4 : decode cX6_number 4 = .ok (.pop, 1) := by decide +kernel
theorem dX6_number_5 : decode cX6_number 5 = .ok (.aload_n 0, 1) := by decide +kernel
theorem dX6_number_6 : decode cX6_number 6 = .ok (.getfield 44, 3) := by decide +kernel
theorem dX6_number_9 : decode cX6_number 9 = .ok (.istore_n 2, 1) := by decide +kernel
theorem dX6_number_10 : decode cX6_number 10 = .ok (.aload_n 0, 1) := by decide +kernel
theorem dX6_number_11 : decode cX6_number 11 = .ok (.iconst 0, 1) := by decide +kernel
theorem dX6_number_12 : decode cX6_number 12 = .ok (.bipush 10, 2) := by decide +kernel
theorem dX6_number_14 : decode cX6_number 14 = .ok (.invokevirtual 69, 3) := by decide +kernel
theorem dX6_number_17 : decode cX6_number 17 = .ok (.istore_n 3, 1) := by decide +kernel
theorem dX6_number_18 : decode cX6_number 18 = .ok (.aload_n 0, 1) := by decide +kernel
theorem dX6_number_19 : decode cX6_number 19 = .ok (.getfield 47, 3) := by decide +kernel
theorem dX6_number_22 : decode cX6_number 22 = .ok (.ifCond .ne 77, 3) := by decide +kernel
theorem dX6_number_25 : decode cX6_number 25 = .ok (.aload_n 0, 1) := by decide +kernel
theorem dX6_number_26 : decode cX6_number 26 = .ok (.getfield 44, 3) := by decide +kernel
theorem dX6_number_29 : decode cX6_number 29 = .ok (.aload_n 0, 1) := by decide +kernel
theorem dX6_number_30 : decode cX6_number 30 = .ok (.getfield 21, 3) := by decide +kernel
theorem dX6_number_33 : decode cX6_number 33 = .ok (.if_icmp .ge 66, 3) := by decide +kernel
theorem dX6_number_36 : decode cX6_number 36 = .ok (.aload_n 0, 1) := by decide +kernel
theorem dX6_number_37 : decode cX6_number 37 = .ok (.getfield 9, 3) := by decide +kernel
theorem dX6_number_40 : decode cX6_number 40 = .ok (.aload_n 0, 1) := by decide +kernel
theorem dX6_number_41 : decode cX6_number 41 = .ok (.getfield 44, 3) := by decide +kernel
theorem dX6_number_44 : decode cX6_number 44 = .ok (.iaload, 1) := by decide +kernel
theorem dX6_number_45 : decode cX6_number 45 = .ok (.bipush 48, 2) := by decide +kernel
theorem dX6_number_47 : decode cX6_number 47 = .ok (.if_icmp .lt 52, 3) := by decide +kernel
theorem dX6_number_50 : decode cX6_number 50 = .ok (.aload_n 0, 1) := by decide +kernel
theorem dX6_number_51 : decode cX6_number 51 = .ok (.getfield 9, 3) := by decide +kernel
theorem dX6_number_54 : decode cX6_number 54 = .ok (.aload_n 0, 1) := by decide +kernel
theorem dX6_number_55 : decode cX6_number 55 = .ok (.getfield 44, 3) := by decide +kernel
theorem dX6_number_58 : decode cX6_number 58 = .ok (.iaload, 1) := by decide +kernel
theorem dX6_number_59 : decode cX6_number 59 = .ok (.bipush 57, 2) := by decide +kernel
theorem dX6_number_61 : decode cX6_number 61 = .ok (.if_icmp .gt 38, 3) := by decide +kernel
theorem dX6_number_64 : decode cX6_number 64 = .ok (.iload_n 1, 1) := by decide +kernel
theorem dX6_number_65 : decode cX6_number 65 = .ok (.bipush 10, 2) := by decide +kernel
theorem dX6_number_67 : decode cX6_number 67 = .ok (.iload_n 3, 1) := by decide +kernel
theorem dX6_number_68 : decode cX6_number 68 = .ok (.imul, 1) := by decide +kernel
theorem dX6_number_69 : decode cX6_number 69 = .ok (.aload_n 0, 1) := by decide +kernel
theorem dX6_number_70 : decode cX6_number 70 = .ok (.getfield 9, 3) := by decide +kernel
theorem dX6_number_73 : decode cX6_number 73 = .ok (.aload_n 0, 1) := by decide +kernel
theorem dX6_number_74 : decode cX6_number 74 = .ok (.getfield 44, 3) := by decide +kernel
theorem dX6_number_77 : decode cX6_number 77 = .ok (.iaload, 1) := by decide +kernel
theorem dX6_number_78 : decode cX6_number 78 = .ok (.iadd, 1) := by decide +kernel
theorem dX6_number_79 : decode cX6_number 79 = .ok (.bipush 48, 2) := by decide +kernel
theorem dX6_number_81 : decode cX6_number 81 = .ok (.isub, 1) := by decide +kernel
theorem dX6_number_82 : decode cX6_number 82 = .ok (.invokestatic 96, 3) := by decide +kernel
theorem dX6_number_85 : decode cX6_number 85 = .ok (.istore_n 3, 1) := by decide +kernel
theorem dX6_number_86 : decode cX6_number 86 = .ok (.aload_n 0, 1) := by decide +kernel
theorem dX6_number_87 : decode cX6_number 87 = .ok (.dup, 1) := by decide +kernel
theorem dX6_number_88 : decode cX6_number 88 = .ok (.getfield 44, 3) := by decide +kernel
theorem dX6_number_91 : decode cX6_number 91 = .ok (.iconst 1, 1) := by decide +kernel
theorem dX6_number_92 : decode cX6_number 92 = .ok (.iadd, 1) := by decide +kernel
theorem dX6_number_93 : decode cX6_number 93 = .ok (.putfield 44, 3) := by decide +kernel
theorem dX6_number_96 : decode cX6_number 96 = .ok (.goto (-78), 3) := by decide +kernel
theorem dX6_number_99 : decode cX6_number 99 = .ok (.iload_n 3, 1) := by decide +kernel
theorem dX6_number_100 : decode cX6_number 100 = .ok (.iload_n 1, 1) := by decide +kernel
theorem dX6_number_101 : decode cX6_number 101 = .ok (.if_icmp .lt 13, 3) := by decide +kernel
theorem dX6_number_104 : decode cX6_number 104 = .ok (.aload_n 0, 1) := by decide +kernel
theorem dX6_number_105 : decode cX6_number 105 = .ok (.iload_n 2, 1) := by decide +kernel
theorem dX6_number_106 : decode cX6_number 106 = .ok (.putfield 44, 3) := by decide +kernel
theorem dX6_number_109 : decode cX6_number 109 = .ok (.aload_n 0, 1) := by decide +kernel
theorem dX6_number_110 : decode cX6_number 110 = .ok (.iconst 1, 1) := by decide +kernel
theorem dX6_number_111 : decode cX6_number 111 = .ok (.putfield 47, 3) := by decide +kernel
theorem dX6_number_114 : decode cX6_number 114 = .ok (.aload_n 0, 1) := by decide +kernel
theorem dX6_number_115 : decode cX6_number 115 = .ok (.getfield 47, 3) := by decide +kernel
theorem dX6_number_118 : decode cX6_number 118 = .ok (.ifCond .eq 7, 3) := by decide +kernel
theorem dX6_number_121 : decode cX6_number 121 = .ok (.iconst 0, 1) := by decide +kernel
theorem dX6_number_122 : decode cX6_number 122 = .ok (.goto 4, 3) := by decide +kernel
theorem dX6_number_125 : decode cX6_number 125 = .ok (.iload_n 3, 1) := by decide +kernel
theorem dX6_number_126 : decode cX6_number 126 = .ok (.ireturn, 1) := by decide +kernel
theorem dX7_init_0 : decode cX7_init 0 = .ok (.aload_n 0, 1) := by decide +kernel
theorem dX7_init_1 : decode cX7_init 1 = .ok (.invokespecial 3, 3) := by decide +kernel
theorem dX7_init_4 : decode cX7_init 4 = .ok (.aload_n 0, 1) := by decide +kernel
theorem dX7_init_5 : decode cX7_init 5 = .ok (.new 9, 3) := by decide +kernel
theorem dX7_init_8 : decode cX7_init 8 = .ok (.dup, 1) := by decide +kernel
theorem dX7_init_9 : decode cX7_init 9 = .ok (.invokespecial 11, 3) := by decide +kernel
theorem dX7_init_12 : decode cX7_init 12 = .ok (.putfield 12, 3) := by decide +kernel
theorem dX7_init_15 : decode cX7_init 15 = .ok (.return_, 1) := by decide +kernel
theorem dX7_seesMoved_0 : decode cX7_seesMoved 0 = .ok (.aload_n 0, 1) := by decide +kernel
theorem dX7_seesMoved_1 : decode cX7_seesMoved 1 = .ok (.getfield 12, 3) := by decide +kernel
theorem dX7_seesMoved_4 : decode cX7_seesMoved 4 = .ok (.aload_n 1, 1) := by decide +kernel
theorem dX7_seesMoved_5 : decode cX7_seesMoved 5 = .ok (.invokevirtual 18, 3) := by decide +kernel
theorem dX7_seesMoved_8 : decode cX7_seesMoved 8 = .ok (.aload_n 0, 1) := by decide +kernel
theorem dX7_seesMoved_9 : decode cX7_seesMoved 9 = .ok (.getfield 12, 3) := by decide +kernel
theorem dX7_seesMoved_12 : decode cX7_seesMoved 12 = .ok (.getfield 22, 3) := by decide +kernel
theorem dX7_seesMoved_15 : decode cX7_seesMoved 15 = .ok (.getfield 26, 3) := by decide +kernel
theorem dX7_seesMoved_18 : decode cX7_seesMoved 18 = .ok (.iload_n 2, 1) := by decide +kernel
theorem dX7_seesMoved_19 : decode cX7_seesMoved 19 = .ok (.iconst 0, 1) := by decide +kernel
theorem dX7_seesMoved_20 : decode cX7_seesMoved 20 = .ok (.iastore, 1) := by decide +kernel
theorem dX7_seesMoved_21 : decode cX7_seesMoved 21 = .ok (.aload_n 0, 1) := by decide +kernel
theorem dX7_seesMoved_22 : decode cX7_seesMoved 22 = .ok (.getfield 12, 3) := by decide +kernel
theorem dX7_seesMoved_25 : decode cX7_seesMoved 25 = .ok (.getfield 22, 3) := by decide +kernel
theorem dX7_seesMoved_28 : decode cX7_seesMoved 28 = .ok (.getfield 26, 3) := by decide +kernel
theorem dX7_seesMoved_31 : decode cX7_seesMoved 31 = .ok (.iload_n 3, 1) := by decide +kernel
theorem dX7_seesMoved_32 : decode cX7_seesMoved 32 = .ok (.aload_n 1, 1) := by decide +kernel
theorem dX7_seesMoved_33 : decode cX7_seesMoved 33 = .ok (.getfield 22, 3) := by decide +kernel
theorem dX7_seesMoved_36 : decode cX7_seesMoved 36 = .ok (.getfield 26, 3) := by decide +kernel
theorem dX7_seesMoved_39 : decode cX7_seesMoved 39 = .ok (.iload_n 2, 1) := by decide +kernel
theorem dX7_seesMoved_40 : decode cX7_seesMoved 40 = .ok (.iaload, 1) := by decide +kernel
theorem dX7_seesMoved_41 : decode cX7_seesMoved 41 = .ok (.iastore, 1) := by decide +kernel
theorem dX7_seesMoved_42 : decode cX7_seesMoved 42 = .ok (.aload_n 0, 1) := by decide +kernel
theorem dX7_seesMoved_43 : decode cX7_seesMoved 43 = .ok (.getfield 12, 3) := by decide +kernel
theorem dX7_seesMoved_46 : decode cX7_seesMoved 46 = .ok (.iload_n 3, 1) := by decide +kernel
theorem dX7_seesMoved_47 : decode cX7_seesMoved 47 = .ok (.iconst 1, 1) := by decide +kernel
theorem dX7_seesMoved_48 : decode cX7_seesMoved 48 = .ok (.invokevirtual 32, 3) := by decide +kernel
theorem dX7_seesMoved_51 : decode cX7_seesMoved 51 = .ok (.ireturn, 1) := by decide +kernel
theorem dX7_quietestBeat_0 : decode cX7_quietestBeat 0 = .ok (.iconst (-1), 1) := by decide +kernel
theorem dX7_quietestBeat_1 : decode cX7_quietestBeat 1 = .ok (.istore_n 3, 1) := by decide +kernel
theorem dX7_quietestBeat_2 : decode cX7_quietestBeat 2 = .ok (.iconst 0, 1) := by decide +kernel
theorem dX7_quietestBeat_3 : decode cX7_quietestBeat 3 = .ok (.istore 4, 2) := by decide +kernel
theorem dX7_quietestBeat_5 : decode cX7_quietestBeat 5 = .ok (.iconst 0, 1) := by decide +kernel
theorem dX7_quietestBeat_6 : decode cX7_quietestBeat 6 = .ok (.istore 5, 2) := by decide +kernel
theorem dX7_quietestBeat_8 : decode cX7_quietestBeat 8 = .ok (.iload 5, 2) := by decide +kernel
theorem dX7_quietestBeat_10 : decode cX7_quietestBeat 10 = .ok (.bipush 16, 2) := by decide +kernel
theorem dX7_quietestBeat_12 : decode cX7_quietestBeat 12 = .ok (.if_icmp .ge 60, 3) := by decide +kernel
theorem dX7_quietestBeat_15 : decode cX7_quietestBeat 15 = .ok (.iload 5, 2) := by decide +kernel
theorem dX7_quietestBeat_17 : decode cX7_quietestBeat 17 = .ok (.iload_n 2, 1) := by decide +kernel
theorem dX7_quietestBeat_18 : decode cX7_quietestBeat 18 = .ok (.if_icmp .eq 19, 3) := by decide +kernel
theorem dX7_quietestBeat_21 : decode cX7_quietestBeat 21 = .ok (.aload_n 1, 1) := by decide +kernel
theorem dX7_quietestBeat_22 : decode cX7_quietestBeat 22 = .ok (.getfield 22, 3) := by decide +kernel
theorem dX7_quietestBeat_25 : decode cX7_quietestBeat 25 = .ok (.getfield 26, 3) := by decide +kernel
theorem dX7_quietestBeat_28 : decode cX7_quietestBeat 28 = .ok (.iload 5, 2) := by decide +kernel
theorem dX7_quietestBeat_30 : decode cX7_quietestBeat 30 = .ok (.iaload, 1) := by decide +kernel
theorem dX7_quietestBeat_31 : decode cX7_quietestBeat 31 = .ok (.ifCond .eq 6, 3) := by decide +kernel
theorem dX7_quietestBeat_34 : decode cX7_quietestBeat 34 = .ok (.goto 32, 3) := by decide +kernel
theorem dX7_quietestBeat_37 : decode cX7_quietestBeat 37 = .ok (.aload_n 0, 1) := by decide +kernel
theorem dX7_quietestBeat_38 : decode cX7_quietestBeat 38 = .ok (.aload_n 1, 1) := by decide +kernel
theorem dX7_quietestBeat_39 : decode cX7_quietestBeat 39 = .ok (.iload_n 2, 1) := by decide +kernel
theorem dX7_quietestBeat_40 : decode cX7_quietestBeat 40 = .ok (.iload 5, 2) := by decide +kernel
theorem dX7_quietestBeat_42 : decode cX7_quietestBeat 42 = .ok (.invokevirtual 36, 3) := by decide +kernel
theorem dX7_quietestBeat_45 : decode cX7_quietestBeat 45 = .ok (.istore 6, 2) := by decide +kernel
theorem dX7_quietestBeat_47 : decode cX7_quietestBeat 47 = .ok (.iload_n 3, 1) := by decide +kernel
theorem dX7_quietestBeat_48 : decode cX7_quietestBeat 48 = .ok (.iconst (-1), 1) := by decide +kernel
theorem dX7_quietestBeat_49 : decode cX7_quietestBeat 49 = .ok (.if_icmp .eq 10, 3) := by decide +kernel
theorem dX7_quietestBeat_52 : decode cX7_quietestBeat 52 = .ok (.iload 6, 2) := by decide +kernel
theorem dX7_quietestBeat_54 : decode cX7_quietestBeat 54 = .ok (.iload 4, 2) := by decide +kernel
theorem dX7_quietestBeat_56 : decode cX7_quietestBeat 56 = .ok (.if_icmp .ge 10, 3) := by decide +kernel
theorem dX7_quietestBeat_59 : decode cX7_quietestBeat 59 = .ok (.iload 5, 2) := by decide +kernel
theorem dX7_quietestBeat_61 : decode cX7_quietestBeat 61 = .ok (.istore_n 3, 1) := by decide +kernel
theorem dX7_quietestBeat_62 : decode cX7_quietestBeat 62 = .ok (.iload 6, 2) := by decide +kernel
theorem dX7_quietestBeat_64 : decode cX7_quietestBeat 64 = .ok (.istore 4, 2) := by decide +kernel
theorem dX7_quietestBeat_66 : decode cX7_quietestBeat 66 = .ok (.iinc 5 1, 3) := by decide +kernel
theorem dX7_quietestBeat_69 : decode cX7_quietestBeat 69 = .ok (.goto (-61), 3) := by decide +kernel
theorem dX7_quietestBeat_72 : decode cX7_quietestBeat 72 = .ok (.iload_n 3, 1) := by decide +kernel
theorem dX7_quietestBeat_73 : decode cX7_quietestBeat 73 = .ok (.ireturn, 1) := by decide +kernel
theorem dX7_seesCovered_0 : decode cX7_seesCovered 0 = .ok (.aload_n 0, 1) := by decide +kernel
theorem dX7_seesCovered_1 : decode cX7_seesCovered 1 = .ok (.getfield 12, 3) := by decide +kernel
theorem dX7_seesCovered_4 : decode cX7_seesCovered 4 = .ok (.aload_n 1, 1) := by decide +kernel
theorem dX7_seesCovered_5 : decode cX7_seesCovered 5 = .ok (.invokevirtual 18, 3) := by decide +kernel
theorem dX7_seesCovered_8 : decode cX7_seesCovered 8 = .ok (.aload_n 1, 1) := by decide +kernel
theorem dX7_seesCovered_9 : decode cX7_seesCovered 9 = .ok (.getfield 40, 3) := by decide +kernel
theorem dX7_seesCovered_12 : decode cX7_seesCovered 12 = .ok (.aload_n 0, 1) := by decide +kernel
theorem dX7_seesCovered_13 : decode cX7_seesCovered 13 = .ok (.getfield 12, 3) := by decide +kernel
theorem dX7_seesCovered_16 : decode cX7_seesCovered 16 = .ok (.getfield 22, 3) := by decide +kernel
theorem dX7_seesCovered_19 : decode cX7_seesCovered 19 = .ok (.iload_n 2, 1) := by decide +kernel

theorem dX9_sees_32 : decode cX9_sees 32 = .ok (.aload_n 0, 1) := by decide +kernel
theorem dX9_sees_33 : decode cX9_sees 33 = .ok (.iload_n 2, 1) := by decide +kernel
theorem dX9_sees_34 : decode cX9_sees 34 = .ok (.invokevirtual 195, 3) := by decide +kernel
theorem dX9_sees_37 : decode cX9_sees 37 = .ok (.goto 23, 3) := by decide +kernel
theorem dX9_sees_40 : decode cX9_sees 40 = .ok (.aload_n 0, 1) := by decide +kernel
theorem dX9_sees_41 : decode cX9_sees 41 = .ok (.getfield 13, 3) := by decide +kernel
theorem dX9_sees_44 : decode cX9_sees 44 = .ok (.iload_n 1, 1) := by decide +kernel
theorem dX9_sees_45 : decode cX9_sees 45 = .ok (.iaload, 1) := by decide +kernel
theorem dX9_sees_46 : decode cX9_sees 46 = .ok (.ifCond .ne 8, 3) := by decide +kernel
theorem dX9_sees_49 : decode cX9_sees 49 = .ok (.bipush (-2), 2) := by decide +kernel
theorem dX9_sees_51 : decode cX9_sees 51 = .ok (.goto 9, 3) := by decide +kernel
theorem dX9_sees_54 : decode cX9_sees 54 = .ok (.aload_n 0, 1) := by decide +kernel
theorem dX9_sees_55 : decode cX9_sees 55 = .ok (.iload_n 1, 1) := by decide +kernel
theorem dX9_sees_56 : decode cX9_sees 56 = .ok (.iload_n 2, 1) := by decide +kernel
theorem dX9_sees_57 : decode cX9_sees 57 = .ok (.invokevirtual 192, 3) := by decide +kernel
theorem dX9_sees_60 : decode cX9_sees 60 = .ok (.ireturn, 1) := by decide +kernel
theorem dX9_quiet_0 : decode cX9_quiet 0 = .ok (.iload_n 1, 1) := by decide +kernel
theorem dX9_quiet_1 : decode cX9_quiet 1 = .ok (.invokestatic 79, 3) := by decide +kernel
theorem dX9_quiet_4 : decode cX9_quiet 4 = .ok (.ifCond .eq 13, 3) := by decide +kernel
theorem dX9_quiet_7 : decode cX9_quiet 7 = .ok (.iload_n 2, 1) := by decide +kernel
theorem dX9_quiet_8 : decode cX9_quiet 8 = .ok (.i2l, 1) := by decide +kernel
theorem dX9_quiet_9 : decode cX9_quiet 9 = .ok (.lconst 0, 1) := by decide +kernel
theorem dX9_quiet_10 : decode cX9_quiet 10 = .ok (.lconst 1, 1) := by decide +kernel
theorem dX9_quiet_11 : decode cX9_quiet 11 = .ok (.invokestatic 70, 3) := by decide +kernel
theorem dX9_quiet_14 : decode cX9_quiet 14 = .ok (.ifCond .ne 5, 3) := by decide +kernel
theorem dX9_quiet_17 : decode cX9_quiet 17 = .ok (.iconst (-1), 1) := by decide +kernel
theorem dX9_quiet_18 : decode cX9_quiet 18 = .ok (.ireturn, 1) := by decide +kernel
theorem dX9_quiet_19 : decode cX9_quiet 19 = .ok (.aload_n 0, 1) := by decide +kernel
theorem dX9_quiet_20 : decode cX9_quiet 20 = .ok (.getfield 13, 3) := by decide +kernel
theorem dX9_quiet_23 : decode cX9_quiet 23 = .ok (.iload_n 1, 1) := by decide +kernel
theorem dX9_quiet_24 : decode cX9_quiet 24 = .ok (.iaload, 1) := by decide +kernel
theorem dX9_quiet_25 : decode cX9_quiet 25 = .ok (.istore_n 3, 1) := by decide +kernel
theorem dX9_quiet_26 : decode cX9_quiet 26 = .ok (.iload_n 3, 1) := by decide +kernel
theorem dX9_quiet_27 : decode cX9_quiet 27 = .ok (.ifCond .ne 6, 3) := by decide +kernel
theorem dX9_quiet_30 : decode cX9_quiet 30 = .ok (.bipush (-2), 2) := by decide +kernel
theorem dX9_quiet_32 : decode cX9_quiet 32 = .ok (.ireturn, 1) := by decide +kernel
theorem dX9_quiet_33 : decode cX9_quiet 33 = .ok (.bipush (-4), 2) := by decide +kernel
theorem dX9_quiet_35 : decode cX9_quiet 35 = .ok (.istore 4, 2) := by decide +kernel
theorem dX9_quiet_37 : decode cX9_quiet 37 = .ok (.iconst 0, 1) := by decide +kernel
theorem dX9_quiet_38 : decode cX9_quiet 38 = .ok (.istore 5, 2) := by decide +kernel
theorem dX9_quiet_40 : decode cX9_quiet 40 = .ok (.aload_n 0, 1) := by decide +kernel
theorem dX9_quiet_41 : decode cX9_quiet 41 = .ok (.getfield 13, 3) := by decide +kernel
theorem dX9_quiet_44 : decode cX9_quiet 44 = .ok (.iload_n 1, 1) := by decide +kernel
theorem dX9_quiet_45 : decode cX9_quiet 45 = .ok (.iconst 0, 1) := by decide +kernel
theorem dX9_quiet_46 : decode cX9_quiet 46 = .ok (.iastore, 1) := by decide +kernel
theorem dX9_quiet_47 : decode cX9_quiet 47 = .ok (.iconst 0, 1) := by decide +kernel
theorem dX9_quiet_48 : decode cX9_quiet 48 = .ok (.istore 6, 2) := by decide +kernel
theorem dX9_quiet_50 : decode cX9_quiet 50 = .ok (.iload 6, 2) := by decide +kernel
theorem dX9_quiet_52 : decode cX9_quiet 52 = .ok (.bipush 16, 2) := by decide +kernel
theorem dX9_quiet_54 : decode cX9_quiet 54 = .ok (.if_icmp .ge 91, 3) := by decide +kernel
theorem dX9_quiet_57 : decode cX9_quiet 57 = .ok (.aload_n 0, 1) := by decide +kernel
theorem dX9_quiet_58 : decode cX9_quiet 58 = .ok (.getfield 13, 3) := by decide +kernel
theorem dX9_quiet_61 : decode cX9_quiet 61 = .ok (.iload 6, 2) := by decide +kernel
theorem dX9_quiet_63 : decode cX9_quiet 63 = .ok (.iaload, 1) := by decide +kernel
theorem dX9_quiet_64 : decode cX9_quiet 64 = .ok (.ifCond .ne 75, 3) := by decide +kernel
theorem dX9_quiet_67 : decode cX9_quiet 67 = .ok (.aload_n 0, 1) := by decide +kernel
theorem dX9_quiet_68 : decode cX9_quiet 68 = .ok (.getfield 13, 3) := by decide +kernel
theorem dX9_quiet_71 : decode cX9_quiet 71 = .ok (.iload 6, 2) := by decide +kernel
theorem dX9_quiet_73 : decode cX9_quiet 73 = .ok (.iload_n 3, 1) := by decide +kernel
theorem dX9_quiet_74 : decode cX9_quiet 74 = .ok (.iastore, 1) := by decide +kernel
theorem dX9_quiet_75 : decode cX9_quiet 75 = .ok (.aload_n 0, 1) := by decide +kernel
theorem dX9_quiet_76 : decode cX9_quiet 76 = .ok (.iload 6, 2) := by decide +kernel
theorem dX9_quiet_78 : decode cX9_quiet 78 = .ok (.iconst 1, 1) := by decide +kernel
theorem dX9_quiet_79 : decode cX9_quiet 79 = .ok (.invokevirtual 192, 3) := by decide +kernel
theorem dX9_quiet_82 : decode cX9_quiet 82 = .ok (.istore 7, 2) := by decide +kernel
theorem dX9_quiet_84 : decode cX9_quiet 84 = .ok (.aload_n 0, 1) := by decide +kernel
theorem dX9_quiet_85 : decode cX9_quiet 85 = .ok (.getfield 13, 3) := by decide +kernel
theorem dX9_quiet_88 : decode cX9_quiet 88 = .ok (.iload 6, 2) := by decide +kernel
theorem dX9_quiet_90 : decode cX9_quiet 90 = .ok (.iconst 0, 1) := by decide +kernel
theorem dX9_quiet_91 : decode cX9_quiet 91 = .ok (.iastore, 1) := by decide +kernel
theorem dX9_quiet_92 : decode cX9_quiet 92 = .ok (.iload 4, 2) := by decide +kernel
theorem dX9_quiet_94 : decode cX9_quiet 94 = .ok (.ifCond .lt 10, 3) := by decide +kernel
theorem dX9_quiet_97 : decode cX9_quiet 97 = .ok (.iload 7, 2) := by decide +kernel
theorem dX9_quiet_99 : decode cX9_quiet 99 = .ok (.iload 5, 2) := by decide +kernel
theorem dX9_quiet_101 : decode cX9_quiet 101 = .ok (.if_icmp .ge 7, 3) := by decide +kernel
theorem dX9_quiet_104 : decode cX9_quiet 104 = .ok (.iconst 1, 1) := by decide +kernel
theorem dX9_quiet_105 : decode cX9_quiet 105 = .ok (.goto 4, 3) := by decide +kernel
theorem dX9_quiet_108 : decode cX9_quiet 108 = .ok (.iconst 0, 1) := by decide +kernel
theorem dX9_quiet_109 : decode cX9_quiet 109 = .ok (.istore 8, 2) := by decide +kernel
theorem dX9_quiet_111 : decode cX9_quiet 111 = .ok (.iload 8, 2) := by decide +kernel
theorem dX9_quiet_113 : decode cX9_quiet 113 = .ok (.ifCond .eq 8, 3) := by decide +kernel
theorem dX9_quiet_116 : decode cX9_quiet 116 = .ok (.iload 6, 2) := by decide +kernel
theorem dX9_quiet_118 : decode cX9_quiet 118 = .ok (.goto 5, 3) := by decide +kernel
theorem dX9_quiet_121 : decode cX9_quiet 121 = .ok (.iload 4, 2) := by decide +kernel
theorem dX9_quiet_123 : decode cX9_quiet 123 = .ok (.istore 4, 2) := by decide +kernel
theorem dX9_quiet_125 : decode cX9_quiet 125 = .ok (.iload 8, 2) := by decide +kernel
theorem dX9_quiet_127 : decode cX9_quiet 127 = .ok (.ifCond .eq 8, 3) := by decide +kernel
theorem dX9_quiet_130 : decode cX9_quiet 130 = .ok (.iload 7, 2) := by decide +kernel
theorem dX9_quiet_132 : decode cX9_quiet 132 = .ok (.goto 5, 3) := by decide +kernel
theorem dX9_quiet_135 : decode cX9_quiet 135 = .ok (.iload 5, 2) := by decide +kernel
theorem dX9_quiet_137 : decode cX9_quiet 137 = .ok (.istore 5, 2) := by decide +kernel
theorem dX9_quiet_139 : decode cX9_quiet 139 = .ok (.iinc 6 1, 3) := by decide +kernel
theorem dX9_quiet_142 : decode cX9_quiet 142 = .ok (.goto (-92), 3) := by decide +kernel
theorem dX9_quiet_145 : decode cX9_quiet 145 = .ok (.aload_n 0, 1) := by decide +kernel
theorem dX9_quiet_146 : decode cX9_quiet 146 = .ok (.getfield 13, 3) := by decide +kernel
theorem dX9_quiet_149 : decode cX9_quiet 149 = .ok (.iload_n 1, 1) := by decide +kernel
theorem dX9_quiet_150 : decode cX9_quiet 150 = .ok (.iload_n 3, 1) := by decide +kernel
theorem dX9_quiet_151 : decode cX9_quiet 151 = .ok (.iastore, 1) := by decide +kernel
theorem dX9_quiet_152 : decode cX9_quiet 152 = .ok (.iload_n 2, 1) := by decide +kernel
theorem dX9_quiet_153 : decode cX9_quiet 153 = .ok (.ifCond .ne 8, 3) := by decide +kernel
theorem dX9_quiet_156 : decode cX9_quiet 156 = .ok (.iload 4, 2) := by decide +kernel
theorem dX9_quiet_158 : decode cX9_quiet 158 = .ok (.goto 5, 3) := by decide +kernel
theorem dX9_quiet_161 : decode cX9_quiet 161 = .ok (.iload 5, 2) := by decide +kernel
theorem dX9_quiet_163 : decode cX9_quiet 163 = .ok (.ireturn, 1) := by decide +kernel
theorem dX9_cover_0 : decode cX9_cover 0 = .ok (.iload_n 1, 1) := by decide +kernel
theorem dX9_cover_1 : decode cX9_cover 1 = .ok (.invokestatic 79, 3) := by decide +kernel
theorem dX9_cover_4 : decode cX9_cover 4 = .ok (.ifCond .eq 44, 3) := by decide +kernel
theorem dX9_cover_7 : decode cX9_cover 7 = .ok (.iload_n 2, 1) := by decide +kernel
theorem dX9_cover_8 : decode cX9_cover 8 = .ok (.i2l, 1) := by decide +kernel
theorem dX9_cover_9 : decode cX9_cover 9 = .ok (.lconst 0, 1) := by decide +kernel
theorem dX9_cover_10 : decode cX9_cover 10 = .ok (.ldc2_w 74, 3) := by decide +kernel
theorem dX9_cover_13 : decode cX9_cover 13 = .ok (.invokestatic 70, 3) := by decide +kernel
theorem dX9_cover_16 : decode cX9_cover 16 = .ok (.ifCond .eq 32, 3) := by decide +kernel
theorem dX9_cover_19 : decode cX9_cover 19 = .ok (.iload_n 3, 1) := by decide +kernel
theorem dX9_cover_20 : decode cX9_cover 20 = .ok (.invokestatic 83, 3) := by decide +kernel
theorem dX9_cover_23 : decode cX9_cover 23 = .ok (.ifCond .eq 25, 3) := by decide +kernel
theorem dX9_cover_26 : decode cX9_cover 26 = .ok (.iload_n 2, 1) := by decide +kernel
theorem dX9_cover_27 : decode cX9_cover 27 = .ok (.iconst 3, 1) := by decide +kernel
theorem dX9_cover_28 : decode cX9_cover 28 = .ok (.if_icmp .ne 7, 3) := by decide +kernel
theorem dX9_cover_31 : decode cX9_cover 31 = .ok (.iload_n 3, 1) := by decide +kernel
theorem dX9_cover_32 : decode cX9_cover 32 = .ok (.ifCond .gt 16, 3) := by decide +kernel
theorem dX9_cover_35 : decode cX9_cover 35 = .ok (.iload 4, 2) := by decide +kernel
theorem dX9_cover_37 : decode cX9_cover 37 = .ok (.i2l, 1) := by decide +kernel
theorem dX9_cover_38 : decode cX9_cover 38 = .ok (.lconst 0, 1) := by decide +kernel
theorem dX9_cover_39 : decode cX9_cover 39 = .ok (.ldc2_w 198, 3) := by decide +kernel
theorem dX9_cover_42 : decode cX9_cover 42 = .ok (.invokestatic 70, 3) := by decide +kernel
theorem dX9_cover_45 : decode cX9_cover 45 = .ok (.ifCond .ne 5, 3) := by decide +kernel
theorem dX9_cover_48 : decode cX9_cover 48 = .ok (.iconst (-1), 1) := by decide +kernel
theorem dX9_cover_49 : decode cX9_cover 49 = .ok (.ireturn, 1) := by decide +kernel
theorem dX9_cover_50 : decode cX9_cover 50 = .ok (.aload_n 0, 1) := by decide +kernel
theorem dX9_cover_51 : decode cX9_cover 51 = .ok (.getfield 163, 3) := by decide +kernel
theorem dX9_cover_54 : decode cX9_cover 54 = .ok (.bipush 8, 2) := by decide +kernel
theorem dX9_cover_56 : decode cX9_cover 56 = .ok (.if_icmp .ne 6, 3) := by decide +kernel
theorem dX9_cover_59 : decode cX9_cover 59 = .ok (.bipush (-3), 2) := by decide +kernel
theorem dX9_cover_61 : decode cX9_cover 61 = .ok (.ireturn, 1) := by decide +kernel
theorem dX9_cover_62 : decode cX9_cover 62 = .ok (.aload_n 0, 1) := by decide +kernel
theorem dX9_cover_63 : decode cX9_cover 63 = .ok (.getfield 37, 3) := by decide +kernel
theorem dX9_cover_66 : decode cX9_cover 66 = .ok (.iconst 4, 1) := by decide +kernel
theorem dX9_cover_67 : decode cX9_cover 67 = .ok (.aload_n 0, 1) := by decide +kernel
theorem dX9_cover_68 : decode cX9_cover 68 = .ok (.getfield 163, 3) := by decide +kernel
theorem dX9_cover_71 : decode cX9_cover 71 = .ok (.imul, 1) := by decide +kernel
theorem dX9_cover_72 : decode cX9_cover 72 = .ok (.iload_n 1, 1) := by decide +kernel
theorem dX9_cover_73 : decode cX9_cover 73 = .ok (.iastore, 1) := by decide +kernel
theorem dX9_cover_74 : decode cX9_cover 74 = .ok (.aload_n 0, 1) := by decide +kernel
theorem dX9_cover_75 : decode cX9_cover 75 = .ok (.getfield 37, 3) := by decide +kernel
theorem dX9_cover_78 : decode cX9_cover 78 = .ok (.iconst 4, 1) := by decide +kernel
theorem dX9_cover_79 : decode cX9_cover 79 = .ok (.aload_n 0, 1) := by decide +kernel
theorem dX9_cover_80 : decode cX9_cover 80 = .ok (.getfield 163, 3) := by decide +kernel
theorem dX9_cover_83 : decode cX9_cover 83 = .ok (.imul, 1) := by decide +kernel
theorem dX9_cover_84 : decode cX9_cover 84 = .ok (.iconst 1, 1) := by decide +kernel
theorem dX9_cover_85 : decode cX9_cover 85 = .ok (.iadd, 1) := by decide +kernel
theorem dX9_cover_86 : decode cX9_cover 86 = .ok (.iload_n 2, 1) := by decide +kernel
theorem dX9_cover_87 : decode cX9_cover 87 = .ok (.iastore, 1) := by decide +kernel
theorem dX9_cover_88 : decode cX9_cover 88 = .ok (.aload_n 0, 1) := by decide +kernel
theorem dX9_cover_89 : decode cX9_cover 89 = .ok (.getfield 37, 3) := by decide +kernel
theorem dX9_cover_92 : decode cX9_cover 92 = .ok (.iconst 4, 1) := by decide +kernel
theorem dX9_cover_93 : decode cX9_cover 93 = .ok (.aload_n 0, 1) := by decide +kernel
theorem dX9_cover_94 : decode cX9_cover 94 = .ok (.getfield 163, 3) := by decide +kernel
theorem dX9_cover_97 : decode cX9_cover 97 = .ok (.imul, 1) := by decide +kernel
theorem dX9_cover_98 : decode cX9_cover 98 = .ok (.iconst 2, 1) := by decide +kernel
theorem dX9_cover_99 : decode cX9_cover 99 = .ok (.iadd, 1) := by decide +kernel
theorem dX9_cover_100 : decode cX9_cover 100 = .ok (.iload_n 3, 1) := by decide +kernel
theorem dX9_cover_101 : decode cX9_cover 101 = .ok (.iastore, 1) := by decide +kernel
theorem dX9_cover_102 : decode cX9_cover 102 = .ok (.aload_n 0, 1) := by decide +kernel
theorem dX9_cover_103 : decode cX9_cover 103 = .ok (.getfield 37, 3) := by decide +kernel
theorem dX9_cover_106 : decode cX9_cover 106 = .ok (.iconst 4, 1) := by decide +kernel
theorem dX9_cover_107 : decode cX9_cover 107 = .ok (.aload_n 0, 1) := by decide +kernel
theorem dX9_cover_108 : decode cX9_cover 108 = .ok (.getfield 163, 3) := by decide +kernel
theorem dX9_cover_111 : decode cX9_cover 111 = .ok (.imul, 1) := by decide +kernel
theorem dX9_cover_112 : decode cX9_cover 112 = .ok (.iconst 3, 1) := by decide +kernel
theorem dX9_cover_113 : decode cX9_cover 113 = .ok (.iadd, 1) := by decide +kernel
theorem dX9_cover_114 : decode cX9_cover 114 = .ok (.iload 4, 2) := by decide +kernel
theorem dX9_cover_116 : decode cX9_cover 116 = .ok (.iastore, 1) := by decide +kernel
theorem dX9_cover_117 : decode cX9_cover 117 = .ok (.aload_n 0, 1) := by decide +kernel
theorem dX9_cover_118 : decode cX9_cover 118 = .ok (.dup, 1) := by decide +kernel
theorem dX9_cover_119 : decode cX9_cover 119 = .ok (.getfield 163, 3) := by decide +kernel
theorem dX9_cover_122 : decode cX9_cover 122 = .ok (.iconst 1, 1) := by decide +kernel
theorem dX9_cover_123 : decode cX9_cover 123 = .ok (.iadd, 1) := by decide +kernel
theorem dX9_cover_124 : decode cX9_cover 124 = .ok (.putfield 163, 3) := by decide +kernel
theorem dX9_cover_127 : decode cX9_cover 127 = .ok (.aload_n 0, 1) := by decide +kernel
theorem dX9_cover_128 : decode cX9_cover 128 = .ok (.getfield 163, 3) := by decide +kernel
theorem dX9_cover_131 : decode cX9_cover 131 = .ok (.iconst 1, 1) := by decide +kernel
theorem dX9_cover_132 : decode cX9_cover 132 = .ok (.isub, 1) := by decide +kernel
theorem dX9_cover_133 : decode cX9_cover 133 = .ok (.ireturn, 1) := by decide +kernel
theorem dX9_seesWith_0 : decode cX9_seesWith 0 = .ok (.iconst 0, 1) := by decide +kernel
theorem dX9_seesWith_1 : decode cX9_seesWith 1 = .ok (.istore_n 2, 1) := by decide +kernel
theorem dX9_seesWith_2 : decode cX9_seesWith 2 = .ok (.iload_n 2, 1) := by decide +kernel
theorem dX9_seesWith_3 : decode cX9_seesWith 3 = .ok (.bipush 16, 2) := by decide +kernel
theorem dX9_seesWith_5 : decode cX9_seesWith 5 = .ok (.if_icmp .ge 66, 3) := by decide +kernel
theorem dX9_seesWith_8 : decode cX9_seesWith 8 = .ok (.aload_n 0, 1) := by decide +kernel
theorem dX9_seesWith_9 : decode cX9_seesWith 9 = .ok (.getfield 40, 3) := by decide +kernel
theorem dX9_seesWith_12 : decode cX9_seesWith 12 = .ok (.iload_n 2, 1) := by decide +kernel
theorem dX9_seesWith_13 : decode cX9_seesWith 13 = .ok (.aload_n 0, 1) := by decide +kernel
theorem dX9_seesWith_14 : decode cX9_seesWith 14 = .ok (.getfield 7, 3) := by decide +kernel
theorem dX9_seesWith_17 : decode cX9_seesWith 17 = .ok (.iload_n 2, 1) := by decide +kernel
theorem dX9_seesWith_18 : decode cX9_seesWith 18 = .ok (.iaload, 1) := by decide +kernel
theorem dX9_seesWith_19 : decode cX9_seesWith 19 = .ok (.iastore, 1) := by decide +kernel
theorem dX9_seesWith_20 : decode cX9_seesWith 20 = .ok (.aload_n 0, 1) := by decide +kernel
theorem dX9_seesWith_21 : decode cX9_seesWith 21 = .ok (.getfield 40, 3) := by decide +kernel
theorem dX9_seesWith_24 : decode cX9_seesWith 24 = .ok (.bipush 16, 2) := by decide +kernel
theorem dX9_seesWith_26 : decode cX9_seesWith 26 = .ok (.iload_n 2, 1) := by decide +kernel
theorem dX9_seesWith_27 : decode cX9_seesWith 27 = .ok (.iadd, 1) := by decide +kernel
theorem dX9_seesWith_28 : decode cX9_seesWith 28 = .ok (.aload_n 0, 1) := by decide +kernel
theorem dX9_seesWith_29 : decode cX9_seesWith 29 = .ok (.getfield 16, 3) := by decide +kernel
theorem dX9_seesWith_32 : decode cX9_seesWith 32 = .ok (.iload_n 2, 1) := by decide +kernel
theorem dX9_seesWith_33 : decode cX9_seesWith 33 = .ok (.iaload, 1) := by decide +kernel
theorem dX9_seesWith_34 : decode cX9_seesWith 34 = .ok (.iastore, 1) := by decide +kernel
theorem dX9_seesWith_35 : decode cX9_seesWith 35 = .ok (.aload_n 0, 1) := by decide +kernel
theorem dX9_seesWith_36 : decode cX9_seesWith 36 = .ok (.getfield 40, 3) := by decide +kernel
theorem dX9_seesWith_39 : decode cX9_seesWith 39 = .ok (.bipush 32, 2) := by decide +kernel
theorem dX9_seesWith_41 : decode cX9_seesWith 41 = .ok (.iload_n 2, 1) := by decide +kernel
theorem dX9_seesWith_42 : decode cX9_seesWith 42 = .ok (.iadd, 1) := by decide +kernel
theorem dX9_seesWith_43 : decode cX9_seesWith 43 = .ok (.aload_n 0, 1) := by decide +kernel
theorem dX9_seesWith_44 : decode cX9_seesWith 44 = .ok (.getfield 19, 3) := by decide +kernel
theorem dX9_seesWith_47 : decode cX9_seesWith 47 = .ok (.iload_n 2, 1) := by decide +kernel
theorem dX9_seesWith_48 : decode cX9_seesWith 48 = .ok (.iaload, 1) := by decide +kernel
theorem dX9_seesWith_49 : decode cX9_seesWith 49 = .ok (.iastore, 1) := by decide +kernel
theorem dX9_seesWith_50 : decode cX9_seesWith 50 = .ok (.aload_n 0, 1) := by decide +kernel
theorem dX9_seesWith_51 : decode cX9_seesWith 51 = .ok (.getfield 40, 3) := by decide +kernel
theorem dX9_seesWith_54 : decode cX9_seesWith 54 = .ok (.bipush 48, 2) := by decide +kernel
theorem dX9_seesWith_56 : decode cX9_seesWith 56 = .ok (.iload_n 2, 1) := by decide +kernel
theorem dX9_seesWith_57 : decode cX9_seesWith 57 = .ok (.iadd, 1) := by decide +kernel
theorem dX9_seesWith_58 : decode cX9_seesWith 58 = .ok (.aload_n 0, 1) := by decide +kernel
theorem dX9_seesWith_59 : decode cX9_seesWith 59 = .ok (.getfield 22, 3) := by decide +kernel
theorem dX9_seesWith_62 : decode cX9_seesWith 62 = .ok (.iload_n 2, 1) := by decide +kernel
theorem dX9_seesWith_63 : decode cX9_seesWith 63 = .ok (.iaload, 1) := by decide +kernel
theorem dX9_seesWith_64 : decode cX9_seesWith 64 = .ok (.iastore, 1) := by decide +kernel
theorem dX9_seesWith_65 : decode cX9_seesWith 65 = .ok (.iinc 2 1, 3) := by decide +kernel
theorem dX9_seesWith_68 : decode cX9_seesWith 68 = .ok (.goto (-66), 3) := by decide +kernel
theorem dX9_seesWith_71 : decode cX9_seesWith 71 = .ok (.iconst 0, 1) := by decide +kernel
theorem dX9_seesWith_72 : decode cX9_seesWith 72 = .ok (.istore_n 2, 1) := by decide +kernel
theorem dX9_seesWith_73 : decode cX9_seesWith 73 = .ok (.iload_n 2, 1) := by decide +kernel
theorem dX9_seesWith_74 : decode cX9_seesWith 74 = .ok (.aload_n 0, 1) := by decide +kernel
theorem dX9_seesWith_75 : decode cX9_seesWith 75 = .ok (.getfield 163, 3) := by decide +kernel
theorem dX9_seesWith_78 : decode cX9_seesWith 78 = .ok (.if_icmp .ge 152, 3) := by decide +kernel
theorem dX9_seesWith_81 : decode cX9_seesWith 81 = .ok (.aload_n 0, 1) := by decide +kernel
theorem dX9_seesWith_82 : decode cX9_seesWith 82 = .ok (.getfield 37, 3) := by decide +kernel
theorem dX9_seesWith_85 : decode cX9_seesWith 85 = .ok (.iconst 4, 1) := by decide +kernel
theorem dX9_seesWith_86 : decode cX9_seesWith 86 = .ok (.iload_n 2, 1) := by decide +kernel
theorem dX9_seesWith_87 : decode cX9_seesWith 87 = .ok (.imul, 1) := by decide +kernel
theorem dX9_seesWith_88 : decode cX9_seesWith 88 = .ok (.iaload, 1) := by decide +kernel
theorem dX9_seesWith_89 : decode cX9_seesWith 89 = .ok (.istore_n 3, 1) := by decide +kernel
theorem dX9_seesWith_90 : decode cX9_seesWith 90 = .ok (.iload_n 1, 1) := by decide +kernel
theorem dX9_seesWith_91 : decode cX9_seesWith 91 = .ok (.iload_n 2, 1) := by decide +kernel
theorem dX9_seesWith_92 : decode cX9_seesWith 92 = .ok (.ishr, 1) := by decide +kernel
theorem dX9_seesWith_93 : decode cX9_seesWith 93 = .ok (.iconst 1, 1) := by decide +kernel
theorem dX9_seesWith_94 : decode cX9_seesWith 94 = .ok (.iand, 1) := by decide +kernel
theorem dX9_seesWith_95 : decode cX9_seesWith 95 = .ok (.iconst 1, 1) := by decide +kernel
theorem dX9_seesWith_96 : decode cX9_seesWith 96 = .ok (.if_icmp .ne 16, 3) := by decide +kernel
theorem dX9_seesWith_99 : decode cX9_seesWith 99 = .ok (.aload_n 0, 1) := by decide +kernel
theorem dX9_seesWith_100 : decode cX9_seesWith 100 = .ok (.getfield 37, 3) := by decide +kernel
theorem dX9_seesWith_103 : decode cX9_seesWith 103 = .ok (.iconst 4, 1) := by decide +kernel
theorem dX9_seesWith_104 : decode cX9_seesWith 104 = .ok (.iload_n 2, 1) := by decide +kernel
theorem dX9_seesWith_105 : decode cX9_seesWith 105 = .ok (.imul, 1) := by decide +kernel
theorem dX9_seesWith_106 : decode cX9_seesWith 106 = .ok (.iconst 1, 1) := by decide +kernel
theorem dX9_seesWith_107 : decode cX9_seesWith 107 = .ok (.iadd, 1) := by decide +kernel
theorem dX9_seesWith_108 : decode cX9_seesWith 108 = .ok (.iaload, 1) := by decide +kernel
theorem dX9_seesWith_109 : decode cX9_seesWith 109 = .ok (.goto 5, 3) := by decide +kernel
theorem dX9_seesWith_112 : decode cX9_seesWith 112 = .ok (.bipush (-4), 2) := by decide +kernel
theorem dX9_seesWith_114 : decode cX9_seesWith 114 = .ok (.istore 4, 2) := by decide +kernel
theorem dX9_seesWith_116 : decode cX9_seesWith 116 = .ok (.aload_n 0, 1) := by decide +kernel
theorem dX9_seesWith_117 : decode cX9_seesWith 117 = .ok (.getfield 37, 3) := by decide +kernel
theorem dX9_seesWith_120 : decode cX9_seesWith 120 = .ok (.iconst 4, 1) := by decide +kernel
theorem dX9_seesWith_121 : decode cX9_seesWith 121 = .ok (.iload_n 2, 1) := by decide +kernel
theorem dX9_seesWith_122 : decode cX9_seesWith 122 = .ok (.imul, 1) := by decide +kernel
theorem dX9_seesWith_123 : decode cX9_seesWith 123 = .ok (.iconst 2, 1) := by decide +kernel
theorem dX9_seesWith_124 : decode cX9_seesWith 124 = .ok (.iadd, 1) := by decide +kernel
theorem dX9_seesWith_125 : decode cX9_seesWith 125 = .ok (.iaload, 1) := by decide +kernel
theorem dX9_seesWith_126 : decode cX9_seesWith 126 = .ok (.istore 5, 2) := by decide +kernel
theorem dX9_seesWith_128 : decode cX9_seesWith 128 = .ok (.aload_n 0, 1) := by decide +kernel
theorem dX9_seesWith_129 : decode cX9_seesWith 129 = .ok (.getfield 7, 3) := by decide +kernel
theorem dX9_seesWith_132 : decode cX9_seesWith 132 = .ok (.iload_n 3, 1) := by decide +kernel
theorem dX9_seesWith_133 : decode cX9_seesWith 133 = .ok (.iload 4, 2) := by decide +kernel
theorem dX9_seesWith_135 : decode cX9_seesWith 135 = .ok (.ifCond .ne 14, 3) := by decide +kernel
theorem dX9_seesWith_138 : decode cX9_seesWith 138 = .ok (.bipush 10, 2) := by decide +kernel
theorem dX9_seesWith_140 : decode cX9_seesWith 140 = .ok (.iload 5, 2) := by decide +kernel
theorem dX9_seesWith_142 : decode cX9_seesWith 142 = .ok (.imul, 1) := by decide +kernel
theorem dX9_seesWith_143 : decode cX9_seesWith 143 = .ok (.bipush 6, 2) := by decide +kernel
theorem dX9_seesWith_145 : decode cX9_seesWith 145 = .ok (.iadd, 1) := by decide +kernel
theorem dX9_seesWith_146 : decode cX9_seesWith 146 = .ok (.goto 9, 3) := by decide +kernel
theorem dX9_seesWith_149 : decode cX9_seesWith 149 = .ok (.aload_n 0, 1) := by decide +kernel
theorem dX9_seesWith_150 : decode cX9_seesWith 150 = .ok (.getfield 7, 3) := by decide +kernel
theorem dX9_seesWith_153 : decode cX9_seesWith 153 = .ok (.iload_n 3, 1) := by decide +kernel
theorem dX9_seesWith_154 : decode cX9_seesWith 154 = .ok (.iaload, 1) := by decide +kernel
theorem dX9_seesWith_155 : decode cX9_seesWith 155 = .ok (.iastore, 1) := by decide +kernel
theorem dX9_seesWith_156 : decode cX9_seesWith 156 = .ok (.aload_n 0, 1) := by decide +kernel
theorem dX9_seesWith_157 : decode cX9_seesWith 157 = .ok (.getfield 16, 3) := by decide +kernel
theorem dX9_seesWith_160 : decode cX9_seesWith 160 = .ok (.iload_n 3, 1) := by decide +kernel
theorem dX9_seesWith_161 : decode cX9_seesWith 161 = .ok (.iload 4, 2) := by decide +kernel
theorem dX9_seesWith_163 : decode cX9_seesWith 163 = .ok (.iconst 1, 1) := by decide +kernel
theorem dX9_seesWith_164 : decode cX9_seesWith 164 = .ok (.if_icmp .ne 8, 3) := by decide +kernel
theorem dX9_seesWith_167 : decode cX9_seesWith 167 = .ok (.iload 5, 2) := by decide +kernel
theorem dX9_seesWith_169 : decode cX9_seesWith 169 = .ok (.goto 9, 3) := by decide +kernel
theorem dX9_seesWith_172 : decode cX9_seesWith 172 = .ok (.aload_n 0, 1) := by decide +kernel
theorem dX9_seesWith_173 : decode cX9_seesWith 173 = .ok (.getfield 16, 3) := by decide +kernel
theorem dX9_seesWith_176 : decode cX9_seesWith 176 = .ok (.iload_n 3, 1) := by decide +kernel
theorem dX9_seesWith_177 : decode cX9_seesWith 177 = .ok (.iaload, 1) := by decide +kernel
theorem dX9_seesWith_178 : decode cX9_seesWith 178 = .ok (.iastore, 1) := by decide +kernel
theorem dX9_seesWith_179 : decode cX9_seesWith 179 = .ok (.aload_n 0, 1) := by decide +kernel
theorem dX9_seesWith_180 : decode cX9_seesWith 180 = .ok (.getfield 19, 3) := by decide +kernel
theorem dX9_seesWith_183 : decode cX9_seesWith 183 = .ok (.iload_n 3, 1) := by decide +kernel
theorem dX9_seesWith_184 : decode cX9_seesWith 184 = .ok (.iload 4, 2) := by decide +kernel
theorem dX9_seesWith_186 : decode cX9_seesWith 186 = .ok (.iconst 2, 1) := by decide +kernel
theorem dX9_seesWith_187 : decode cX9_seesWith 187 = .ok (.if_icmp .ne 8, 3) := by decide +kernel
theorem dX9_seesWith_190 : decode cX9_seesWith 190 = .ok (.iload 5, 2) := by decide +kernel
theorem dX9_seesWith_192 : decode cX9_seesWith 192 = .ok (.goto 9, 3) := by decide +kernel
theorem dX9_seesWith_195 : decode cX9_seesWith 195 = .ok (.aload_n 0, 1) := by decide +kernel
theorem dX9_seesWith_196 : decode cX9_seesWith 196 = .ok (.getfield 19, 3) := by decide +kernel
theorem dX9_seesWith_199 : decode cX9_seesWith 199 = .ok (.iload_n 3, 1) := by decide +kernel
theorem dX9_seesWith_200 : decode cX9_seesWith 200 = .ok (.iaload, 1) := by decide +kernel
theorem dX9_seesWith_201 : decode cX9_seesWith 201 = .ok (.iastore, 1) := by decide +kernel
theorem dX9_seesWith_202 : decode cX9_seesWith 202 = .ok (.aload_n 0, 1) := by decide +kernel
theorem dX9_seesWith_203 : decode cX9_seesWith 203 = .ok (.getfield 22, 3) := by decide +kernel
theorem dX9_seesWith_206 : decode cX9_seesWith 206 = .ok (.iload_n 3, 1) := by decide +kernel
theorem dX9_seesWith_207 : decode cX9_seesWith 207 = .ok (.iload 4, 2) := by decide +kernel
theorem dX9_seesWith_209 : decode cX9_seesWith 209 = .ok (.iconst 3, 1) := by decide +kernel
theorem dX9_seesWith_210 : decode cX9_seesWith 210 = .ok (.if_icmp .ne 7, 3) := by decide +kernel
theorem dX9_seesWith_213 : decode cX9_seesWith 213 = .ok (.iconst 1, 1) := by decide +kernel
theorem dX9_seesWith_214 : decode cX9_seesWith 214 = .ok (.goto 9, 3) := by decide +kernel
theorem dX9_seesWith_217 : decode cX9_seesWith 217 = .ok (.aload_n 0, 1) := by decide +kernel
theorem dX9_seesWith_218 : decode cX9_seesWith 218 = .ok (.getfield 22, 3) := by decide +kernel
theorem dX9_seesWith_221 : decode cX9_seesWith 221 = .ok (.iload_n 3, 1) := by decide +kernel
theorem dX9_seesWith_222 : decode cX9_seesWith 222 = .ok (.iaload, 1) := by decide +kernel
theorem dX9_seesWith_223 : decode cX9_seesWith 223 = .ok (.iastore, 1) := by decide +kernel
theorem dX9_seesWith_224 : decode cX9_seesWith 224 = .ok (.iinc 2 1, 3) := by decide +kernel
theorem dX9_seesWith_227 : decode cX9_seesWith 227 = .ok (.goto (-154), 3) := by decide +kernel
theorem dX9_seesWith_230 : decode cX9_seesWith 230 = .ok (.aload_n 0, 1) := by decide +kernel
theorem dX9_seesWith_231 : decode cX9_seesWith 231 = .ok (.iconst 1, 1) := by decide +kernel
theorem dX9_seesWith_232 : decode cX9_seesWith 232 = .ok (.invokevirtual 195, 3) := by decide +kernel
theorem dX9_seesWith_235 : decode cX9_seesWith 235 = .ok (.istore_n 2, 1) := by decide +kernel
theorem dX9_seesWith_236 : decode cX9_seesWith 236 = .ok (.iconst 0, 1) := by decide +kernel
theorem dX9_seesWith_237 : decode cX9_seesWith 237 = .ok (.istore_n 3, 1) := by decide +kernel
theorem dX9_seesWith_238 : decode cX9_seesWith 238 = .ok (.iload_n 3, 1) := by decide +kernel
theorem dX9_seesWith_239 : decode cX9_seesWith 239 = .ok (.bipush 16, 2) := by decide +kernel
theorem dX9_seesWith_241 : decode cX9_seesWith 241 = .ok (.if_icmp .ge 66, 3) := by decide +kernel
theorem dX9_seesWith_244 : decode cX9_seesWith 244 = .ok (.aload_n 0, 1) := by decide +kernel
theorem dX9_seesWith_245 : decode cX9_seesWith 245 = .ok (.getfield 7, 3) := by decide +kernel
theorem dX9_seesWith_248 : decode cX9_seesWith 248 = .ok (.iload_n 3, 1) := by decide +kernel
theorem dX9_seesWith_249 : decode cX9_seesWith 249 = .ok (.aload_n 0, 1) := by decide +kernel
theorem dX9_seesWith_250 : decode cX9_seesWith 250 = .ok (.getfield 40, 3) := by decide +kernel
theorem dX9_seesWith_253 : decode cX9_seesWith 253 = .ok (.iload_n 3, 1) := by decide +kernel
theorem dX9_seesWith_254 : decode cX9_seesWith 254 = .ok (.iaload, 1) := by decide +kernel
theorem dX9_seesWith_255 : decode cX9_seesWith 255 = .ok (.iastore, 1) := by decide +kernel
theorem dX9_seesWith_256 : decode cX9_seesWith 256 = .ok (.aload_n 0, 1) := by decide +kernel
theorem dX9_seesWith_257 : decode cX9_seesWith 257 = .ok (.getfield 16, 3) := by decide +kernel
theorem dX9_seesWith_260 : decode cX9_seesWith 260 = .ok (.iload_n 3, 1) := by decide +kernel
theorem dX9_seesWith_261 : decode cX9_seesWith 261 = .ok (.aload_n 0, 1) := by decide +kernel
theorem dX9_seesWith_262 : decode cX9_seesWith 262 = .ok (.getfield 40, 3) := by decide +kernel
theorem dX9_seesWith_265 : decode cX9_seesWith 265 = .ok (.bipush 16, 2) := by decide +kernel
theorem dX9_seesWith_267 : decode cX9_seesWith 267 = .ok (.iload_n 3, 1) := by decide +kernel
theorem dX9_seesWith_268 : decode cX9_seesWith 268 = .ok (.iadd, 1) := by decide +kernel
theorem dX9_seesWith_269 : decode cX9_seesWith 269 = .ok (.iaload, 1) := by decide +kernel
theorem dX9_seesWith_270 : decode cX9_seesWith 270 = .ok (.iastore, 1) := by decide +kernel
theorem dX9_seesWith_271 : decode cX9_seesWith 271 = .ok (.aload_n 0, 1) := by decide +kernel
theorem dX9_seesWith_272 : decode cX9_seesWith 272 = .ok (.getfield 19, 3) := by decide +kernel
theorem dX9_seesWith_275 : decode cX9_seesWith 275 = .ok (.iload_n 3, 1) := by decide +kernel
theorem dX9_seesWith_276 : decode cX9_seesWith 276 = .ok (.aload_n 0, 1) := by decide +kernel
theorem dX9_seesWith_277 : decode cX9_seesWith 277 = .ok (.getfield 40, 3) := by decide +kernel
theorem dX9_seesWith_280 : decode cX9_seesWith 280 = .ok (.bipush 32, 2) := by decide +kernel
theorem dX9_seesWith_282 : decode cX9_seesWith 282 = .ok (.iload_n 3, 1) := by decide +kernel
theorem dX9_seesWith_283 : decode cX9_seesWith 283 = .ok (.iadd, 1) := by decide +kernel
theorem dX9_seesWith_284 : decode cX9_seesWith 284 = .ok (.iaload, 1) := by decide +kernel
theorem dX9_seesWith_285 : decode cX9_seesWith 285 = .ok (.iastore, 1) := by decide +kernel
theorem dX9_seesWith_286 : decode cX9_seesWith 286 = .ok (.aload_n 0, 1) := by decide +kernel
theorem dX9_seesWith_287 : decode cX9_seesWith 287 = .ok (.getfield 22, 3) := by decide +kernel
theorem dX9_seesWith_290 : decode cX9_seesWith 290 = .ok (.iload_n 3, 1) := by decide +kernel
theorem dX9_seesWith_291 : decode cX9_seesWith 291 = .ok (.aload_n 0, 1) := by decide +kernel
theorem dX9_seesWith_292 : decode cX9_seesWith 292 = .ok (.getfield 40, 3) := by decide +kernel
theorem dX9_seesWith_295 : decode cX9_seesWith 295 = .ok (.bipush 48, 2) := by decide +kernel
theorem dX9_seesWith_297 : decode cX9_seesWith 297 = .ok (.iload_n 3, 1) := by decide +kernel
theorem dX9_seesWith_298 : decode cX9_seesWith 298 = .ok (.iadd, 1) := by decide +kernel
theorem dX9_seesWith_299 : decode cX9_seesWith 299 = .ok (.iaload, 1) := by decide +kernel
theorem dX9_seesWith_300 : decode cX9_seesWith 300 = .ok (.iastore, 1) := by decide +kernel
theorem dX9_seesWith_301 : decode cX9_seesWith 301 = .ok (.iinc 3 1, 3) := by decide +kernel
theorem dX9_seesWith_304 : decode cX9_seesWith 304 = .ok (.goto (-66), 3) := by decide +kernel
theorem dX9_seesWith_307 : decode cX9_seesWith 307 = .ok (.iload_n 2, 1) := by decide +kernel
theorem dX9_seesWith_308 : decode cX9_seesWith 308 = .ok (.ireturn, 1) := by decide +kernel
theorem dX9_does_0 : decode cX9_does 0 = .ok (.iload_n 1, 1) := by decide +kernel
theorem dX9_does_1 : decode cX9_does 1 = .ok (.i2l, 1) := by decide +kernel
theorem dX9_does_2 : decode cX9_does 2 = .ok (.lconst 0, 1) := by decide +kernel
theorem dX9_does_3 : decode cX9_does 3 = .ok (.aload_n 0, 1) := by decide +kernel
theorem dX9_does_4 : decode cX9_does 4 = .ok (.getfield 163, 3) := by decide +kernel
theorem dX9_does_7 : decode cX9_does 7 = .ok (.iconst 1, 1) := by decide +kernel
theorem dX9_does_8 : decode cX9_does 8 = .ok (.isub, 1) := by decide +kernel
theorem dX9_does_9 : decode cX9_does 9 = .ok (.i2l, 1) := by decide +kernel
theorem dX9_does_10 : decode cX9_does 10 = .ok (.invokestatic 70, 3) := by decide +kernel
theorem dX9_does_13 : decode cX9_does 13 = .ok (.ifCond .eq 13, 3) := by decide +kernel
theorem dX9_does_16 : decode cX9_does 16 = .ok (.iload_n 2, 1) := by decide +kernel
theorem dX9_does_17 : decode cX9_does 17 = .ok (.i2l, 1) := by decide +kernel
theorem dX9_does_18 : decode cX9_does 18 = .ok (.lconst 0, 1) := by decide +kernel
theorem dX9_does_19 : decode cX9_does 19 = .ok (.lconst 1, 1) := by decide +kernel
theorem dX9_does_20 : decode cX9_does 20 = .ok (.invokestatic 70, 3) := by decide +kernel
theorem dX9_does_23 : decode cX9_does 23 = .ok (.ifCond .ne 6, 3) := by decide +kernel
theorem dX9_does_26 : decode cX9_does 26 = .ok (.ldc 200, 2) := by decide +kernel
theorem dX9_does_28 : decode cX9_does 28 = .ok (.ireturn, 1) := by decide +kernel
theorem dX9_does_29 : decode cX9_does 29 = .ok (.iconst 1, 1) := by decide +kernel
theorem dX9_does_30 : decode cX9_does 30 = .ok (.aload_n 0, 1) := by decide +kernel
theorem dX9_does_31 : decode cX9_does 31 = .ok (.getfield 163, 3) := by decide +kernel
theorem dX9_does_34 : decode cX9_does 34 = .ok (.ishl, 1) := by decide +kernel
theorem dX9_does_35 : decode cX9_does 35 = .ok (.iconst 1, 1) := by decide +kernel
theorem dX9_does_36 : decode cX9_does 36 = .ok (.isub, 1) := by decide +kernel
theorem dX9_does_37 : decode cX9_does 37 = .ok (.istore_n 3, 1) := by decide +kernel
theorem dX9_does_38 : decode cX9_does 38 = .ok (.iconst 1, 1) := by decide +kernel
theorem dX9_does_39 : decode cX9_does 39 = .ok (.iload_n 1, 1) := by decide +kernel
theorem dX9_does_40 : decode cX9_does 40 = .ok (.ishl, 1) := by decide +kernel
theorem dX9_does_41 : decode cX9_does 41 = .ok (.istore 4, 2) := by decide +kernel
theorem dX9_does_43 : decode cX9_does 43 = .ok (.iload_n 2, 1) := by decide +kernel
theorem dX9_does_44 : decode cX9_does 44 = .ok (.ifCond .ne 18, 3) := by decide +kernel
theorem dX9_does_47 : decode cX9_does 47 = .ok (.aload_n 0, 1) := by decide +kernel
theorem dX9_does_48 : decode cX9_does 48 = .ok (.iconst 0, 1) := by decide +kernel
theorem dX9_does_49 : decode cX9_does 49 = .ok (.invokevirtual 201, 3) := by decide +kernel
theorem dX9_does_52 : decode cX9_does 52 = .ok (.aload_n 0, 1) := by decide +kernel
theorem dX9_does_53 : decode cX9_does 53 = .ok (.iload 4, 2) := by decide +kernel
theorem dX9_does_55 : decode cX9_does 55 = .ok (.invokevirtual 201, 3) := by decide +kernel
theorem dX9_does_58 : decode cX9_does 58 = .ok (.isub, 1) := by decide +kernel
theorem dX9_does_59 : decode cX9_does 59 = .ok (.goto 19, 3) := by decide +kernel
theorem dX9_does_62 : decode cX9_does 62 = .ok (.aload_n 0, 1) := by decide +kernel
theorem dX9_does_63 : decode cX9_does 63 = .ok (.iload_n 3, 1) := by decide +kernel
theorem dX9_does_64 : decode cX9_does 64 = .ok (.iload 4, 2) := by decide +kernel
theorem dX9_does_66 : decode cX9_does 66 = .ok (.iconst (-1), 1) := by decide +kernel
theorem dX9_does_67 : decode cX9_does 67 = .ok (.ixor, 1) := by decide +kernel
theorem dX9_does_68 : decode cX9_does 68 = .ok (.iand, 1) := by decide +kernel
theorem dX9_does_69 : decode cX9_does 69 = .ok (.invokevirtual 201, 3) := by decide +kernel
theorem dX9_does_72 : decode cX9_does 72 = .ok (.aload_n 0, 1) := by decide +kernel
theorem dX9_does_73 : decode cX9_does 73 = .ok (.iload_n 3, 1) := by decide +kernel
theorem dX9_does_74 : decode cX9_does 74 = .ok (.invokevirtual 201, 3) := by decide +kernel
theorem dX9_does_77 : decode cX9_does 77 = .ok (.isub, 1) := by decide +kernel
theorem dX9_does_78 : decode cX9_does 78 = .ok (.ireturn, 1) := by decide +kernel
theorem dX9_bought_0 : decode cX9_bought 0 = .ok (.iload_n 1, 1) := by decide +kernel
theorem dX9_bought_1 : decode cX9_bought 1 = .ok (.i2l, 1) := by decide +kernel
theorem dX9_bought_2 : decode cX9_bought 2 = .ok (.lconst 0, 1) := by decide +kernel
theorem dX9_bought_3 : decode cX9_bought 3 = .ok (.ldc2_w 204, 3) := by decide +kernel
theorem dX9_bought_6 : decode cX9_bought 6 = .ok (.invokestatic 70, 3) := by decide +kernel
theorem dX9_bought_9 : decode cX9_bought 9 = .ok (.ifCond .eq 15, 3) := by decide +kernel
theorem dX9_bought_12 : decode cX9_bought 12 = .ok (.iload_n 2, 1) := by decide +kernel
theorem dX9_bought_13 : decode cX9_bought 13 = .ok (.i2l, 1) := by decide +kernel
theorem dX9_bought_14 : decode cX9_bought 14 = .ok (.lconst 0, 1) := by decide +kernel
theorem dX9_bought_15 : decode cX9_bought 15 = .ok (.ldc2_w 88, 3) := by decide +kernel
theorem dX9_bought_18 : decode cX9_bought 18 = .ok (.invokestatic 70, 3) := by decide +kernel
theorem dX9_bought_21 : decode cX9_bought 21 = .ok (.ifCond .ne 5, 3) := by decide +kernel
theorem dX9_bought_24 : decode cX9_bought 24 = .ok (.iconst (-1), 1) := by decide +kernel
theorem dX9_bought_25 : decode cX9_bought 25 = .ok (.ireturn, 1) := by decide +kernel
theorem dX9_bought_26 : decode cX9_bought 26 = .ok (.iconst 0, 1) := by decide +kernel
theorem dX9_bought_27 : decode cX9_bought 27 = .ok (.istore_n 3, 1) := by decide +kernel
theorem dX9_bought_28 : decode cX9_bought 28 = .ok (.iconst 0, 1) := by decide +kernel
theorem dX9_bought_29 : decode cX9_bought 29 = .ok (.istore 4, 2) := by decide +kernel
theorem dX9_bought_31 : decode cX9_bought 31 = .ok (.iconst 0, 1) := by decide +kernel
theorem dX9_bought_32 : decode cX9_bought 32 = .ok (.istore 5, 2) := by decide +kernel
theorem dX9_bought_34 : decode cX9_bought 34 = .ok (.iconst 0, 1) := by decide +kernel
theorem dX9_bought_35 : decode cX9_bought 35 = .ok (.istore 6, 2) := by decide +kernel
theorem dX9_bought_37 : decode cX9_bought 37 = .ok (.iload 6, 2) := by decide +kernel
theorem dX9_bought_39 : decode cX9_bought 39 = .ok (.iconst 1, 1) := by decide +kernel
theorem dX9_bought_40 : decode cX9_bought 40 = .ok (.aload_n 0, 1) := by decide +kernel
theorem dX9_bought_41 : decode cX9_bought 41 = .ok (.getfield 163, 3) := by decide +kernel
theorem dX9_bought_44 : decode cX9_bought 44 = .ok (.ishl, 1) := by decide +kernel
theorem dX9_bought_45 : decode cX9_bought 45 = .ok (.if_icmp .ge 122, 3) := by decide +kernel
theorem dX9_bought_48 : decode cX9_bought 48 = .ok (.iconst 0, 1) := by decide +kernel
theorem dX9_bought_49 : decode cX9_bought 49 = .ok (.istore 7, 2) := by decide +kernel
theorem dX9_bought_51 : decode cX9_bought 51 = .ok (.iconst 0, 1) := by decide +kernel
theorem dX9_bought_52 : decode cX9_bought 52 = .ok (.istore 8, 2) := by decide +kernel
theorem dX9_bought_54 : decode cX9_bought 54 = .ok (.iload 8, 2) := by decide +kernel
theorem dX9_bought_56 : decode cX9_bought 56 = .ok (.aload_n 0, 1) := by decide +kernel
theorem dX9_bought_57 : decode cX9_bought 57 = .ok (.getfield 163, 3) := by decide +kernel
theorem dX9_bought_60 : decode cX9_bought 60 = .ok (.if_icmp .ge 40, 3) := by decide +kernel
theorem dX9_bought_63 : decode cX9_bought 63 = .ok (.iload 7, 2) := by decide +kernel
theorem dX9_bought_65 : decode cX9_bought 65 = .ok (.iload 6, 2) := by decide +kernel
theorem dX9_bought_67 : decode cX9_bought 67 = .ok (.iload 8, 2) := by decide +kernel
theorem dX9_bought_69 : decode cX9_bought 69 = .ok (.ishr, 1) := by decide +kernel
theorem dX9_bought_70 : decode cX9_bought 70 = .ok (.iconst 1, 1) := by decide +kernel
theorem dX9_bought_71 : decode cX9_bought 71 = .ok (.iand, 1) := by decide +kernel
theorem dX9_bought_72 : decode cX9_bought 72 = .ok (.iconst 1, 1) := by decide +kernel
theorem dX9_bought_73 : decode cX9_bought 73 = .ok (.if_icmp .ne 17, 3) := by decide +kernel
theorem dX9_bought_76 : decode cX9_bought 76 = .ok (.aload_n 0, 1) := by decide +kernel
theorem dX9_bought_77 : decode cX9_bought 77 = .ok (.getfield 37, 3) := by decide +kernel
theorem dX9_bought_80 : decode cX9_bought 80 = .ok (.iconst 4, 1) := by decide +kernel
theorem dX9_bought_81 : decode cX9_bought 81 = .ok (.iload 8, 2) := by decide +kernel
theorem dX9_bought_83 : decode cX9_bought 83 = .ok (.imul, 1) := by decide +kernel
theorem dX9_bought_84 : decode cX9_bought 84 = .ok (.iconst 3, 1) := by decide +kernel
theorem dX9_bought_85 : decode cX9_bought 85 = .ok (.iadd, 1) := by decide +kernel
theorem dX9_bought_86 : decode cX9_bought 86 = .ok (.iaload, 1) := by decide +kernel
theorem dX9_bought_87 : decode cX9_bought 87 = .ok (.goto 4, 3) := by decide +kernel
theorem dX9_bought_90 : decode cX9_bought 90 = .ok (.iconst 0, 1) := by decide +kernel
theorem dX9_bought_91 : decode cX9_bought 91 = .ok (.iadd, 1) := by decide +kernel
theorem dX9_bought_92 : decode cX9_bought 92 = .ok (.istore 7, 2) := by decide +kernel
theorem dX9_bought_94 : decode cX9_bought 94 = .ok (.iinc 8 1, 3) := by decide +kernel
theorem dX9_bought_97 : decode cX9_bought 97 = .ok (.goto (-43), 3) := by decide +kernel
theorem dX9_bought_100 : decode cX9_bought 100 = .ok (.iload 7, 2) := by decide +kernel
theorem dX9_bought_102 : decode cX9_bought 102 = .ok (.iload_n 1, 1) := by decide +kernel
theorem dX9_bought_103 : decode cX9_bought 103 = .ok (.if_icmp .le 7, 3) := by decide +kernel
theorem dX9_bought_106 : decode cX9_bought 106 = .ok (.iconst 0, 1) := by decide +kernel
theorem dX9_bought_107 : decode cX9_bought 107 = .ok (.goto 9, 3) := by decide +kernel
theorem dX9_bought_110 : decode cX9_bought 110 = .ok (.aload_n 0, 1) := by decide +kernel
theorem dX9_bought_111 : decode cX9_bought 111 = .ok (.iload 6, 2) := by decide +kernel
theorem dX9_bought_113 : decode cX9_bought 113 = .ok (.invokevirtual 201, 3) := by decide +kernel
theorem dX9_bought_116 : decode cX9_bought 116 = .ok (.istore 8, 2) := by decide +kernel
theorem dX9_bought_118 : decode cX9_bought 118 = .ok (.iload 7, 2) := by decide +kernel
theorem dX9_bought_120 : decode cX9_bought 120 = .ok (.iload_n 1, 1) := by decide +kernel
theorem dX9_bought_121 : decode cX9_bought 121 = .ok (.if_icmp .gt 40, 3) := by decide +kernel
theorem dX9_bought_124 : decode cX9_bought 124 = .ok (.iload 6, 2) := by decide +kernel
theorem dX9_bought_126 : decode cX9_bought 126 = .ok (.ifCond .eq 24, 3) := by decide +kernel
theorem dX9_bought_129 : decode cX9_bought 129 = .ok (.iload 8, 2) := by decide +kernel
theorem dX9_bought_131 : decode cX9_bought 131 = .ok (.iload 4, 2) := by decide +kernel
theorem dX9_bought_133 : decode cX9_bought 133 = .ok (.if_icmp .lt 17, 3) := by decide +kernel
theorem dX9_bought_136 : decode cX9_bought 136 = .ok (.iload 8, 2) := by decide +kernel
theorem dX9_bought_138 : decode cX9_bought 138 = .ok (.iload 4, 2) := by decide +kernel
theorem dX9_bought_140 : decode cX9_bought 140 = .ok (.if_icmp .ne 21, 3) := by decide +kernel
theorem dX9_bought_143 : decode cX9_bought 143 = .ok (.iload 7, 2) := by decide +kernel
theorem dX9_bought_145 : decode cX9_bought 145 = .ok (.iload 5, 2) := by decide +kernel
theorem dX9_bought_147 : decode cX9_bought 147 = .ok (.if_icmp .ge 14, 3) := by decide +kernel
theorem dX9_bought_150 : decode cX9_bought 150 = .ok (.iload 6, 2) := by decide +kernel
theorem dX9_bought_152 : decode cX9_bought 152 = .ok (.istore_n 3, 1) := by decide +kernel
theorem dX9_bought_153 : decode cX9_bought 153 = .ok (.iload 8, 2) := by decide +kernel
theorem dX9_bought_155 : decode cX9_bought 155 = .ok (.istore 4, 2) := by decide +kernel
theorem dX9_bought_157 : decode cX9_bought 157 = .ok (.iload 7, 2) := by decide +kernel
theorem dX9_bought_159 : decode cX9_bought 159 = .ok (.istore 5, 2) := by decide +kernel
theorem dX9_bought_161 : decode cX9_bought 161 = .ok (.iinc 6 1, 3) := by decide +kernel
theorem dX9_bought_164 : decode cX9_bought 164 = .ok (.goto (-127), 3) := by decide +kernel
theorem dX9_bought_167 : decode cX9_bought 167 = .ok (.iload_n 2, 1) := by decide +kernel
theorem dX9_bought_168 : decode cX9_bought 168 = .ok (.ifCond .ne 7, 3) := by decide +kernel
theorem dX9_bought_171 : decode cX9_bought 171 = .ok (.iload_n 3, 1) := by decide +kernel
theorem dX9_bought_172 : decode cX9_bought 172 = .ok (.goto 15, 3) := by decide +kernel
theorem dX9_bought_175 : decode cX9_bought 175 = .ok (.iload_n 2, 1) := by decide +kernel
theorem dX9_bought_176 : decode cX9_bought 176 = .ok (.iconst 1, 1) := by decide +kernel
theorem dX9_bought_177 : decode cX9_bought 177 = .ok (.if_icmp .ne 8, 3) := by decide +kernel
theorem dX9_bought_180 : decode cX9_bought 180 = .ok (.iload 4, 2) := by decide +kernel
theorem dX9_bought_182 : decode cX9_bought 182 = .ok (.goto 5, 3) := by decide +kernel
theorem dX9_bought_185 : decode cX9_bought 185 = .ok (.iload 5, 2) := by decide +kernel
theorem dX9_bought_187 : decode cX9_bought 187 = .ok (.ireturn, 1) := by decide +kernel
theorem dX9_stances_0 : decode cX9_stances 0 = .ok (.iconst 0, 1) := by decide +kernel
theorem dX9_stances_1 : decode cX9_stances 1 = .ok (.istore_n 1, 1) := by decide +kernel
theorem dX9_stances_2 : decode cX9_stances 2 = .ok (.iconst 0, 1) := by decide +kernel
theorem dX9_stances_3 : decode cX9_stances 3 = .ok (.istore_n 2, 1) := by decide +kernel
theorem dX9_stances_4 : decode cX9_stances 4 = .ok (.iload_n 2, 1) := by decide +kernel
theorem dX9_stances_5 : decode cX9_stances 5 = .ok (.iconst 4, 1) := by decide +kernel
theorem dX9_stances_6 : decode cX9_stances 6 = .ok (.if_icmp .ge 106, 3) := by decide +kernel
theorem dX9_stances_9 : decode cX9_stances 9 = .ok (.iconst 1, 1) := by decide +kernel
theorem dX9_stances_10 : decode cX9_stances 10 = .ok (.istore_n 3, 1) := by decide +kernel
theorem dX9_stances_11 : decode cX9_stances 11 = .ok (.iconst 0, 1) := by decide +kernel
theorem dX9_stances_12 : decode cX9_stances 12 = .ok (.istore 4, 2) := by decide +kernel
theorem dX9_stances_14 : decode cX9_stances 14 = .ok (.iload 4, 2) := by decide +kernel
theorem dX9_stances_16 : decode cX9_stances 16 = .ok (.bipush 16, 2) := by decide +kernel
theorem dX9_stances_18 : decode cX9_stances 18 = .ok (.if_icmp .ge 74, 3) := by decide +kernel
theorem dX9_stances_21 : decode cX9_stances 21 = .ok (.iconst 0, 1) := by decide +kernel
theorem dX9_stances_22 : decode cX9_stances 22 = .ok (.istore 5, 2) := by decide +kernel
theorem dX9_stances_24 : decode cX9_stances 24 = .ok (.iload 5, 2) := by decide +kernel
theorem dX9_stances_26 : decode cX9_stances 26 = .ok (.aload_n 0, 1) := by decide +kernel
theorem dX9_stances_27 : decode cX9_stances 27 = .ok (.getfield 76, 3) := by decide +kernel
theorem dX9_stances_30 : decode cX9_stances 30 = .ok (.if_icmp .ge 56, 3) := by decide +kernel
theorem dX9_stances_33 : decode cX9_stances 33 = .ok (.iload_n 3, 1) := by decide +kernel
theorem dX9_stances_34 : decode cX9_stances 34 = .ok (.ifCond .eq 44, 3) := by decide +kernel
theorem dX9_stances_37 : decode cX9_stances 37 = .ok (.aload_n 0, 1) := by decide +kernel
theorem dX9_stances_38 : decode cX9_stances 38 = .ok (.getfield 13, 3) := by decide +kernel
theorem dX9_stances_41 : decode cX9_stances 41 = .ok (.iload 4, 2) := by decide +kernel
theorem dX9_stances_43 : decode cX9_stances 43 = .ok (.iaload, 1) := by decide +kernel
theorem dX9_stances_44 : decode cX9_stances 44 = .ok (.ifCond .eq 30, 3) := by decide +kernel
theorem dX9_stances_47 : decode cX9_stances 47 = .ok (.aload_n 0, 1) := by decide +kernel
theorem dX9_stances_48 : decode cX9_stances 48 = .ok (.aload_n 0, 1) := by decide +kernel
theorem dX9_stances_49 : decode cX9_stances 49 = .ok (.getfield 28, 3) := by decide +kernel
theorem dX9_stances_52 : decode cX9_stances 52 = .ok (.iconst 3, 1) := by decide +kernel
theorem dX9_stances_53 : decode cX9_stances 53 = .ok (.iload 5, 2) := by decide +kernel
theorem dX9_stances_55 : decode cX9_stances 55 = .ok (.imul, 1) := by decide +kernel
theorem dX9_stances_56 : decode cX9_stances 56 = .ok (.iaload, 1) := by decide +kernel
theorem dX9_stances_57 : decode cX9_stances 57 = .ok (.aload_n 0, 1) := by decide +kernel
theorem dX9_stances_58 : decode cX9_stances 58 = .ok (.getfield 13, 3) := by decide +kernel
theorem dX9_stances_61 : decode cX9_stances 61 = .ok (.iload 4, 2) := by decide +kernel
theorem dX9_stances_63 : decode cX9_stances 63 = .ok (.iaload, 1) := by decide +kernel
theorem dX9_stances_64 : decode cX9_stances 64 = .ok (.bipush 10, 2) := by decide +kernel
theorem dX9_stances_66 : decode cX9_stances 66 = .ok (.idiv, 1) := by decide +kernel
theorem dX9_stances_67 : decode cX9_stances 67 = .ok (.iload_n 2, 1) := by decide +kernel
theorem dX9_stances_68 : decode cX9_stances 68 = .ok (.invokevirtual 173, 3) := by decide +kernel
theorem dX9_stances_71 : decode cX9_stances 71 = .ok (.ifCond .ne 7, 3) := by decide +kernel
theorem dX9_stances_74 : decode cX9_stances 74 = .ok (.iconst 1, 1) := by decide +kernel
theorem dX9_stances_75 : decode cX9_stances 75 = .ok (.goto 4, 3) := by decide +kernel
theorem dX9_stances_78 : decode cX9_stances 78 = .ok (.iconst 0, 1) := by decide +kernel
theorem dX9_stances_79 : decode cX9_stances 79 = .ok (.istore_n 3, 1) := by decide +kernel
theorem dX9_stances_80 : decode cX9_stances 80 = .ok (.iinc 5 1, 3) := by decide +kernel
theorem dX9_stances_83 : decode cX9_stances 83 = .ok (.goto (-59), 3) := by decide +kernel
theorem dX9_stances_86 : decode cX9_stances 86 = .ok (.iinc 4 1, 3) := by decide +kernel
theorem dX9_stances_89 : decode cX9_stances 89 = .ok (.goto (-75), 3) := by decide +kernel
theorem dX9_stances_92 : decode cX9_stances 92 = .ok (.iload_n 1, 1) := by decide +kernel
theorem dX9_stances_93 : decode cX9_stances 93 = .ok (.iload_n 3, 1) := by decide +kernel
theorem dX9_stances_94 : decode cX9_stances 94 = .ok (.ifCond .eq 9, 3) := by decide +kernel
theorem dX9_stances_97 : decode cX9_stances 97 = .ok (.iconst 1, 1) := by decide +kernel
theorem dX9_stances_98 : decode cX9_stances 98 = .ok (.iload_n 2, 1) := by decide +kernel
theorem dX9_stances_99 : decode cX9_stances 99 = .ok (.ishl, 1) := by decide +kernel
theorem dX9_stances_100 : decode cX9_stances 100 = .ok (.goto 4, 3) := by decide +kernel
theorem dX9_stances_103 : decode cX9_stances 103 = .ok (.iconst 0, 1) := by decide +kernel
theorem dX9_stances_104 : decode cX9_stances 104 = .ok (.ior, 1) := by decide +kernel
theorem dX9_stances_105 : decode cX9_stances 105 = .ok (.istore_n 1, 1) := by decide +kernel
theorem dX9_stances_106 : decode cX9_stances 106 = .ok (.iinc 2 1, 3) := by decide +kernel
theorem dX9_stances_109 : decode cX9_stances 109 = .ok (.goto (-105), 3) := by decide +kernel
theorem dX9_stances_112 : decode cX9_stances 112 = .ok (.iload_n 1, 1) := by decide +kernel
theorem dX9_stances_113 : decode cX9_stances 113 = .ok (.ireturn, 1) := by decide +kernel
theorem dX9_often_0 : decode cX9_often 0 = .ok (.iload_n 1, 1) := by decide +kernel
theorem dX9_often_1 : decode cX9_often 1 = .ok (.i2l, 1) := by decide +kernel
theorem dX9_often_2 : decode cX9_often 2 = .ok (.lconst 0, 1) := by decide +kernel
theorem dX9_often_3 : decode cX9_often 3 = .ok (.ldc2_w 206, 3) := by decide +kernel
theorem dX9_often_6 : decode cX9_often 6 = .ok (.invokestatic 70, 3) := by decide +kernel
theorem dX9_often_9 : decode cX9_often 9 = .ok (.ifCond .ne 5, 3) := by decide +kernel
theorem dX9_often_12 : decode cX9_often 12 = .ok (.iconst (-1), 1) := by decide +kernel
theorem dX9_often_13 : decode cX9_often 13 = .ok (.ireturn, 1) := by decide +kernel
theorem dX9_often_14 : decode cX9_often 14 = .ok (.bipush 9, 2) := by decide +kernel
theorem dX9_often_16 : decode cX9_often 16 = .ok (.istore_n 2, 1) := by decide +kernel
theorem dX9_often_17 : decode cX9_often 17 = .ok (.iload_n 2, 1) := by decide +kernel
theorem dX9_often_18 : decode cX9_often 18 = .ok (.ifCond .le 18, 3) := by decide +kernel
theorem dX9_often_21 : decode cX9_often 21 = .ok (.aload_n 0, 1) := by decide +kernel
theorem dX9_often_22 : decode cX9_often 22 = .ok (.iload_n 2, 1) := by decide +kernel
theorem dX9_often_23 : decode cX9_often 23 = .ok (.invokevirtual 195, 3) := by decide +kernel
theorem dX9_often_26 : decode cX9_often 26 = .ok (.iload_n 1, 1) := by decide +kernel
theorem dX9_often_27 : decode cX9_often 27 = .ok (.if_icmp .le 9, 3) := by decide +kernel
theorem dX9_often_30 : decode cX9_often 30 = .ok (.iinc 2 (-1), 3) := by decide +kernel
theorem dX9_often_33 : decode cX9_often 33 = .ok (.goto (-16), 3) := by decide +kernel
theorem dX9_often_36 : decode cX9_often 36 = .ok (.iload_n 2, 1) := by decide +kernel
theorem dX9_often_37 : decode cX9_often 37 = .ok (.ireturn, 1) := by decide +kernel
theorem dX9_warning_0 : decode cX9_warning 0 = .ok (.aload_n 0, 1) := by decide +kernel
theorem dX9_warning_1 : decode cX9_warning 1 = .ok (.iconst 1, 1) := by decide +kernel
theorem dX9_warning_2 : decode cX9_warning 2 = .ok (.invokevirtual 195, 3) := by decide +kernel
theorem dX9_warning_5 : decode cX9_warning 5 = .ok (.istore_n 1, 1) := by decide +kernel
theorem dX9_warning_6 : decode cX9_warning 6 = .ok (.iconst 0, 1) := by decide +kernel
theorem dX9_warning_7 : decode cX9_warning 7 = .ok (.istore_n 2, 1) := by decide +kernel
theorem dX9_warning_8 : decode cX9_warning 8 = .ok (.iconst 0, 1) := by decide +kernel
theorem dX9_warning_9 : decode cX9_warning 9 = .ok (.istore_n 3, 1) := by decide +kernel
theorem dX9_warning_10 : decode cX9_warning 10 = .ok (.iload_n 3, 1) := by decide +kernel
theorem dX9_warning_11 : decode cX9_warning 11 = .ok (.aload_n 0, 1) := by decide +kernel
theorem dX9_warning_12 : decode cX9_warning 12 = .ok (.getfield 76, 3) := by decide +kernel
theorem dX9_warning_15 : decode cX9_warning 15 = .ok (.if_icmp .ge 39, 3) := by decide +kernel
theorem dX9_warning_18 : decode cX9_warning 18 = .ok (.aload_n 0, 1) := by decide +kernel
theorem dX9_warning_19 : decode cX9_warning 19 = .ok (.getfield 28, 3) := by decide +kernel
theorem dX9_warning_22 : decode cX9_warning 22 = .ok (.iconst 3, 1) := by decide +kernel
theorem dX9_warning_23 : decode cX9_warning 23 = .ok (.iload_n 3, 1) := by decide +kernel
theorem dX9_warning_24 : decode cX9_warning 24 = .ok (.imul, 1) := by decide +kernel
theorem dX9_warning_25 : decode cX9_warning 25 = .ok (.iconst 1, 1) := by decide +kernel
theorem dX9_warning_26 : decode cX9_warning 26 = .ok (.iadd, 1) := by decide +kernel
theorem dX9_warning_27 : decode cX9_warning 27 = .ok (.iaload, 1) := by decide +kernel
theorem dX9_warning_28 : decode cX9_warning 28 = .ok (.ifCond .ne 20, 3) := by decide +kernel
theorem dX9_warning_31 : decode cX9_warning 31 = .ok (.aload_n 0, 1) := by decide +kernel
theorem dX9_warning_32 : decode cX9_warning 32 = .ok (.getfield 28, 3) := by decide +kernel
theorem dX9_warning_35 : decode cX9_warning 35 = .ok (.iconst 3, 1) := by decide +kernel
theorem dX9_warning_36 : decode cX9_warning 36 = .ok (.iload_n 3, 1) := by decide +kernel
theorem dX9_warning_37 : decode cX9_warning 37 = .ok (.imul, 1) := by decide +kernel
theorem dX9_warning_38 : decode cX9_warning 38 = .ok (.iconst 1, 1) := by decide +kernel
theorem dX9_warning_39 : decode cX9_warning 39 = .ok (.iadd, 1) := by decide +kernel
theorem dX9_warning_40 : decode cX9_warning 40 = .ok (.iconst 1, 1) := by decide +kernel
theorem dX9_warning_41 : decode cX9_warning 41 = .ok (.iastore, 1) := by decide +kernel
theorem dX9_warning_42 : decode cX9_warning 42 = .ok (.iload_n 2, 1) := by decide +kernel
theorem dX9_warning_43 : decode cX9_warning 43 = .ok (.iconst 1, 1) := by decide +kernel
theorem dX9_warning_44 : decode cX9_warning 44 = .ok (.iload_n 3, 1) := by decide +kernel
theorem dX9_warning_45 : decode cX9_warning 45 = .ok (.ishl, 1) := by decide +kernel
theorem dX9_warning_46 : decode cX9_warning 46 = .ok (.ior, 1) := by decide +kernel
theorem dX9_warning_47 : decode cX9_warning 47 = .ok (.istore_n 2, 1) := by decide +kernel
theorem dX9_warning_48 : decode cX9_warning 48 = .ok (.iinc 3 1, 3) := by decide +kernel
theorem dX9_warning_51 : decode cX9_warning 51 = .ok (.goto (-41), 3) := by decide +kernel
theorem dX9_warning_54 : decode cX9_warning 54 = .ok (.aload_n 0, 1) := by decide +kernel
theorem dX9_warning_55 : decode cX9_warning 55 = .ok (.iconst 1, 1) := by decide +kernel
theorem dX9_warning_56 : decode cX9_warning 56 = .ok (.invokevirtual 195, 3) := by decide +kernel
theorem dX9_warning_59 : decode cX9_warning 59 = .ok (.istore_n 3, 1) := by decide +kernel
theorem dX9_warning_60 : decode cX9_warning 60 = .ok (.iconst 0, 1) := by decide +kernel
theorem dX9_warning_61 : decode cX9_warning 61 = .ok (.istore 4, 2) := by decide +kernel
theorem dX9_warning_63 : decode cX9_warning 63 = .ok (.iload 4, 2) := by decide +kernel
theorem dX9_warning_65 : decode cX9_warning 65 = .ok (.aload_n 0, 1) := by decide +kernel
theorem dX9_warning_66 : decode cX9_warning 66 = .ok (.getfield 76, 3) := by decide +kernel
theorem dX9_warning_69 : decode cX9_warning 69 = .ok (.if_icmp .ge 45, 3) := by decide +kernel
theorem dX9_warning_72 : decode cX9_warning 72 = .ok (.aload_n 0, 1) := by decide +kernel
theorem dX9_warning_73 : decode cX9_warning 73 = .ok (.getfield 28, 3) := by decide +kernel
theorem dX9_warning_76 : decode cX9_warning 76 = .ok (.iconst 3, 1) := by decide +kernel
theorem dX9_warning_77 : decode cX9_warning 77 = .ok (.iload 4, 2) := by decide +kernel
theorem dX9_warning_79 : decode cX9_warning 79 = .ok (.imul, 1) := by decide +kernel
theorem dX9_warning_80 : decode cX9_warning 80 = .ok (.iconst 1, 1) := by decide +kernel
theorem dX9_warning_81 : decode cX9_warning 81 = .ok (.iadd, 1) := by decide +kernel
theorem dX9_warning_82 : decode cX9_warning 82 = .ok (.iload_n 2, 1) := by decide +kernel
theorem dX9_warning_83 : decode cX9_warning 83 = .ok (.iload 4, 2) := by decide +kernel
theorem dX9_warning_85 : decode cX9_warning 85 = .ok (.ishr, 1) := by decide +kernel
theorem dX9_warning_86 : decode cX9_warning 86 = .ok (.iconst 1, 1) := by decide +kernel
theorem dX9_warning_87 : decode cX9_warning 87 = .ok (.iand, 1) := by decide +kernel
theorem dX9_warning_88 : decode cX9_warning 88 = .ok (.iconst 1, 1) := by decide +kernel
theorem dX9_warning_89 : decode cX9_warning 89 = .ok (.if_icmp .ne 7, 3) := by decide +kernel
theorem dX9_warning_92 : decode cX9_warning 92 = .ok (.iconst 0, 1) := by decide +kernel
theorem dX9_warning_93 : decode cX9_warning 93 = .ok (.goto 14, 3) := by decide +kernel
theorem dX9_warning_96 : decode cX9_warning 96 = .ok (.aload_n 0, 1) := by decide +kernel
theorem dX9_warning_97 : decode cX9_warning 97 = .ok (.getfield 28, 3) := by decide +kernel
theorem dX9_warning_100 : decode cX9_warning 100 = .ok (.iconst 3, 1) := by decide +kernel
theorem dX9_warning_101 : decode cX9_warning 101 = .ok (.iload 4, 2) := by decide +kernel
theorem dX9_warning_103 : decode cX9_warning 103 = .ok (.imul, 1) := by decide +kernel
theorem dX9_warning_104 : decode cX9_warning 104 = .ok (.iconst 1, 1) := by decide +kernel
theorem dX9_warning_105 : decode cX9_warning 105 = .ok (.iadd, 1) := by decide +kernel
theorem dX9_warning_106 : decode cX9_warning 106 = .ok (.iaload, 1) := by decide +kernel
theorem dX9_warning_107 : decode cX9_warning 107 = .ok (.iastore, 1) := by decide +kernel
theorem dX9_warning_108 : decode cX9_warning 108 = .ok (.iinc 4 1, 3) := by decide +kernel
theorem dX9_warning_111 : decode cX9_warning 111 = .ok (.goto (-48), 3) := by decide +kernel
theorem dX9_warning_114 : decode cX9_warning 114 = .ok (.iload_n 3, 1) := by decide +kernel
theorem dX9_warning_115 : decode cX9_warning 115 = .ok (.iload_n 1, 1) := by decide +kernel
theorem dX9_warning_116 : decode cX9_warning 116 = .ok (.isub, 1) := by decide +kernel
theorem dX9_warning_117 : decode cX9_warning 117 = .ok (.ireturn, 1) := by decide +kernel
theorem dX9_shownAt_0 : decode cX9_shownAt 0 = .ok (.iconst 0, 1) := by decide +kernel
theorem dX9_shownAt_1 : decode cX9_shownAt 1 = .ok (.istore_n 2, 1) := by decide +kernel
theorem dX9_shownAt_2 : decode cX9_shownAt 2 = .ok (.iconst 0, 1) := by decide +kernel
theorem dX9_shownAt_3 : decode cX9_shownAt 3 = .ok (.istore_n 3, 1) := by decide +kernel
theorem dX9_shownAt_4 : decode cX9_shownAt 4 = .ok (.iload_n 3, 1) := by decide +kernel
theorem dX9_shownAt_5 : decode cX9_shownAt 5 = .ok (.iload_n 1, 1) := by decide +kernel
theorem dX9_shownAt_6 : decode cX9_shownAt 6 = .ok (.if_icmp .ge 48, 3) := by decide +kernel
theorem dX9_shownAt_9 : decode cX9_shownAt 9 = .ok (.bipush 10, 2) := by decide +kernel
theorem dX9_shownAt_11 : decode cX9_shownAt 11 = .ok (.aload_n 0, 1) := by decide +kernel
theorem dX9_shownAt_12 : decode cX9_shownAt 12 = .ok (.getfield 25, 3) := by decide +kernel
theorem dX9_shownAt_15 : decode cX9_shownAt 15 = .ok (.iconst 4, 1) := by decide +kernel
theorem dX9_shownAt_16 : decode cX9_shownAt 16 = .ok (.iaload, 1) := by decide +kernel
theorem dX9_shownAt_17 : decode cX9_shownAt 17 = .ok (.iload_n 1, 1) := by decide +kernel
theorem dX9_shownAt_18 : decode cX9_shownAt 18 = .ok (.iload_n 3, 1) := by decide +kernel
theorem dX9_shownAt_19 : decode cX9_shownAt 19 = .ok (.isub, 1) := by decide +kernel
theorem dX9_shownAt_20 : decode cX9_shownAt 20 = .ok (.imul, 1) := by decide +kernel
theorem dX9_shownAt_21 : decode cX9_shownAt 21 = .ok (.isub, 1) := by decide +kernel
theorem dX9_shownAt_22 : decode cX9_shownAt 22 = .ok (.istore 4, 2) := by decide +kernel
theorem dX9_shownAt_24 : decode cX9_shownAt 24 = .ok (.iload_n 2, 1) := by decide +kernel
theorem dX9_shownAt_25 : decode cX9_shownAt 25 = .ok (.iload 4, 2) := by decide +kernel
theorem dX9_shownAt_27 : decode cX9_shownAt 27 = .ok (.ifCond .le 18, 3) := by decide +kernel
theorem dX9_shownAt_30 : decode cX9_shownAt 30 = .ok (.aload_n 0, 1) := by decide +kernel
theorem dX9_shownAt_31 : decode cX9_shownAt 31 = .ok (.iload_n 3, 1) := by decide +kernel
theorem dX9_shownAt_32 : decode cX9_shownAt 32 = .ok (.iconst 1, 1) := by decide +kernel
theorem dX9_shownAt_33 : decode cX9_shownAt 33 = .ok (.invokevirtual 192, 3) := by decide +kernel
theorem dX9_shownAt_36 : decode cX9_shownAt 36 = .ok (.iload 4, 2) := by decide +kernel
theorem dX9_shownAt_38 : decode cX9_shownAt 38 = .ok (.imul, 1) := by decide +kernel
theorem dX9_shownAt_39 : decode cX9_shownAt 39 = .ok (.bipush 10, 2) := by decide +kernel
theorem dX9_shownAt_41 : decode cX9_shownAt 41 = .ok (.idiv, 1) := by decide +kernel
theorem dX9_shownAt_42 : decode cX9_shownAt 42 = .ok (.goto 4, 3) := by decide +kernel
theorem dX9_shownAt_45 : decode cX9_shownAt 45 = .ok (.iconst 0, 1) := by decide +kernel
theorem dX9_shownAt_46 : decode cX9_shownAt 46 = .ok (.iadd, 1) := by decide +kernel
theorem dX9_shownAt_47 : decode cX9_shownAt 47 = .ok (.istore_n 2, 1) := by decide +kernel
theorem dX9_shownAt_48 : decode cX9_shownAt 48 = .ok (.iinc 3 1, 3) := by decide +kernel
theorem dX9_shownAt_51 : decode cX9_shownAt 51 = .ok (.goto (-47), 3) := by decide +kernel
theorem dX9_shownAt_54 : decode cX9_shownAt 54 = .ok (.iload_n 2, 1) := by decide +kernel
theorem dX9_shownAt_55 : decode cX9_shownAt 55 = .ok (.ireturn, 1) := by decide +kernel
theorem dX9_shown_0 : decode cX9_shown 0 = .ok (.iload_n 1, 1) := by decide +kernel
theorem dX9_shown_1 : decode cX9_shown 1 = .ok (.i2l, 1) := by decide +kernel
theorem dX9_shown_2 : decode cX9_shown 2 = .ok (.ldc2_w 90, 3) := by decide +kernel
theorem dX9_shown_5 : decode cX9_shown 5 = .ok (.ldc2_w 68, 3) := by decide +kernel
theorem dX9_shown_8 : decode cX9_shown 8 = .ok (.invokestatic 70, 3) := by decide +kernel
theorem dX9_shown_11 : decode cX9_shown 11 = .ok (.ifCond .ne 5, 3) := by decide +kernel
theorem dX9_shown_14 : decode cX9_shown 14 = .ok (.iconst (-1), 1) := by decide +kernel
theorem dX9_shown_15 : decode cX9_shown 15 = .ok (.ireturn, 1) := by decide +kernel
theorem dX9_shown_16 : decode cX9_shown 16 = .ok (.iload_n 1, 1) := by decide +kernel
theorem dX9_shown_17 : decode cX9_shown 17 = .ok (.ifCond .lt 9, 3) := by decide +kernel
theorem dX9_shown_20 : decode cX9_shown 20 = .ok (.aload_n 0, 1) := by decide +kernel
theorem dX9_shown_21 : decode cX9_shown 21 = .ok (.iload_n 1, 1) := by decide +kernel
theorem dX9_shown_22 : decode cX9_shown 22 = .ok (.invokevirtual 208, 3) := by decide +kernel
theorem dX9_shown_25 : decode cX9_shown 25 = .ok (.ireturn, 1) := by decide +kernel
theorem dX9_shown_26 : decode cX9_shown 26 = .ok (.bipush (-4), 2) := by decide +kernel
theorem dX9_shown_28 : decode cX9_shown 28 = .ok (.istore_n 2, 1) := by decide +kernel
theorem dX9_shown_29 : decode cX9_shown 29 = .ok (.iconst 0, 1) := by decide +kernel
theorem dX9_shown_30 : decode cX9_shown 30 = .ok (.istore_n 3, 1) := by decide +kernel
theorem dX9_shown_31 : decode cX9_shown 31 = .ok (.iload_n 3, 1) := by decide +kernel
theorem dX9_shown_32 : decode cX9_shown 32 = .ok (.bipush 16, 2) := by decide +kernel
theorem dX9_shown_34 : decode cX9_shown 34 = .ok (.if_icmp .ge 24, 3) := by decide +kernel
theorem dX9_shown_37 : decode cX9_shown 37 = .ok (.aload_n 0, 1) := by decide +kernel
theorem dX9_shown_38 : decode cX9_shown 38 = .ok (.getfield 13, 3) := by decide +kernel
theorem dX9_shown_41 : decode cX9_shown 41 = .ok (.iload_n 3, 1) := by decide +kernel
theorem dX9_shown_42 : decode cX9_shown 42 = .ok (.iaload, 1) := by decide +kernel
theorem dX9_shown_43 : decode cX9_shown 43 = .ok (.ifCond .le 7, 3) := by decide +kernel
theorem dX9_shown_46 : decode cX9_shown 46 = .ok (.iload_n 3, 1) := by decide +kernel
theorem dX9_shown_47 : decode cX9_shown 47 = .ok (.goto 4, 3) := by decide +kernel
theorem dX9_shown_50 : decode cX9_shown 50 = .ok (.iload_n 2, 1) := by decide +kernel
theorem dX9_shown_51 : decode cX9_shown 51 = .ok (.istore_n 2, 1) := by decide +kernel
theorem dX9_shown_52 : decode cX9_shown 52 = .ok (.iinc 3 1, 3) := by decide +kernel
theorem dX9_shown_55 : decode cX9_shown 55 = .ok (.goto (-24), 3) := by decide +kernel
theorem dX9_shown_58 : decode cX9_shown 58 = .ok (.bipush (-4), 2) := by decide +kernel
theorem dX9_shown_60 : decode cX9_shown 60 = .ok (.istore_n 3, 1) := by decide +kernel
theorem dX9_shown_61 : decode cX9_shown 61 = .ok (.iconst 0, 1) := by decide +kernel
theorem dX9_shown_62 : decode cX9_shown 62 = .ok (.istore 4, 2) := by decide +kernel
theorem dX9_shown_64 : decode cX9_shown 64 = .ok (.iload_n 2, 1) := by decide +kernel
theorem dX9_shown_65 : decode cX9_shown 65 = .ok (.iconst 1, 1) := by decide +kernel
theorem dX9_shown_66 : decode cX9_shown 66 = .ok (.iadd, 1) := by decide +kernel
theorem dX9_shown_67 : decode cX9_shown 67 = .ok (.istore 5, 2) := by decide +kernel
theorem dX9_shown_69 : decode cX9_shown 69 = .ok (.iload 5, 2) := by decide +kernel
theorem dX9_shown_71 : decode cX9_shown 71 = .ok (.bipush 16, 2) := by decide +kernel
theorem dX9_shown_73 : decode cX9_shown 73 = .ok (.if_icmp .ge 65, 3) := by decide +kernel
theorem dX9_shown_76 : decode cX9_shown 76 = .ok (.iload_n 2, 1) := by decide +kernel
theorem dX9_shown_77 : decode cX9_shown 77 = .ok (.ifCond .lt 61, 3) := by decide +kernel
theorem dX9_shown_80 : decode cX9_shown 80 = .ok (.aload_n 0, 1) := by decide +kernel
theorem dX9_shown_81 : decode cX9_shown 81 = .ok (.iload 5, 2) := by decide +kernel
theorem dX9_shown_83 : decode cX9_shown 83 = .ok (.invokevirtual 208, 3) := by decide +kernel
theorem dX9_shown_86 : decode cX9_shown 86 = .ok (.istore 6, 2) := by decide +kernel
theorem dX9_shown_88 : decode cX9_shown 88 = .ok (.iload_n 3, 1) := by decide +kernel
theorem dX9_shown_89 : decode cX9_shown 89 = .ok (.ifCond .lt 10, 3) := by decide +kernel
theorem dX9_shown_92 : decode cX9_shown 92 = .ok (.iload 6, 2) := by decide +kernel
theorem dX9_shown_94 : decode cX9_shown 94 = .ok (.iload 4, 2) := by decide +kernel
theorem dX9_shown_96 : decode cX9_shown 96 = .ok (.if_icmp .ge 7, 3) := by decide +kernel
theorem dX9_shown_99 : decode cX9_shown 99 = .ok (.iconst 1, 1) := by decide +kernel
theorem dX9_shown_100 : decode cX9_shown 100 = .ok (.goto 4, 3) := by decide +kernel
theorem dX9_shown_103 : decode cX9_shown 103 = .ok (.iconst 0, 1) := by decide +kernel
theorem dX9_shown_104 : decode cX9_shown 104 = .ok (.istore 7, 2) := by decide +kernel
theorem dX9_shown_106 : decode cX9_shown 106 = .ok (.iload 7, 2) := by decide +kernel
theorem dX9_shown_108 : decode cX9_shown 108 = .ok (.ifCond .eq 8, 3) := by decide +kernel
theorem dX9_shown_111 : decode cX9_shown 111 = .ok (.iload 5, 2) := by decide +kernel
theorem dX9_shown_113 : decode cX9_shown 113 = .ok (.goto 4, 3) := by decide +kernel
theorem dX9_shown_116 : decode cX9_shown 116 = .ok (.iload_n 3, 1) := by decide +kernel
theorem dX9_shown_117 : decode cX9_shown 117 = .ok (.istore_n 3, 1) := by decide +kernel
theorem dX9_shown_118 : decode cX9_shown 118 = .ok (.iload 7, 2) := by decide +kernel
theorem dX9_shown_120 : decode cX9_shown 120 = .ok (.ifCond .eq 8, 3) := by decide +kernel
theorem dX9_shown_123 : decode cX9_shown 123 = .ok (.iload 6, 2) := by decide +kernel
theorem dX9_shown_125 : decode cX9_shown 125 = .ok (.goto 5, 3) := by decide +kernel
theorem dX9_shown_128 : decode cX9_shown 128 = .ok (.iload 4, 2) := by decide +kernel
theorem dX9_shown_130 : decode cX9_shown 130 = .ok (.istore 4, 2) := by decide +kernel
theorem dX9_shown_132 : decode cX9_shown 132 = .ok (.iinc 5 1, 3) := by decide +kernel
theorem dX9_shown_135 : decode cX9_shown 135 = .ok (.goto (-66), 3) := by decide +kernel
theorem dX9_shown_138 : decode cX9_shown 138 = .ok (.iload_n 3, 1) := by decide +kernel
theorem dX9_shown_139 : decode cX9_shown 139 = .ok (.ireturn, 1) := by decide +kernel
theorem dX9_pointed_0 : decode cX9_pointed 0 = .ok (.aload_n 0, 1) := by decide +kernel
theorem dX9_pointed_1 : decode cX9_pointed 1 = .ok (.getfield 43, 3) := by decide +kernel
theorem dX9_pointed_4 : decode cX9_pointed 4 = .ok (.aload_n 0, 1) := by decide +kernel
theorem dX9_pointed_5 : decode cX9_pointed 5 = .ok (.getfield 166, 3) := by decide +kernel
theorem dX9_pointed_8 : decode cX9_pointed 8 = .ok (.iload_n 1, 1) := by decide +kernel
theorem dX9_pointed_9 : decode cX9_pointed 9 = .ok (.iastore, 1) := by decide +kernel
theorem dX9_pointed_10 : decode cX9_pointed 10 = .ok (.aload_n 0, 1) := by decide +kernel
theorem dX9_pointed_11 : decode cX9_pointed 11 = .ok (.getfield 46, 3) := by decide +kernel
theorem dX9_pointed_14 : decode cX9_pointed 14 = .ok (.aload_n 0, 1) := by decide +kernel
theorem dX9_pointed_15 : decode cX9_pointed 15 = .ok (.getfield 166, 3) := by decide +kernel
theorem dX9_pointed_18 : decode cX9_pointed 18 = .ok (.iload_n 2, 1) := by decide +kernel
theorem dX9_pointed_19 : decode cX9_pointed 19 = .ok (.iastore, 1) := by decide +kernel
theorem dX9_pointed_20 : decode cX9_pointed 20 = .ok (.aload_n 0, 1) := by decide +kernel
theorem dX9_pointed_21 : decode cX9_pointed 21 = .ok (.dup, 1) := by decide +kernel
theorem dX9_pointed_22 : decode cX9_pointed 22 = .ok (.getfield 166, 3) := by decide +kernel
theorem dX9_pointed_25 : decode cX9_pointed 25 = .ok (.iconst 1, 1) := by decide +kernel
theorem dX9_pointed_26 : decode cX9_pointed 26 = .ok (.iadd, 1) := by decide +kernel
theorem dX9_pointed_27 : decode cX9_pointed 27 = .ok (.putfield 166, 3) := by decide +kernel
theorem dX9_pointed_30 : decode cX9_pointed 30 = .ok (.return_, 1) := by decide +kernel
theorem dX9_point_0 : decode cX9_point 0 = .ok (.iload_n 1, 1) := by decide +kernel
theorem dX9_point_1 : decode cX9_point 1 = .ok (.invokestatic 79, 3) := by decide +kernel
theorem dX9_point_4 : decode cX9_point 4 = .ok (.ifCond .eq 10, 3) := by decide +kernel
theorem dX9_point_7 : decode cX9_point 7 = .ok (.iload_n 2, 1) := by decide +kernel
theorem dX9_point_8 : decode cX9_point 8 = .ok (.invokestatic 83, 3) := by decide +kernel
theorem dX9_point_11 : decode cX9_point 11 = .ok (.ifCond .ne 5, 3) := by decide +kernel
theorem dX9_point_14 : decode cX9_point 14 = .ok (.iconst (-1), 1) := by decide +kernel
theorem dX9_point_15 : decode cX9_point 15 = .ok (.ireturn, 1) := by decide +kernel
theorem dX9_point_16 : decode cX9_point 16 = .ok (.aload_n 0, 1) := by decide +kernel
theorem dX9_point_17 : decode cX9_point 17 = .ok (.getfield 166, 3) := by decide +kernel
theorem dX9_point_20 : decode cX9_point 20 = .ok (.bipush 24, 2) := by decide +kernel
theorem dX9_point_22 : decode cX9_point 22 = .ok (.if_icmp .ne 6, 3) := by decide +kernel
theorem dX9_point_25 : decode cX9_point 25 = .ok (.bipush (-3), 2) := by decide +kernel
theorem dX9_point_27 : decode cX9_point 27 = .ok (.ireturn, 1) := by decide +kernel
theorem dX9_point_28 : decode cX9_point 28 = .ok (.aload_n 0, 1) := by decide +kernel
theorem dX9_point_29 : decode cX9_point 29 = .ok (.iload_n 1, 1) := by decide +kernel
theorem dX9_point_30 : decode cX9_point 30 = .ok (.iload_n 2, 1) := by decide +kernel
theorem dX9_point_31 : decode cX9_point 31 = .ok (.invokevirtual 211, 3) := by decide +kernel
theorem dX9_point_34 : decode cX9_point 34 = .ok (.aload_n 0, 1) := by decide +kernel
theorem dX9_point_35 : decode cX9_point 35 = .ok (.getfield 166, 3) := by decide +kernel
theorem dX9_point_38 : decode cX9_point 38 = .ok (.ireturn, 1) := by decide +kernel
theorem dX9_fits_0 : decode cX9_fits 0 = .ok (.iload_n 1, 1) := by decide +kernel
theorem dX9_fits_1 : decode cX9_fits 1 = .ok (.i2l, 1) := by decide +kernel
theorem dX9_fits_2 : decode cX9_fits 2 = .ok (.lconst 0, 1) := by decide +kernel
theorem dX9_fits_3 : decode cX9_fits 3 = .ok (.lconst 1, 1) := by decide +kernel
theorem dX9_fits_4 : decode cX9_fits 4 = .ok (.invokestatic 70, 3) := by decide +kernel
theorem dX9_fits_7 : decode cX9_fits 7 = .ok (.ifCond .ne 5, 3) := by decide +kernel
theorem dX9_fits_10 : decode cX9_fits 10 = .ok (.iconst (-1), 1) := by decide +kernel
theorem dX9_fits_11 : decode cX9_fits 11 = .ok (.ireturn, 1) := by decide +kernel
theorem dX9_fits_12 : decode cX9_fits 12 = .ok (.aload_n 0, 1) := by decide +kernel
theorem dX9_fits_13 : decode cX9_fits 13 = .ok (.getfield 166, 3) := by decide +kernel
theorem dX9_fits_16 : decode cX9_fits 16 = .ok (.ifCond .ne 6, 3) := by decide +kernel
theorem dX9_fits_19 : decode cX9_fits 19 = .ok (.bipush (-2), 2) := by decide +kernel
theorem dX9_fits_21 : decode cX9_fits 21 = .ok (.ireturn, 1) := by decide +kernel
theorem dX9_fits_22 : decode cX9_fits 22 = .ok (.aload_n 0, 1) := by decide +kernel
theorem dX9_fits_23 : decode cX9_fits 23 = .ok (.getfield 25, 3) := by decide +kernel
theorem dX9_fits_26 : decode cX9_fits 26 = .ok (.iconst 0, 1) := by decide +kernel
theorem dX9_fits_27 : decode cX9_fits 27 = .ok (.iaload, 1) := by decide +kernel
theorem dX9_fits_28 : decode cX9_fits 28 = .ok (.istore_n 2, 1) := by decide +kernel
theorem dX9_fits_29 : decode cX9_fits 29 = .ok (.iconst 0, 1) := by decide +kernel
theorem dX9_fits_30 : decode cX9_fits 30 = .ok (.istore_n 3, 1) := by decide +kernel
theorem dX9_fits_31 : decode cX9_fits 31 = .ok (.iconst (-1), 1) := by decide +kernel
theorem dX9_fits_32 : decode cX9_fits 32 = .ok (.istore 4, 2) := by decide +kernel
theorem dX9_fits_34 : decode cX9_fits 34 = .ok (.iconst 0, 1) := by decide +kernel
theorem dX9_fits_35 : decode cX9_fits 35 = .ok (.istore 5, 2) := by decide +kernel
theorem dX9_fits_37 : decode cX9_fits 37 = .ok (.iload 5, 2) := by decide +kernel
theorem dX9_fits_39 : decode cX9_fits 39 = .ok (.bipush 10, 2) := by decide +kernel
theorem dX9_fits_41 : decode cX9_fits 41 = .ok (.if_icmp .ge 157, 3) := by decide +kernel
theorem dX9_fits_44 : decode cX9_fits 44 = .ok (.aload_n 0, 1) := by decide +kernel
theorem dX9_fits_45 : decode cX9_fits 45 = .ok (.getfield 25, 3) := by decide +kernel
theorem dX9_fits_48 : decode cX9_fits 48 = .ok (.iconst 0, 1) := by decide +kernel
theorem dX9_fits_49 : decode cX9_fits 49 = .ok (.iload 5, 2) := by decide +kernel
theorem dX9_fits_51 : decode cX9_fits 51 = .ok (.iastore, 1) := by decide +kernel
theorem dX9_fits_52 : decode cX9_fits 52 = .ok (.iconst 0, 1) := by decide +kernel
theorem dX9_fits_53 : decode cX9_fits 53 = .ok (.istore 6, 2) := by decide +kernel
theorem dX9_fits_55 : decode cX9_fits 55 = .ok (.iconst 0, 1) := by decide +kernel
theorem dX9_fits_56 : decode cX9_fits 56 = .ok (.istore 7, 2) := by decide +kernel
theorem dX9_fits_58 : decode cX9_fits 58 = .ok (.iload 7, 2) := by decide +kernel
theorem dX9_fits_60 : decode cX9_fits 60 = .ok (.aload_n 0, 1) := by decide +kernel
theorem dX9_fits_61 : decode cX9_fits 61 = .ok (.getfield 166, 3) := by decide +kernel
theorem dX9_fits_64 : decode cX9_fits 64 = .ok (.if_icmp .ge 98, 3) := by decide +kernel
theorem dX9_fits_67 : decode cX9_fits 67 = .ok (.iconst 1, 1) := by decide +kernel
theorem dX9_fits_68 : decode cX9_fits 68 = .ok (.istore 8, 2) := by decide +kernel
theorem dX9_fits_70 : decode cX9_fits 70 = .ok (.aload_n 0, 1) := by decide +kernel
theorem dX9_fits_71 : decode cX9_fits 71 = .ok (.iconst 0, 1) := by decide +kernel
theorem dX9_fits_72 : decode cX9_fits 72 = .ok (.iconst 0, 1) := by decide +kernel
theorem dX9_fits_73 : decode cX9_fits 73 = .ok (.aload_n 0, 1) := by decide +kernel
theorem dX9_fits_74 : decode cX9_fits 74 = .ok (.getfield 43, 3) := by decide +kernel
theorem dX9_fits_77 : decode cX9_fits 77 = .ok (.iload 7, 2) := by decide +kernel
theorem dX9_fits_79 : decode cX9_fits 79 = .ok (.iaload, 1) := by decide +kernel
theorem dX9_fits_80 : decode cX9_fits 80 = .ok (.aload_n 0, 1) := by decide +kernel
theorem dX9_fits_81 : decode cX9_fits 81 = .ok (.getfield 46, 3) := by decide +kernel
theorem dX9_fits_84 : decode cX9_fits 84 = .ok (.iload 7, 2) := by decide +kernel
theorem dX9_fits_86 : decode cX9_fits 86 = .ok (.iaload, 1) := by decide +kernel
theorem dX9_fits_87 : decode cX9_fits 87 = .ok (.iconst 1, 1) := by decide +kernel
theorem dX9_fits_88 : decode cX9_fits 88 = .ok (.invokevirtual 169, 3) := by decide +kernel
theorem dX9_fits_91 : decode cX9_fits 91 = .ok (.istore 9, 2) := by decide +kernel
theorem dX9_fits_93 : decode cX9_fits 93 = .ok (.iconst 0, 1) := by decide +kernel
theorem dX9_fits_94 : decode cX9_fits 94 = .ok (.istore 10, 2) := by decide +kernel
theorem dX9_fits_96 : decode cX9_fits 96 = .ok (.iload 10, 2) := by decide +kernel
theorem dX9_fits_98 : decode cX9_fits 98 = .ok (.iconst 4, 1) := by decide +kernel
theorem dX9_fits_99 : decode cX9_fits 99 = .ok (.if_icmp .ge 42, 3) := by decide +kernel
theorem dX9_fits_102 : decode cX9_fits 102 = .ok (.iload 8, 2) := by decide +kernel
theorem dX9_fits_104 : decode cX9_fits 104 = .ok (.ifCond .eq 28, 3) := by decide +kernel
theorem dX9_fits_107 : decode cX9_fits 107 = .ok (.aload_n 0, 1) := by decide +kernel
theorem dX9_fits_108 : decode cX9_fits 108 = .ok (.iconst 0, 1) := by decide +kernel
theorem dX9_fits_109 : decode cX9_fits 109 = .ok (.iconst 0, 1) := by decide +kernel
theorem dX9_fits_110 : decode cX9_fits 110 = .ok (.aload_n 0, 1) := by decide +kernel
theorem dX9_fits_111 : decode cX9_fits 111 = .ok (.getfield 43, 3) := by decide +kernel
theorem dX9_fits_114 : decode cX9_fits 114 = .ok (.iload 7, 2) := by decide +kernel
theorem dX9_fits_116 : decode cX9_fits 116 = .ok (.iaload, 1) := by decide +kernel
theorem dX9_fits_117 : decode cX9_fits 117 = .ok (.iload 10, 2) := by decide +kernel
theorem dX9_fits_119 : decode cX9_fits 119 = .ok (.iconst 1, 1) := by decide +kernel
theorem dX9_fits_120 : decode cX9_fits 120 = .ok (.invokevirtual 169, 3) := by decide +kernel
theorem dX9_fits_123 : decode cX9_fits 123 = .ok (.iload 9, 2) := by decide +kernel
theorem dX9_fits_125 : decode cX9_fits 125 = .ok (.if_icmp .gt 7, 3) := by decide +kernel
theorem dX9_fits_128 : decode cX9_fits 128 = .ok (.iconst 1, 1) := by decide +kernel
theorem dX9_fits_129 : decode cX9_fits 129 = .ok (.goto 4, 3) := by decide +kernel
theorem dX9_fits_132 : decode cX9_fits 132 = .ok (.iconst 0, 1) := by decide +kernel
theorem dX9_fits_133 : decode cX9_fits 133 = .ok (.istore 8, 2) := by decide +kernel
theorem dX9_fits_135 : decode cX9_fits 135 = .ok (.iinc 10 1, 3) := by decide +kernel
theorem dX9_fits_138 : decode cX9_fits 138 = .ok (.goto (-42), 3) := by decide +kernel
theorem dX9_fits_141 : decode cX9_fits 141 = .ok (.iload 6, 2) := by decide +kernel
theorem dX9_fits_143 : decode cX9_fits 143 = .ok (.iload 8, 2) := by decide +kernel
theorem dX9_fits_145 : decode cX9_fits 145 = .ok (.ifCond .eq 7, 3) := by decide +kernel
theorem dX9_fits_148 : decode cX9_fits 148 = .ok (.iconst 1, 1) := by decide +kernel
theorem dX9_fits_149 : decode cX9_fits 149 = .ok (.goto 4, 3) := by decide +kernel
theorem dX9_fits_152 : decode cX9_fits 152 = .ok (.iconst 0, 1) := by decide +kernel
theorem dX9_fits_153 : decode cX9_fits 153 = .ok (.iadd, 1) := by decide +kernel
theorem dX9_fits_154 : decode cX9_fits 154 = .ok (.istore 6, 2) := by decide +kernel
theorem dX9_fits_156 : decode cX9_fits 156 = .ok (.iinc 7 1, 3) := by decide +kernel
theorem dX9_fits_159 : decode cX9_fits 159 = .ok (.goto (-101), 3) := by decide +kernel
theorem dX9_fits_162 : decode cX9_fits 162 = .ok (.iload 6, 2) := by decide +kernel
theorem dX9_fits_164 : decode cX9_fits 164 = .ok (.iload 4, 2) := by decide +kernel
theorem dX9_fits_166 : decode cX9_fits 166 = .ok (.if_icmp .le 8, 3) := by decide +kernel
theorem dX9_fits_169 : decode cX9_fits 169 = .ok (.iload 5, 2) := by decide +kernel
theorem dX9_fits_171 : decode cX9_fits 171 = .ok (.goto 4, 3) := by decide +kernel
theorem dX9_fits_174 : decode cX9_fits 174 = .ok (.iload_n 3, 1) := by decide +kernel
theorem dX9_fits_175 : decode cX9_fits 175 = .ok (.istore_n 3, 1) := by decide +kernel
theorem dX9_fits_176 : decode cX9_fits 176 = .ok (.iload 6, 2) := by decide +kernel
theorem dX9_fits_178 : decode cX9_fits 178 = .ok (.iload 4, 2) := by decide +kernel
theorem dX9_fits_180 : decode cX9_fits 180 = .ok (.if_icmp .le 8, 3) := by decide +kernel
theorem dX9_fits_183 : decode cX9_fits 183 = .ok (.iload 6, 2) := by decide +kernel
theorem dX9_fits_185 : decode cX9_fits 185 = .ok (.goto 5, 3) := by decide +kernel
theorem dX9_fits_188 : decode cX9_fits 188 = .ok (.iload 4, 2) := by decide +kernel
theorem dX9_fits_190 : decode cX9_fits 190 = .ok (.istore 4, 2) := by decide +kernel
theorem dX9_fits_192 : decode cX9_fits 192 = .ok (.iinc 5 1, 3) := by decide +kernel
theorem dX9_fits_195 : decode cX9_fits 195 = .ok (.goto (-158), 3) := by decide +kernel
theorem dX9_fits_198 : decode cX9_fits 198 = .ok (.aload_n 0, 1) := by decide +kernel
theorem dX9_fits_199 : decode cX9_fits 199 = .ok (.getfield 25, 3) := by decide +kernel
theorem dX9_fits_202 : decode cX9_fits 202 = .ok (.iconst 0, 1) := by decide +kernel
theorem dX9_fits_203 : decode cX9_fits 203 = .ok (.iload_n 2, 1) := by decide +kernel
theorem dX9_fits_204 : decode cX9_fits 204 = .ok (.iastore, 1) := by decide +kernel
theorem dX9_fits_205 : decode cX9_fits 205 = .ok (.iload_n 1, 1) := by decide +kernel
theorem dX9_fits_206 : decode cX9_fits 206 = .ok (.ifCond .ne 7, 3) := by decide +kernel
theorem dX9_fits_209 : decode cX9_fits 209 = .ok (.iload_n 3, 1) := by decide +kernel
theorem dX9_fits_210 : decode cX9_fits 210 = .ok (.goto 5, 3) := by decide +kernel
theorem dX9_fits_213 : decode cX9_fits 213 = .ok (.iload 4, 2) := by decide +kernel
theorem dX9_fits_215 : decode cX9_fits 215 = .ok (.ireturn, 1) := by decide +kernel
theorem dX9_share_0 : decode cX9_share 0 = .ok (.iload_n 0, 1) := by decide +kernel
theorem dX9_share_1 : decode cX9_share 1 = .ok (.iload_n 1, 1) := by decide +kernel
theorem dX9_share_2 : decode cX9_share 2 = .ok (.iadd, 1) := by decide +kernel
theorem dX9_share_3 : decode cX9_share 3 = .ok (.ifCond .ne 7, 3) := by decide +kernel
theorem dX9_share_6 : decode cX9_share 6 = .ok (.iconst 0, 1) := by decide +kernel
theorem dX9_share_7 : decode cX9_share 7 = .ok (.goto 12, 3) := by decide +kernel
theorem dX9_share_10 : decode cX9_share 10 = .ok (.sipush 1000, 3) := by decide +kernel
theorem dX9_share_13 : decode cX9_share 13 = .ok (.iload_n 0, 1) := by decide +kernel
theorem dX9_share_14 : decode cX9_share 14 = .ok (.imul, 1) := by decide +kernel
theorem dX9_share_15 : decode cX9_share 15 = .ok (.iload_n 0, 1) := by decide +kernel
theorem dX9_share_16 : decode cX9_share 16 = .ok (.iload_n 1, 1) := by decide +kernel
theorem dX9_share_17 : decode cX9_share 17 = .ok (.iadd, 1) := by decide +kernel
theorem dX9_share_18 : decode cX9_share 18 = .ok (.idiv, 1) := by decide +kernel
theorem dX9_share_19 : decode cX9_share 19 = .ok (.ireturn, 1) := by decide +kernel
theorem dX9_apart_0 : decode cX9_apart 0 = .ok (.iload_n 1, 1) := by decide +kernel
theorem dX9_apart_1 : decode cX9_apart 1 = .ok (.i2l, 1) := by decide +kernel
theorem dX9_apart_2 : decode cX9_apart 2 = .ok (.lconst 0, 1) := by decide +kernel
theorem dX9_apart_3 : decode cX9_apart 3 = .ok (.ldc2_w 204, 3) := by decide +kernel
theorem dX9_apart_6 : decode cX9_apart 6 = .ok (.invokestatic 70, 3) := by decide +kernel
theorem dX9_apart_9 : decode cX9_apart 9 = .ok (.ifCond .eq 40, 3) := by decide +kernel
theorem dX9_apart_12 : decode cX9_apart 12 = .ok (.iload_n 2, 1) := by decide +kernel
theorem dX9_apart_13 : decode cX9_apart 13 = .ok (.i2l, 1) := by decide +kernel
theorem dX9_apart_14 : decode cX9_apart 14 = .ok (.lconst 0, 1) := by decide +kernel
theorem dX9_apart_15 : decode cX9_apart 15 = .ok (.ldc2_w 204, 3) := by decide +kernel
theorem dX9_apart_18 : decode cX9_apart 18 = .ok (.invokestatic 70, 3) := by decide +kernel
theorem dX9_apart_21 : decode cX9_apart 21 = .ok (.ifCond .eq 28, 3) := by decide +kernel
theorem dX9_apart_24 : decode cX9_apart 24 = .ok (.iload_n 3, 1) := by decide +kernel
theorem dX9_apart_25 : decode cX9_apart 25 = .ok (.i2l, 1) := by decide +kernel
theorem dX9_apart_26 : decode cX9_apart 26 = .ok (.lconst 0, 1) := by decide +kernel
theorem dX9_apart_27 : decode cX9_apart 27 = .ok (.ldc2_w 204, 3) := by decide +kernel
theorem dX9_apart_30 : decode cX9_apart 30 = .ok (.invokestatic 70, 3) := by decide +kernel
theorem dX9_apart_33 : decode cX9_apart 33 = .ok (.ifCond .eq 16, 3) := by decide +kernel
theorem dX9_apart_36 : decode cX9_apart 36 = .ok (.iload 4, 2) := by decide +kernel
theorem dX9_apart_38 : decode cX9_apart 38 = .ok (.i2l, 1) := by decide +kernel
theorem dX9_apart_39 : decode cX9_apart 39 = .ok (.lconst 0, 1) := by decide +kernel
theorem dX9_apart_40 : decode cX9_apart 40 = .ok (.ldc2_w 204, 3) := by decide +kernel
theorem dX9_apart_43 : decode cX9_apart 43 = .ok (.invokestatic 70, 3) := by decide +kernel
theorem dX9_apart_46 : decode cX9_apart 46 = .ok (.ifCond .ne 6, 3) := by decide +kernel
theorem dX9_apart_49 : decode cX9_apart 49 = .ok (.ldc 200, 2) := by decide +kernel
theorem dX9_apart_51 : decode cX9_apart 51 = .ok (.ireturn, 1) := by decide +kernel
theorem dX9_apart_52 : decode cX9_apart 52 = .ok (.iload_n 1, 1) := by decide +kernel
theorem dX9_apart_53 : decode cX9_apart 53 = .ok (.iload_n 2, 1) := by decide +kernel
theorem dX9_apart_54 : decode cX9_apart 54 = .ok (.invokestatic 215, 3) := by decide +kernel
theorem dX9_apart_57 : decode cX9_apart 57 = .ok (.iload_n 3, 1) := by decide +kernel
theorem dX9_apart_58 : decode cX9_apart 58 = .ok (.iload 4, 2) := by decide +kernel
theorem dX9_apart_60 : decode cX9_apart 60 = .ok (.invokestatic 215, 3) := by decide +kernel
theorem dX9_apart_63 : decode cX9_apart 63 = .ok (.isub, 1) := by decide +kernel
theorem dX9_apart_64 : decode cX9_apart 64 = .ok (.ireturn, 1) := by decide +kernel
theorem dX9_clear_0 : decode cX9_clear 0 = .ok (.aload_n 0, 1) := by decide +kernel
theorem dX9_clear_1 : decode cX9_clear 1 = .ok (.getfield 163, 3) := by decide +kernel
theorem dX9_clear_4 : decode cX9_clear 4 = .ok (.aload_n 0, 1) := by decide +kernel
theorem dX9_clear_5 : decode cX9_clear 5 = .ok (.getfield 166, 3) := by decide +kernel
theorem dX9_clear_8 : decode cX9_clear 8 = .ok (.iadd, 1) := by decide +kernel
theorem dX9_clear_9 : decode cX9_clear 9 = .ok (.istore_n 1, 1) := by decide +kernel
theorem dX9_clear_10 : decode cX9_clear 10 = .ok (.aload_n 0, 1) := by decide +kernel
theorem dX9_clear_11 : decode cX9_clear 11 = .ok (.iconst 0, 1) := by decide +kernel
theorem dX9_clear_12 : decode cX9_clear 12 = .ok (.putfield 163, 3) := by decide +kernel
theorem dX9_clear_15 : decode cX9_clear 15 = .ok (.aload_n 0, 1) := by decide +kernel
theorem dX9_clear_16 : decode cX9_clear 16 = .ok (.iconst 0, 1) := by decide +kernel
theorem dX9_clear_17 : decode cX9_clear 17 = .ok (.putfield 166, 3) := by decide +kernel
theorem dX9_clear_20 : decode cX9_clear 20 = .ok (.iload_n 1, 1) := by decide +kernel
theorem dX9_clear_21 : decode cX9_clear 21 = .ok (.ireturn, 1) := by decide +kernel
theorem dX9_saves_0 : decode cX9_saves 0 = .ok (.iconst 0, 1) := by decide +kernel
theorem dX9_saves_1 : decode cX9_saves 1 = .ok (.istore_n 3, 1) := by decide +kernel
theorem dX9_saves_2 : decode cX9_saves 2 = .ok (.iload_n 3, 1) := by decide +kernel
theorem dX9_saves_3 : decode cX9_saves 3 = .ok (.aload_n 0, 1) := by decide +kernel
theorem dX9_saves_4 : decode cX9_saves 4 = .ok (.arraylength, 1) := by decide +kernel
theorem dX9_saves_5 : decode cX9_saves 5 = .ok (.if_icmp .ge 17, 3) := by decide +kernel
theorem dX9_saves_8 : decode cX9_saves 8 = .ok (.aload_n 1, 1) := by decide +kernel
theorem dX9_saves_9 : decode cX9_saves 9 = .ok (.iload_n 2, 1) := by decide +kernel
theorem dX9_saves_10 : decode cX9_saves 10 = .ok (.iload_n 3, 1) := by decide +kernel
theorem dX9_saves_11 : decode cX9_saves 11 = .ok (.iadd, 1) := by decide +kernel
theorem dX9_saves_12 : decode cX9_saves 12 = .ok (.aload_n 0, 1) := by decide +kernel
theorem dX9_saves_13 : decode cX9_saves 13 = .ok (.iload_n 3, 1) := by decide +kernel
theorem dX9_saves_14 : decode cX9_saves 14 = .ok (.iaload, 1) := by decide +kernel
theorem dX9_saves_15 : decode cX9_saves 15 = .ok (.iastore, 1) := by decide +kernel
theorem dX9_saves_16 : decode cX9_saves 16 = .ok (.iinc 3 1, 3) := by decide +kernel
theorem dX9_saves_19 : decode cX9_saves 19 = .ok (.goto (-17), 3) := by decide +kernel
theorem dX9_saves_22 : decode cX9_saves 22 = .ok (.iload_n 2, 1) := by decide +kernel
theorem dX9_saves_23 : decode cX9_saves 23 = .ok (.aload_n 0, 1) := by decide +kernel
theorem dX9_saves_24 : decode cX9_saves 24 = .ok (.arraylength, 1) := by decide +kernel
theorem dX9_saves_25 : decode cX9_saves 25 = .ok (.iadd, 1) := by decide +kernel
theorem dX9_saves_26 : decode cX9_saves 26 = .ok (.ireturn, 1) := by decide +kernel
theorem dX9_gives_0 : decode cX9_gives 0 = .ok (.iconst 0, 1) := by decide +kernel
theorem dX9_gives_1 : decode cX9_gives 1 = .ok (.istore_n 3, 1) := by decide +kernel
theorem dX9_gives_2 : decode cX9_gives 2 = .ok (.iload_n 3, 1) := by decide +kernel
theorem dX9_gives_3 : decode cX9_gives 3 = .ok (.aload_n 2, 1) := by decide +kernel
theorem dX9_gives_4 : decode cX9_gives 4 = .ok (.arraylength, 1) := by decide +kernel
theorem dX9_gives_5 : decode cX9_gives 5 = .ok (.if_icmp .ge 17, 3) := by decide +kernel
theorem dX9_gives_8 : decode cX9_gives 8 = .ok (.aload_n 2, 1) := by decide +kernel
theorem dX9_gives_9 : decode cX9_gives 9 = .ok (.iload_n 3, 1) := by decide +kernel
theorem dX9_gives_10 : decode cX9_gives 10 = .ok (.aload_n 0, 1) := by decide +kernel
theorem dX9_gives_11 : decode cX9_gives 11 = .ok (.iload_n 1, 1) := by decide +kernel
theorem dX9_gives_12 : decode cX9_gives 12 = .ok (.iload_n 3, 1) := by decide +kernel
theorem dX9_gives_13 : decode cX9_gives 13 = .ok (.iadd, 1) := by decide +kernel
theorem dX9_gives_14 : decode cX9_gives 14 = .ok (.iaload, 1) := by decide +kernel
theorem dX9_gives_15 : decode cX9_gives 15 = .ok (.iastore, 1) := by decide +kernel
theorem dX9_gives_16 : decode cX9_gives 16 = .ok (.iinc 3 1, 3) := by decide +kernel
theorem dX9_gives_19 : decode cX9_gives 19 = .ok (.goto (-17), 3) := by decide +kernel
theorem dX9_gives_22 : decode cX9_gives 22 = .ok (.iload_n 1, 1) := by decide +kernel
theorem dX9_gives_23 : decode cX9_gives 23 = .ok (.aload_n 2, 1) := by decide +kernel
theorem dX9_gives_24 : decode cX9_gives 24 = .ok (.arraylength, 1) := by decide +kernel
theorem dX9_gives_25 : decode cX9_gives 25 = .ok (.iadd, 1) := by decide +kernel
theorem dX9_gives_26 : decode cX9_gives 26 = .ok (.ireturn, 1) := by decide +kernel
theorem dX9_image_0 : decode cX9_image 0 = .ok (.aload_n 0, 1) := by decide +kernel
theorem dX9_image_1 : decode cX9_image 1 = .ok (.getfield 7, 3) := by decide +kernel
theorem dX9_image_4 : decode cX9_image 4 = .ok (.aload_n 0, 1) := by decide +kernel
theorem dX9_image_5 : decode cX9_image 5 = .ok (.getfield 49, 3) := by decide +kernel
theorem dX9_image_8 : decode cX9_image 8 = .ok (.iconst 0, 1) := by decide +kernel
theorem dX9_image_9 : decode cX9_image 9 = .ok (.invokestatic 218, 3) := by decide +kernel
theorem dX9_image_12 : decode cX9_image 12 = .ok (.istore_n 1, 1) := by decide +kernel
theorem dX9_image_13 : decode cX9_image 13 = .ok (.aload_n 0, 1) := by decide +kernel
theorem dX9_image_14 : decode cX9_image 14 = .ok (.getfield 13, 3) := by decide +kernel
theorem dX9_image_17 : decode cX9_image 17 = .ok (.aload_n 0, 1) := by decide +kernel
theorem dX9_image_18 : decode cX9_image 18 = .ok (.getfield 49, 3) := by decide +kernel
theorem dX9_image_21 : decode cX9_image 21 = .ok (.iload_n 1, 1) := by decide +kernel
theorem dX9_image_22 : decode cX9_image 22 = .ok (.invokestatic 218, 3) := by decide +kernel
theorem dX9_image_25 : decode cX9_image 25 = .ok (.istore_n 1, 1) := by decide +kernel
theorem dX9_image_26 : decode cX9_image 26 = .ok (.aload_n 0, 1) := by decide +kernel
theorem dX9_image_27 : decode cX9_image 27 = .ok (.getfield 16, 3) := by decide +kernel
theorem dX9_image_30 : decode cX9_image 30 = .ok (.aload_n 0, 1) := by decide +kernel
theorem dX9_image_31 : decode cX9_image 31 = .ok (.getfield 49, 3) := by decide +kernel
theorem dX9_image_34 : decode cX9_image 34 = .ok (.iload_n 1, 1) := by decide +kernel
theorem dX9_image_35 : decode cX9_image 35 = .ok (.invokestatic 218, 3) := by decide +kernel
theorem dX9_image_38 : decode cX9_image 38 = .ok (.istore_n 1, 1) := by decide +kernel
theorem dX9_image_39 : decode cX9_image 39 = .ok (.aload_n 0, 1) := by decide +kernel
theorem dX9_image_40 : decode cX9_image 40 = .ok (.getfield 19, 3) := by decide +kernel
theorem dX9_image_43 : decode cX9_image 43 = .ok (.aload_n 0, 1) := by decide +kernel
theorem dX9_image_44 : decode cX9_image 44 = .ok (.getfield 49, 3) := by decide +kernel
theorem dX9_image_47 : decode cX9_image 47 = .ok (.iload_n 1, 1) := by decide +kernel
theorem dX9_image_48 : decode cX9_image 48 = .ok (.invokestatic 218, 3) := by decide +kernel
theorem dX9_image_51 : decode cX9_image 51 = .ok (.istore_n 1, 1) := by decide +kernel
theorem dX9_image_52 : decode cX9_image 52 = .ok (.aload_n 0, 1) := by decide +kernel
theorem dX9_image_53 : decode cX9_image 53 = .ok (.getfield 22, 3) := by decide +kernel
theorem dX9_image_56 : decode cX9_image 56 = .ok (.aload_n 0, 1) := by decide +kernel
theorem dX9_image_57 : decode cX9_image 57 = .ok (.getfield 49, 3) := by decide +kernel
theorem dX9_image_60 : decode cX9_image 60 = .ok (.iload_n 1, 1) := by decide +kernel
theorem dX9_image_61 : decode cX9_image 61 = .ok (.invokestatic 218, 3) := by decide +kernel
theorem dX9_image_64 : decode cX9_image 64 = .ok (.istore_n 1, 1) := by decide +kernel
theorem dX9_image_65 : decode cX9_image 65 = .ok (.aload_n 0, 1) := by decide +kernel
theorem dX9_image_66 : decode cX9_image 66 = .ok (.getfield 25, 3) := by decide +kernel
theorem dX9_image_69 : decode cX9_image 69 = .ok (.aload_n 0, 1) := by decide +kernel
theorem dX9_image_70 : decode cX9_image 70 = .ok (.getfield 49, 3) := by decide +kernel
theorem dX9_image_73 : decode cX9_image 73 = .ok (.iload_n 1, 1) := by decide +kernel
theorem dX9_image_74 : decode cX9_image 74 = .ok (.invokestatic 218, 3) := by decide +kernel
theorem dX9_image_77 : decode cX9_image 77 = .ok (.istore_n 1, 1) := by decide +kernel
theorem dX9_image_78 : decode cX9_image 78 = .ok (.aload_n 0, 1) := by decide +kernel
theorem dX9_image_79 : decode cX9_image 79 = .ok (.getfield 28, 3) := by decide +kernel
theorem dX9_image_82 : decode cX9_image 82 = .ok (.aload_n 0, 1) := by decide +kernel
theorem dX9_image_83 : decode cX9_image 83 = .ok (.getfield 49, 3) := by decide +kernel
theorem dX9_image_86 : decode cX9_image 86 = .ok (.iload_n 1, 1) := by decide +kernel
theorem dX9_image_87 : decode cX9_image 87 = .ok (.invokestatic 218, 3) := by decide +kernel
theorem dX9_image_90 : decode cX9_image 90 = .ok (.istore_n 1, 1) := by decide +kernel
theorem dX9_image_91 : decode cX9_image 91 = .ok (.aload_n 0, 1) := by decide +kernel
theorem dX9_image_92 : decode cX9_image 92 = .ok (.getfield 37, 3) := by decide +kernel
theorem dX9_image_95 : decode cX9_image 95 = .ok (.aload_n 0, 1) := by decide +kernel
theorem dX9_image_96 : decode cX9_image 96 = .ok (.getfield 49, 3) := by decide +kernel
theorem dX9_image_99 : decode cX9_image 99 = .ok (.iload_n 1, 1) := by decide +kernel
theorem dX9_image_100 : decode cX9_image 100 = .ok (.invokestatic 218, 3) := by decide +kernel
theorem dX9_image_103 : decode cX9_image 103 = .ok (.istore_n 1, 1) := by decide +kernel
theorem dX9_image_104 : decode cX9_image 104 = .ok (.aload_n 0, 1) := by decide +kernel
theorem dX9_image_105 : decode cX9_image 105 = .ok (.getfield 43, 3) := by decide +kernel
theorem dX9_image_108 : decode cX9_image 108 = .ok (.aload_n 0, 1) := by decide +kernel
theorem dX9_image_109 : decode cX9_image 109 = .ok (.getfield 49, 3) := by decide +kernel
theorem dX9_image_112 : decode cX9_image 112 = .ok (.iload_n 1, 1) := by decide +kernel
theorem dX9_image_113 : decode cX9_image 113 = .ok (.invokestatic 218, 3) := by decide +kernel
theorem dX9_image_116 : decode cX9_image 116 = .ok (.istore_n 1, 1) := by decide +kernel
theorem dX9_image_117 : decode cX9_image 117 = .ok (.aload_n 0, 1) := by decide +kernel
theorem dX9_image_118 : decode cX9_image 118 = .ok (.getfield 46, 3) := by decide +kernel
theorem dX9_image_121 : decode cX9_image 121 = .ok (.aload_n 0, 1) := by decide +kernel
theorem dX9_image_122 : decode cX9_image 122 = .ok (.getfield 49, 3) := by decide +kernel
theorem dX9_image_125 : decode cX9_image 125 = .ok (.iload_n 1, 1) := by decide +kernel
theorem dX9_image_126 : decode cX9_image 126 = .ok (.invokestatic 218, 3) := by decide +kernel
theorem dX9_image_129 : decode cX9_image 129 = .ok (.istore_n 1, 1) := by decide +kernel
theorem dX9_image_130 : decode cX9_image 130 = .ok (.aload_n 0, 1) := by decide +kernel
theorem dX9_image_131 : decode cX9_image 131 = .ok (.getfield 49, 3) := by decide +kernel
theorem dX9_image_134 : decode cX9_image 134 = .ok (.iload_n 1, 1) := by decide +kernel
theorem dX9_image_135 : decode cX9_image 135 = .ok (.aload_n 0, 1) := by decide +kernel
theorem dX9_image_136 : decode cX9_image 136 = .ok (.getfield 64, 3) := by decide +kernel
theorem dX9_image_139 : decode cX9_image 139 = .ok (.iastore, 1) := by decide +kernel
theorem dX9_image_140 : decode cX9_image 140 = .ok (.aload_n 0, 1) := by decide +kernel
theorem dX9_image_141 : decode cX9_image 141 = .ok (.getfield 49, 3) := by decide +kernel
theorem dX9_image_144 : decode cX9_image 144 = .ok (.iload_n 1, 1) := by decide +kernel
theorem dX9_image_145 : decode cX9_image 145 = .ok (.iconst 1, 1) := by decide +kernel
theorem dX9_image_146 : decode cX9_image 146 = .ok (.iadd, 1) := by decide +kernel
theorem dX9_image_147 : decode cX9_image 147 = .ok (.aload_n 0, 1) := by decide +kernel
theorem dX9_image_148 : decode cX9_image 148 = .ok (.getfield 76, 3) := by decide +kernel
theorem dX9_image_151 : decode cX9_image 151 = .ok (.iastore, 1) := by decide +kernel
theorem dX9_image_152 : decode cX9_image 152 = .ok (.aload_n 0, 1) := by decide +kernel
theorem dX9_image_153 : decode cX9_image 153 = .ok (.getfield 49, 3) := by decide +kernel
theorem dX9_image_156 : decode cX9_image 156 = .ok (.iload_n 1, 1) := by decide +kernel
theorem dX9_image_157 : decode cX9_image 157 = .ok (.iconst 2, 1) := by decide +kernel
theorem dX9_image_158 : decode cX9_image 158 = .ok (.iadd, 1) := by decide +kernel
theorem dX9_image_159 : decode cX9_image 159 = .ok (.aload_n 0, 1) := by decide +kernel
theorem dX9_image_160 : decode cX9_image 160 = .ok (.getfield 163, 3) := by decide +kernel
theorem dX9_image_163 : decode cX9_image 163 = .ok (.iastore, 1) := by decide +kernel
theorem dX9_image_164 : decode cX9_image 164 = .ok (.aload_n 0, 1) := by decide +kernel
theorem dX9_image_165 : decode cX9_image 165 = .ok (.getfield 49, 3) := by decide +kernel
theorem dX9_image_168 : decode cX9_image 168 = .ok (.iload_n 1, 1) := by decide +kernel
theorem dX9_image_169 : decode cX9_image 169 = .ok (.iconst 3, 1) := by decide +kernel
theorem dX9_image_170 : decode cX9_image 170 = .ok (.iadd, 1) := by decide +kernel
theorem dX9_image_171 : decode cX9_image 171 = .ok (.aload_n 0, 1) := by decide +kernel
theorem dX9_image_172 : decode cX9_image 172 = .ok (.getfield 166, 3) := by decide +kernel
theorem dX9_image_175 : decode cX9_image 175 = .ok (.iastore, 1) := by decide +kernel
theorem dX9_image_176 : decode cX9_image 176 = .ok (.aload_n 0, 1) := by decide +kernel
theorem dX9_image_177 : decode cX9_image 177 = .ok (.iconst 1, 1) := by decide +kernel
theorem dX9_image_178 : decode cX9_image 178 = .ok (.putfield 222, 3) := by decide +kernel
theorem dX9_image_181 : decode cX9_image 181 = .ok (.iconst 1, 1) := by decide +kernel
theorem dX9_image_182 : decode cX9_image 182 = .ok (.ireturn, 1) := by decide +kernel
theorem dX9_restore_0 : decode cX9_restore 0 = .ok (.aload_n 0, 1) := by decide +kernel
theorem dX9_restore_1 : decode cX9_restore 1 = .ok (.getfield 222, 3) := by decide +kernel
theorem dX9_restore_4 : decode cX9_restore 4 = .ok (.ifCond .ne 6, 3) := by decide +kernel
theorem dX9_restore_7 : decode cX9_restore 7 = .ok (.bipush (-4), 2) := by decide +kernel
theorem dX9_restore_9 : decode cX9_restore 9 = .ok (.ireturn, 1) := by decide +kernel
theorem dX9_restore_10 : decode cX9_restore 10 = .ok (.aload_n 0, 1) := by decide +kernel
theorem dX9_restore_11 : decode cX9_restore 11 = .ok (.getfield 49, 3) := by decide +kernel
theorem dX9_restore_14 : decode cX9_restore 14 = .ok (.iconst 0, 1) := by decide +kernel
theorem dX9_restore_15 : decode cX9_restore 15 = .ok (.aload_n 0, 1) := by decide +kernel
theorem dX9_restore_16 : decode cX9_restore 16 = .ok (.getfield 7, 3) := by decide +kernel
theorem dX9_restore_19 : decode cX9_restore 19 = .ok (.invokestatic 225, 3) := by decide +kernel
theorem dX9_restore_22 : decode cX9_restore 22 = .ok (.istore_n 1, 1) := by decide +kernel
theorem dX9_restore_23 : decode cX9_restore 23 = .ok (.aload_n 0, 1) := by decide +kernel
theorem dX9_restore_24 : decode cX9_restore 24 = .ok (.getfield 49, 3) := by decide +kernel
theorem dX9_restore_27 : decode cX9_restore 27 = .ok (.iload_n 1, 1) := by decide +kernel
theorem dX9_restore_28 : decode cX9_restore 28 = .ok (.aload_n 0, 1) := by decide +kernel
theorem dX9_restore_29 : decode cX9_restore 29 = .ok (.getfield 13, 3) := by decide +kernel
theorem dX9_restore_32 : decode cX9_restore 32 = .ok (.invokestatic 225, 3) := by decide +kernel
theorem dX9_restore_35 : decode cX9_restore 35 = .ok (.istore_n 1, 1) := by decide +kernel
theorem dX9_restore_36 : decode cX9_restore 36 = .ok (.aload_n 0, 1) := by decide +kernel
theorem dX9_restore_37 : decode cX9_restore 37 = .ok (.getfield 49, 3) := by decide +kernel
theorem dX9_restore_40 : decode cX9_restore 40 = .ok (.iload_n 1, 1) := by decide +kernel
theorem dX9_restore_41 : decode cX9_restore 41 = .ok (.aload_n 0, 1) := by decide +kernel
theorem dX9_restore_42 : decode cX9_restore 42 = .ok (.getfield 16, 3) := by decide +kernel
theorem dX9_restore_45 : decode cX9_restore 45 = .ok (.invokestatic 225, 3) := by decide +kernel
theorem dX9_restore_48 : decode cX9_restore 48 = .ok (.istore_n 1, 1) := by decide +kernel
theorem dX9_restore_49 : decode cX9_restore 49 = .ok (.aload_n 0, 1) := by decide +kernel
theorem dX9_restore_50 : decode cX9_restore 50 = .ok (.getfield 49, 3) := by decide +kernel
theorem dX9_restore_53 : decode cX9_restore 53 = .ok (.iload_n 1, 1) := by decide +kernel
theorem dX9_restore_54 : decode cX9_restore 54 = .ok (.aload_n 0, 1) := by decide +kernel
theorem dX9_restore_55 : decode cX9_restore 55 = .ok (.getfield 19, 3) := by decide +kernel
theorem dX9_restore_58 : decode cX9_restore 58 = .ok (.invokestatic 225, 3) := by decide +kernel
theorem dX9_restore_61 : decode cX9_restore 61 = .ok (.istore_n 1, 1) := by decide +kernel
theorem dX9_restore_62 : decode cX9_restore 62 = .ok (.aload_n 0, 1) := by decide +kernel
theorem dX9_restore_63 : decode cX9_restore 63 = .ok (.getfield 49, 3) := by decide +kernel
theorem dX9_restore_66 : decode cX9_restore 66 = .ok (.iload_n 1, 1) := by decide +kernel
theorem dX9_restore_67 : decode cX9_restore 67 = .ok (.aload_n 0, 1) := by decide +kernel
theorem dX9_restore_68 : decode cX9_restore 68 = .ok (.getfield 22, 3) := by decide +kernel
theorem dX9_restore_71 : decode cX9_restore 71 = .ok (.invokestatic 225, 3) := by decide +kernel
theorem dX9_restore_74 : decode cX9_restore 74 = .ok (.istore_n 1, 1) := by decide +kernel
theorem dX9_restore_75 : decode cX9_restore 75 = .ok (.aload_n 0, 1) := by decide +kernel
theorem dX9_restore_76 : decode cX9_restore 76 = .ok (.getfield 49, 3) := by decide +kernel
theorem dX9_restore_79 : decode cX9_restore 79 = .ok (.iload_n 1, 1) := by decide +kernel
theorem dX9_restore_80 : decode cX9_restore 80 = .ok (.aload_n 0, 1) := by decide +kernel
theorem dX9_restore_81 : decode cX9_restore 81 = .ok (.getfield 25, 3) := by decide +kernel
theorem dX9_restore_84 : decode cX9_restore 84 = .ok (.invokestatic 225, 3) := by decide +kernel
theorem dX9_restore_87 : decode cX9_restore 87 = .ok (.istore_n 1, 1) := by decide +kernel
theorem dX9_restore_88 : decode cX9_restore 88 = .ok (.aload_n 0, 1) := by decide +kernel
theorem dX9_restore_89 : decode cX9_restore 89 = .ok (.getfield 49, 3) := by decide +kernel
theorem dX9_restore_92 : decode cX9_restore 92 = .ok (.iload_n 1, 1) := by decide +kernel
theorem dX9_restore_93 : decode cX9_restore 93 = .ok (.aload_n 0, 1) := by decide +kernel
theorem dX9_restore_94 : decode cX9_restore 94 = .ok (.getfield 28, 3) := by decide +kernel
theorem dX9_restore_97 : decode cX9_restore 97 = .ok (.invokestatic 225, 3) := by decide +kernel
theorem dX9_restore_100 : decode cX9_restore 100 = .ok (.istore_n 1, 1) := by decide +kernel
theorem dX9_restore_101 : decode cX9_restore 101 = .ok (.aload_n 0, 1) := by decide +kernel
theorem dX9_restore_102 : decode cX9_restore 102 = .ok (.getfield 49, 3) := by decide +kernel
theorem dX9_restore_105 : decode cX9_restore 105 = .ok (.iload_n 1, 1) := by decide +kernel
theorem dX9_restore_106 : decode cX9_restore 106 = .ok (.aload_n 0, 1) := by decide +kernel
theorem dX9_restore_107 : decode cX9_restore 107 = .ok (.getfield 37, 3) := by decide +kernel
theorem dX9_restore_110 : decode cX9_restore 110 = .ok (.invokestatic 225, 3) := by decide +kernel
theorem dX9_restore_113 : decode cX9_restore 113 = .ok (.istore_n 1, 1) := by decide +kernel
theorem dX9_restore_114 : decode cX9_restore 114 = .ok (.aload_n 0, 1) := by decide +kernel
theorem dX9_restore_115 : decode cX9_restore 115 = .ok (.getfield 49, 3) := by decide +kernel
theorem dX9_restore_118 : decode cX9_restore 118 = .ok (.iload_n 1, 1) := by decide +kernel
theorem dX9_restore_119 : decode cX9_restore 119 = .ok (.aload_n 0, 1) := by decide +kernel
theorem dX9_restore_120 : decode cX9_restore 120 = .ok (.getfield 43, 3) := by decide +kernel
theorem dX9_restore_123 : decode cX9_restore 123 = .ok (.invokestatic 225, 3) := by decide +kernel
theorem dX9_restore_126 : decode cX9_restore 126 = .ok (.istore_n 1, 1) := by decide +kernel
theorem dX9_restore_127 : decode cX9_restore 127 = .ok (.aload_n 0, 1) := by decide +kernel
theorem dX9_restore_128 : decode cX9_restore 128 = .ok (.getfield 49, 3) := by decide +kernel
theorem dX9_restore_131 : decode cX9_restore 131 = .ok (.iload_n 1, 1) := by decide +kernel
theorem dX9_restore_132 : decode cX9_restore 132 = .ok (.aload_n 0, 1) := by decide +kernel
theorem dX9_restore_133 : decode cX9_restore 133 = .ok (.getfield 46, 3) := by decide +kernel
theorem dX9_restore_136 : decode cX9_restore 136 = .ok (.invokestatic 225, 3) := by decide +kernel
theorem dX9_restore_139 : decode cX9_restore 139 = .ok (.istore_n 1, 1) := by decide +kernel
theorem dX9_restore_140 : decode cX9_restore 140 = .ok (.aload_n 0, 1) := by decide +kernel
theorem dX9_restore_141 : decode cX9_restore 141 = .ok (.aload_n 0, 1) := by decide +kernel
theorem dX9_restore_142 : decode cX9_restore 142 = .ok (.getfield 49, 3) := by decide +kernel
theorem dX9_restore_145 : decode cX9_restore 145 = .ok (.iload_n 1, 1) := by decide +kernel
theorem dX9_restore_146 : decode cX9_restore 146 = .ok (.iaload, 1) := by decide +kernel
theorem dX9_restore_147 : decode cX9_restore 147 = .ok (.putfield 64, 3) := by decide +kernel
theorem dX9_restore_150 : decode cX9_restore 150 = .ok (.aload_n 0, 1) := by decide +kernel
theorem dX9_restore_151 : decode cX9_restore 151 = .ok (.aload_n 0, 1) := by decide +kernel
theorem dX9_restore_152 : decode cX9_restore 152 = .ok (.getfield 49, 3) := by decide +kernel
theorem dX9_restore_155 : decode cX9_restore 155 = .ok (.iload_n 1, 1) := by decide +kernel
theorem dX9_restore_156 : decode cX9_restore 156 = .ok (.iconst 1, 1) := by decide +kernel
theorem dX9_restore_157 : decode cX9_restore 157 = .ok (.iadd, 1) := by decide +kernel
theorem dX9_restore_158 : decode cX9_restore 158 = .ok (.iaload, 1) := by decide +kernel
theorem dX9_restore_159 : decode cX9_restore 159 = .ok (.putfield 76, 3) := by decide +kernel
theorem dX9_restore_162 : decode cX9_restore 162 = .ok (.aload_n 0, 1) := by decide +kernel
theorem dX9_restore_163 : decode cX9_restore 163 = .ok (.aload_n 0, 1) := by decide +kernel
theorem dX9_restore_164 : decode cX9_restore 164 = .ok (.getfield 49, 3) := by decide +kernel
theorem dX9_restore_167 : decode cX9_restore 167 = .ok (.iload_n 1, 1) := by decide +kernel
theorem dX9_restore_168 : decode cX9_restore 168 = .ok (.iconst 2, 1) := by decide +kernel
theorem dX9_restore_169 : decode cX9_restore 169 = .ok (.iadd, 1) := by decide +kernel
theorem dX9_restore_170 : decode cX9_restore 170 = .ok (.iaload, 1) := by decide +kernel
theorem dX9_restore_171 : decode cX9_restore 171 = .ok (.putfield 163, 3) := by decide +kernel
theorem dX9_restore_174 : decode cX9_restore 174 = .ok (.aload_n 0, 1) := by decide +kernel
theorem dX9_restore_175 : decode cX9_restore 175 = .ok (.aload_n 0, 1) := by decide +kernel
theorem dX9_restore_176 : decode cX9_restore 176 = .ok (.getfield 49, 3) := by decide +kernel
theorem dX9_restore_179 : decode cX9_restore 179 = .ok (.iload_n 1, 1) := by decide +kernel
theorem dX9_restore_180 : decode cX9_restore 180 = .ok (.iconst 3, 1) := by decide +kernel
theorem dX9_restore_181 : decode cX9_restore 181 = .ok (.iadd, 1) := by decide +kernel
theorem dX9_restore_182 : decode cX9_restore 182 = .ok (.iaload, 1) := by decide +kernel
theorem dX9_restore_183 : decode cX9_restore 183 = .ok (.putfield 166, 3) := by decide +kernel
theorem dX9_restore_186 : decode cX9_restore 186 = .ok (.iconst 1, 1) := by decide +kernel
theorem dX9_restore_187 : decode cX9_restore 187 = .ok (.ireturn, 1) := by decide +kernel
theorem dX9_isSheet_0 : decode cX9_isSheet 0 = .ok (.iload_n 0, 1) := by decide +kernel
theorem dX9_isSheet_1 : decode cX9_isSheet 1 = .ok (.i2l, 1) := by decide +kernel
theorem dX9_isSheet_2 : decode cX9_isSheet 2 = .ok (.lconst 0, 1) := by decide +kernel
theorem dX9_isSheet_3 : decode cX9_isSheet 3 = .ok (.ldc2_w 74, 3) := by decide +kernel
theorem dX9_isSheet_6 : decode cX9_isSheet 6 = .ok (.invokestatic 70, 3) := by decide +kernel
theorem dX9_isSheet_9 : decode cX9_isSheet 9 = .ok (.ireturn, 1) := by decide +kernel
theorem dX9_isLane_0 : decode cX9_isLane 0 = .ok (.iload_n 0, 1) := by decide +kernel
theorem dX9_isLane_1 : decode cX9_isLane 1 = .ok (.i2l, 1) := by decide +kernel
theorem dX9_isLane_2 : decode cX9_isLane 2 = .ok (.lconst 0, 1) := by decide +kernel
theorem dX9_isLane_3 : decode cX9_isLane 3 = .ok (.ldc2_w 88, 3) := by decide +kernel
theorem dX9_isLane_6 : decode cX9_isLane 6 = .ok (.invokestatic 70, 3) := by decide +kernel
theorem dX9_isLane_9 : decode cX9_isLane 9 = .ok (.ireturn, 1) := by decide +kernel
theorem dX9_finds_0 : decode cX9_finds 0 = .ok (.aload_n 0, 1) := by decide +kernel
theorem dX9_finds_1 : decode cX9_finds 1 = .ok (.getfield 52, 3) := by decide +kernel
theorem dX9_finds_4 : decode cX9_finds 4 = .ok (.iload_n 1, 1) := by decide +kernel
theorem dX9_finds_5 : decode cX9_finds 5 = .ok (.iaload, 1) := by decide +kernel
theorem dX9_finds_6 : decode cX9_finds 6 = .ok (.ifCond .ge 6, 3) := by decide +kernel
theorem dX9_finds_9 : decode cX9_finds 9 = .ok (.bipush (-11), 2) := by decide +kernel
theorem dX9_finds_11 : decode cX9_finds 11 = .ok (.ireturn, 1) := by decide +kernel
theorem dX9_finds_12 : decode cX9_finds 12 = .ok (.aload_n 0, 1) := by decide +kernel
theorem dX9_finds_13 : decode cX9_finds 13 = .ok (.getfield 52, 3) := by decide +kernel
theorem dX9_finds_16 : decode cX9_finds 16 = .ok (.iload_n 1, 1) := by decide +kernel
theorem dX9_finds_17 : decode cX9_finds 17 = .ok (.iaload, 1) := by decide +kernel
theorem dX9_finds_18 : decode cX9_finds 18 = .ok (.iload_n 2, 1) := by decide +kernel
theorem dX9_finds_19 : decode cX9_finds 19 = .ok (.if_icmp .eq 6, 3) := by decide +kernel
theorem dX9_finds_22 : decode cX9_finds 22 = .ok (.bipush (-12), 2) := by decide +kernel
theorem dX9_finds_24 : decode cX9_finds 24 = .ok (.ireturn, 1) := by decide +kernel
theorem dX9_finds_25 : decode cX9_finds 25 = .ok (.iload_n 3, 1) := by decide +kernel
theorem dX9_finds_26 : decode cX9_finds 26 = .ok (.ifCond .lt 20, 3) := by decide +kernel
theorem dX9_finds_29 : decode cX9_finds 29 = .ok (.iload_n 3, 1) := by decide +kernel
theorem dX9_finds_30 : decode cX9_finds 30 = .ok (.i2l, 1) := by decide +kernel
theorem dX9_finds_31 : decode cX9_finds 31 = .ok (.iload 4, 2) := by decide +kernel
theorem dX9_finds_33 : decode cX9_finds 33 = .ok (.i2l, 1) := by decide +kernel
theorem dX9_finds_34 : decode cX9_finds 34 = .ok (.ladd, 1) := by decide +kernel
theorem dX9_finds_35 : decode cX9_finds 35 = .ok (.aload_n 0, 1) := by decide +kernel
theorem dX9_finds_36 : decode cX9_finds 36 = .ok (.getfield 55, 3) := by decide +kernel
theorem dX9_finds_39 : decode cX9_finds 39 = .ok (.iload_n 1, 1) := by decide +kernel
theorem dX9_finds_40 : decode cX9_finds 40 = .ok (.iaload, 1) := by decide +kernel
theorem dX9_finds_41 : decode cX9_finds 41 = .ok (.i2l, 1) := by decide +kernel
theorem dX9_finds_42 : decode cX9_finds 42 = .ok (.lcmp, 1) := by decide +kernel
theorem dX9_finds_43 : decode cX9_finds 43 = .ok (.ifCond .le 8, 3) := by decide +kernel
theorem dX9_finds_46 : decode cX9_finds 46 = .ok (.bipush (-13), 2) := by decide +kernel
theorem dX9_finds_48 : decode cX9_finds 48 = .ok (.goto 4, 3) := by decide +kernel
theorem dX9_finds_51 : decode cX9_finds 51 = .ok (.iconst 0, 1) := by decide +kernel
theorem dX9_finds_52 : decode cX9_finds 52 = .ok (.ireturn, 1) := by decide +kernel
theorem dX9_eyes_0 : decode cX9_eyes 0 = .ok (.iload_n 1, 1) := by decide +kernel
theorem dX9_eyes_1 : decode cX9_eyes 1 = .ok (.invokestatic 79, 3) := by decide +kernel
theorem dX9_eyes_4 : decode cX9_eyes 4 = .ok (.ifCond .eq 39, 3) := by decide +kernel
theorem dX9_eyes_7 : decode cX9_eyes 7 = .ok (.iload_n 2, 1) := by decide +kernel
theorem dX9_eyes_8 : decode cX9_eyes 8 = .ok (.invokestatic 229, 3) := by decide +kernel
theorem dX9_eyes_11 : decode cX9_eyes 11 = .ok (.ifCond .eq 32, 3) := by decide +kernel
theorem dX9_eyes_14 : decode cX9_eyes 14 = .ok (.iload_n 3, 1) := by decide +kernel
theorem dX9_eyes_15 : decode cX9_eyes 15 = .ok (.invokestatic 232, 3) := by decide +kernel
theorem dX9_eyes_18 : decode cX9_eyes 18 = .ok (.ifCond .eq 25, 3) := by decide +kernel
theorem dX9_eyes_21 : decode cX9_eyes 21 = .ok (.iload 5, 2) := by decide +kernel
theorem dX9_eyes_23 : decode cX9_eyes 23 = .ok (.i2l, 1) := by decide +kernel
theorem dX9_eyes_24 : decode cX9_eyes 24 = .ok (.lconst 1, 1) := by decide +kernel
theorem dX9_eyes_25 : decode cX9_eyes 25 = .ok (.ldc2_w 235, 3) := by decide +kernel
theorem dX9_eyes_28 : decode cX9_eyes 28 = .ok (.invokestatic 70, 3) := by decide +kernel
theorem dX9_eyes_31 : decode cX9_eyes 31 = .ok (.ifCond .eq 12, 3) := by decide +kernel
theorem dX9_eyes_34 : decode cX9_eyes 34 = .ok (.iload_n 1, 1) := by decide +kernel
theorem dX9_eyes_35 : decode cX9_eyes 35 = .ok (.iload 5, 2) := by decide +kernel
theorem dX9_eyes_37 : decode cX9_eyes 37 = .ok (.iadd, 1) := by decide +kernel
theorem dX9_eyes_38 : decode cX9_eyes 38 = .ok (.bipush 16, 2) := by decide +kernel
theorem dX9_eyes_40 : decode cX9_eyes 40 = .ok (.if_icmp .le 5, 3) := by decide +kernel
theorem dX9_eyes_43 : decode cX9_eyes 43 = .ok (.iconst (-1), 1) := by decide +kernel
theorem dX9_eyes_44 : decode cX9_eyes 44 = .ok (.ireturn, 1) := by decide +kernel
theorem dX9_eyes_45 : decode cX9_eyes 45 = .ok (.aload_n 0, 1) := by decide +kernel
theorem dX9_eyes_46 : decode cX9_eyes 46 = .ok (.iload_n 2, 1) := by decide +kernel
theorem dX9_eyes_47 : decode cX9_eyes 47 = .ok (.iload_n 3, 1) := by decide +kernel
theorem dX9_eyes_48 : decode cX9_eyes 48 = .ok (.iload 4, 2) := by decide +kernel
theorem dX9_eyes_50 : decode cX9_eyes 50 = .ok (.iload 5, 2) := by decide +kernel
theorem dX9_eyes_52 : decode cX9_eyes 52 = .ok (.invokevirtual 237, 3) := by decide +kernel
theorem dX9_eyes_55 : decode cX9_eyes 55 = .ok (.istore 6, 2) := by decide +kernel
theorem dX9_eyes_57 : decode cX9_eyes 57 = .ok (.iload 6, 2) := by decide +kernel
theorem dX9_eyes_59 : decode cX9_eyes 59 = .ok (.ifCond .ge 6, 3) := by decide +kernel
theorem dX9_eyes_62 : decode cX9_eyes 62 = .ok (.iload 6, 2) := by decide +kernel
theorem dX9_eyes_64 : decode cX9_eyes 64 = .ok (.ireturn, 1) := by decide +kernel
theorem dX9_eyes_65 : decode cX9_eyes 65 = .ok (.iconst 0, 1) := by decide +kernel
theorem dX9_eyes_66 : decode cX9_eyes 66 = .ok (.istore 7, 2) := by decide +kernel
theorem dX9_eyes_68 : decode cX9_eyes 68 = .ok (.iconst 0, 1) := by decide +kernel
theorem dX9_eyes_69 : decode cX9_eyes 69 = .ok (.istore 8, 2) := by decide +kernel
theorem dX9_eyes_71 : decode cX9_eyes 71 = .ok (.iload 8, 2) := by decide +kernel
theorem dX9_eyes_73 : decode cX9_eyes 73 = .ok (.iload 5, 2) := by decide +kernel
theorem dX9_eyes_75 : decode cX9_eyes 75 = .ok (.if_icmp .ge 59, 3) := by decide +kernel
theorem dX9_eyes_78 : decode cX9_eyes 78 = .ok (.aload_n 0, 1) := by decide +kernel
theorem dX9_eyes_79 : decode cX9_eyes 79 = .ok (.getfield 58, 3) := by decide +kernel
theorem dX9_eyes_82 : decode cX9_eyes 82 = .ok (.bipush 16, 2) := by decide +kernel
theorem dX9_eyes_84 : decode cX9_eyes 84 = .ok (.iload_n 2, 1) := by decide +kernel
theorem dX9_eyes_85 : decode cX9_eyes 85 = .ok (.imul, 1) := by decide +kernel
theorem dX9_eyes_86 : decode cX9_eyes 86 = .ok (.iload 4, 2) := by decide +kernel
theorem dX9_eyes_88 : decode cX9_eyes 88 = .ok (.iadd, 1) := by decide +kernel
theorem dX9_eyes_89 : decode cX9_eyes 89 = .ok (.iload 8, 2) := by decide +kernel
theorem dX9_eyes_91 : decode cX9_eyes 91 = .ok (.iadd, 1) := by decide +kernel
theorem dX9_eyes_92 : decode cX9_eyes 92 = .ok (.iaload, 1) := by decide +kernel
theorem dX9_eyes_93 : decode cX9_eyes 93 = .ok (.istore 9, 2) := by decide +kernel
theorem dX9_eyes_95 : decode cX9_eyes 95 = .ok (.iload 9, 2) := by decide +kernel
theorem dX9_eyes_97 : decode cX9_eyes 97 = .ok (.i2l, 1) := by decide +kernel
theorem dX9_eyes_98 : decode cX9_eyes 98 = .ok (.ldc2_w 90, 3) := by decide +kernel
theorem dX9_eyes_101 : decode cX9_eyes 101 = .ok (.ldc2_w 74, 3) := by decide +kernel
theorem dX9_eyes_104 : decode cX9_eyes 104 = .ok (.invokestatic 70, 3) := by decide +kernel
theorem dX9_eyes_107 : decode cX9_eyes 107 = .ok (.ifCond .ne 6, 3) := by decide +kernel
theorem dX9_eyes_110 : decode cX9_eyes 110 = .ok (.bipush (-2), 2) := by decide +kernel
theorem dX9_eyes_112 : decode cX9_eyes 112 = .ok (.ireturn, 1) := by decide +kernel
theorem dX9_eyes_113 : decode cX9_eyes 113 = .ok (.iload 7, 2) := by decide +kernel
theorem dX9_eyes_115 : decode cX9_eyes 115 = .ok (.iload 9, 2) := by decide +kernel
theorem dX9_eyes_117 : decode cX9_eyes 117 = .ok (.ifCond .lt 7, 3) := by decide +kernel
theorem dX9_eyes_120 : decode cX9_eyes 120 = .ok (.iconst 1, 1) := by decide +kernel
theorem dX9_eyes_121 : decode cX9_eyes 121 = .ok (.goto 4, 3) := by decide +kernel
theorem dX9_eyes_124 : decode cX9_eyes 124 = .ok (.iconst 0, 1) := by decide +kernel
theorem dX9_eyes_125 : decode cX9_eyes 125 = .ok (.iadd, 1) := by decide +kernel
theorem dX9_eyes_126 : decode cX9_eyes 126 = .ok (.istore 7, 2) := by decide +kernel
theorem dX9_eyes_128 : decode cX9_eyes 128 = .ok (.iinc 8 1, 3) := by decide +kernel
theorem dX9_eyes_131 : decode cX9_eyes 131 = .ok (.goto (-60), 3) := by decide +kernel
theorem dX9_eyes_134 : decode cX9_eyes 134 = .ok (.aload_n 0, 1) := by decide +kernel
theorem dX9_eyes_135 : decode cX9_eyes 135 = .ok (.getfield 166, 3) := by decide +kernel
theorem dX9_eyes_138 : decode cX9_eyes 138 = .ok (.iload 7, 2) := by decide +kernel
theorem dX9_eyes_140 : decode cX9_eyes 140 = .ok (.iadd, 1) := by decide +kernel
theorem dX9_eyes_141 : decode cX9_eyes 141 = .ok (.bipush 24, 2) := by decide +kernel
theorem dX9_eyes_143 : decode cX9_eyes 143 = .ok (.if_icmp .le 6, 3) := by decide +kernel
theorem dX9_eyes_146 : decode cX9_eyes 146 = .ok (.bipush (-3), 2) := by decide +kernel
theorem dX9_eyes_148 : decode cX9_eyes 148 = .ok (.ireturn, 1) := by decide +kernel
theorem dX9_eyes_149 : decode cX9_eyes 149 = .ok (.iconst 0, 1) := by decide +kernel
theorem dX9_eyes_150 : decode cX9_eyes 150 = .ok (.istore 8, 2) := by decide +kernel
theorem dX9_eyes_152 : decode cX9_eyes 152 = .ok (.iload 8, 2) := by decide +kernel
theorem dX9_eyes_154 : decode cX9_eyes 154 = .ok (.iload 5, 2) := by decide +kernel
theorem dX9_eyes_156 : decode cX9_eyes 156 = .ok (.if_icmp .ge 50, 3) := by decide +kernel
theorem dX9_eyes_159 : decode cX9_eyes 159 = .ok (.aload_n 0, 1) := by decide +kernel
theorem dX9_eyes_160 : decode cX9_eyes 160 = .ok (.getfield 58, 3) := by decide +kernel
theorem dX9_eyes_163 : decode cX9_eyes 163 = .ok (.bipush 16, 2) := by decide +kernel
theorem dX9_eyes_165 : decode cX9_eyes 165 = .ok (.iload_n 2, 1) := by decide +kernel
theorem dX9_eyes_166 : decode cX9_eyes 166 = .ok (.imul, 1) := by decide +kernel
theorem dX9_eyes_167 : decode cX9_eyes 167 = .ok (.iload 4, 2) := by decide +kernel
theorem dX9_eyes_169 : decode cX9_eyes 169 = .ok (.iadd, 1) := by decide +kernel
theorem dX9_eyes_170 : decode cX9_eyes 170 = .ok (.iload 8, 2) := by decide +kernel
theorem dX9_eyes_172 : decode cX9_eyes 172 = .ok (.iadd, 1) := by decide +kernel
theorem dX9_eyes_173 : decode cX9_eyes 173 = .ok (.iaload, 1) := by decide +kernel
theorem dX9_eyes_174 : decode cX9_eyes 174 = .ok (.ifCond .lt 26, 3) := by decide +kernel
theorem dX9_eyes_177 : decode cX9_eyes 177 = .ok (.aload_n 0, 1) := by decide +kernel
theorem dX9_eyes_178 : decode cX9_eyes 178 = .ok (.iload_n 1, 1) := by decide +kernel
theorem dX9_eyes_179 : decode cX9_eyes 179 = .ok (.iload 8, 2) := by decide +kernel
theorem dX9_eyes_181 : decode cX9_eyes 181 = .ok (.iadd, 1) := by decide +kernel
theorem dX9_eyes_182 : decode cX9_eyes 182 = .ok (.aload_n 0, 1) := by decide +kernel
theorem dX9_eyes_183 : decode cX9_eyes 183 = .ok (.getfield 58, 3) := by decide +kernel
theorem dX9_eyes_186 : decode cX9_eyes 186 = .ok (.bipush 16, 2) := by decide +kernel
theorem dX9_eyes_188 : decode cX9_eyes 188 = .ok (.iload_n 2, 1) := by decide +kernel
theorem dX9_eyes_189 : decode cX9_eyes 189 = .ok (.imul, 1) := by decide +kernel
theorem dX9_eyes_190 : decode cX9_eyes 190 = .ok (.iload 4, 2) := by decide +kernel
theorem dX9_eyes_192 : decode cX9_eyes 192 = .ok (.iadd, 1) := by decide +kernel
theorem dX9_eyes_193 : decode cX9_eyes 193 = .ok (.iload 8, 2) := by decide +kernel
theorem dX9_eyes_195 : decode cX9_eyes 195 = .ok (.iadd, 1) := by decide +kernel
theorem dX9_eyes_196 : decode cX9_eyes 196 = .ok (.iaload, 1) := by decide +kernel
theorem dX9_eyes_197 : decode cX9_eyes 197 = .ok (.invokevirtual 211, 3) := by decide +kernel
theorem dX9_eyes_200 : decode cX9_eyes 200 = .ok (.iinc 8 1, 3) := by decide +kernel
theorem dX9_eyes_203 : decode cX9_eyes 203 = .ok (.goto (-51), 3) := by decide +kernel
theorem dX9_eyes_206 : decode cX9_eyes 206 = .ok (.iload 7, 2) := by decide +kernel
theorem dX9_eyes_208 : decode cX9_eyes 208 = .ok (.ireturn, 1) := by decide +kernel
theorem dX9_sheet_0 : decode cX9_sheet 0 = .ok (.iload_n 1, 1) := by decide +kernel
theorem dX9_sheet_1 : decode cX9_sheet 1 = .ok (.invokestatic 229, 3) := by decide +kernel
theorem dX9_sheet_4 : decode cX9_sheet 4 = .ok (.ifCond .eq 16, 3) := by decide +kernel
theorem dX9_sheet_7 : decode cX9_sheet 7 = .ok (.iload_n 2, 1) := by decide +kernel
theorem dX9_sheet_8 : decode cX9_sheet 8 = .ok (.invokestatic 232, 3) := by decide +kernel
theorem dX9_sheet_11 : decode cX9_sheet 11 = .ok (.ifCond .eq 9, 3) := by decide +kernel
theorem dX9_sheet_14 : decode cX9_sheet 14 = .ok (.iload_n 3, 1) := by decide +kernel
theorem dX9_sheet_15 : decode cX9_sheet 15 = .ok (.bipush 16, 2) := by decide +kernel
theorem dX9_sheet_17 : decode cX9_sheet 17 = .ok (.if_icmp .le 5, 3) := by decide +kernel
theorem dX9_sheet_20 : decode cX9_sheet 20 = .ok (.iconst (-1), 1) := by decide +kernel
theorem dX9_sheet_21 : decode cX9_sheet 21 = .ok (.ireturn, 1) := by decide +kernel
theorem dX9_sheet_22 : decode cX9_sheet 22 = .ok (.iload_n 3, 1) := by decide +kernel
theorem dX9_sheet_23 : decode cX9_sheet 23 = .ok (.ifCond .ge 6, 3) := by decide +kernel
theorem dX9_sheet_26 : decode cX9_sheet 26 = .ok (.bipush (-14), 2) := by decide +kernel
theorem dX9_sheet_28 : decode cX9_sheet 28 = .ok (.ireturn, 1) := by decide +kernel
theorem dX9_sheet_29 : decode cX9_sheet 29 = .ok (.aload_n 0, 1) := by decide +kernel
theorem dX9_sheet_30 : decode cX9_sheet 30 = .ok (.getfield 52, 3) := by decide +kernel
theorem dX9_sheet_33 : decode cX9_sheet 33 = .ok (.iload_n 1, 1) := by decide +kernel
theorem dX9_sheet_34 : decode cX9_sheet 34 = .ok (.iload_n 2, 1) := by decide +kernel
theorem dX9_sheet_35 : decode cX9_sheet 35 = .ok (.iastore, 1) := by decide +kernel
theorem dX9_sheet_36 : decode cX9_sheet 36 = .ok (.aload_n 0, 1) := by decide +kernel
theorem dX9_sheet_37 : decode cX9_sheet 37 = .ok (.getfield 55, 3) := by decide +kernel
theorem dX9_sheet_40 : decode cX9_sheet 40 = .ok (.iload_n 1, 1) := by decide +kernel
theorem dX9_sheet_41 : decode cX9_sheet 41 = .ok (.iload_n 3, 1) := by decide +kernel
theorem dX9_sheet_42 : decode cX9_sheet 42 = .ok (.iastore, 1) := by decide +kernel
theorem dX9_sheet_43 : decode cX9_sheet 43 = .ok (.iconst 0, 1) := by decide +kernel
theorem dX9_sheet_44 : decode cX9_sheet 44 = .ok (.istore 4, 2) := by decide +kernel
theorem dX9_sheet_46 : decode cX9_sheet 46 = .ok (.iload 4, 2) := by decide +kernel
theorem dX9_sheet_48 : decode cX9_sheet 48 = .ok (.bipush 16, 2) := by decide +kernel
theorem dX9_sheet_50 : decode cX9_sheet 50 = .ok (.if_icmp .ge 22, 3) := by decide +kernel
theorem dX9_sheet_53 : decode cX9_sheet 53 = .ok (.aload_n 0, 1) := by decide +kernel
theorem dX9_sheet_54 : decode cX9_sheet 54 = .ok (.getfield 58, 3) := by decide +kernel
theorem dX9_sheet_57 : decode cX9_sheet 57 = .ok (.bipush 16, 2) := by decide +kernel
theorem dX9_sheet_59 : decode cX9_sheet 59 = .ok (.iload_n 1, 1) := by decide +kernel
theorem dX9_sheet_60 : decode cX9_sheet 60 = .ok (.imul, 1) := by decide +kernel
theorem dX9_sheet_61 : decode cX9_sheet 61 = .ok (.iload 4, 2) := by decide +kernel
theorem dX9_sheet_63 : decode cX9_sheet 63 = .ok (.iadd, 1) := by decide +kernel
theorem dX9_sheet_64 : decode cX9_sheet 64 = .ok (.iconst 0, 1) := by decide +kernel
theorem dX9_sheet_65 : decode cX9_sheet 65 = .ok (.iastore, 1) := by decide +kernel
theorem dX9_sheet_66 : decode cX9_sheet 66 = .ok (.iinc 4 1, 3) := by decide +kernel
theorem dX9_sheet_69 : decode cX9_sheet 69 = .ok (.goto (-23), 3) := by decide +kernel
theorem dX9_sheet_72 : decode cX9_sheet 72 = .ok (.iload_n 3, 1) := by decide +kernel
theorem dX9_sheet_73 : decode cX9_sheet 73 = .ok (.ireturn, 1) := by decide +kernel
theorem dX9_drop_0 : decode cX9_drop 0 = .ok (.iload_n 1, 1) := by decide +kernel
theorem dX9_drop_1 : decode cX9_drop 1 = .ok (.invokestatic 229, 3) := by decide +kernel
theorem dX9_drop_4 : decode cX9_drop 4 = .ok (.ifCond .ne 5, 3) := by decide +kernel
theorem dX9_drop_7 : decode cX9_drop 7 = .ok (.iconst (-1), 1) := by decide +kernel
theorem dX9_drop_8 : decode cX9_drop 8 = .ok (.ireturn, 1) := by decide +kernel
theorem dX9_drop_9 : decode cX9_drop 9 = .ok (.aload_n 0, 1) := by decide +kernel
theorem dX9_drop_10 : decode cX9_drop 10 = .ok (.getfield 52, 3) := by decide +kernel
theorem dX9_drop_13 : decode cX9_drop 13 = .ok (.iload_n 1, 1) := by decide +kernel
theorem dX9_drop_14 : decode cX9_drop 14 = .ok (.iaload, 1) := by decide +kernel
theorem dX9_drop_15 : decode cX9_drop 15 = .ok (.ifCond .ge 6, 3) := by decide +kernel
theorem dX9_drop_18 : decode cX9_drop 18 = .ok (.bipush (-11), 2) := by decide +kernel
theorem dX9_drop_20 : decode cX9_drop 20 = .ok (.ireturn, 1) := by decide +kernel
theorem dX9_drop_21 : decode cX9_drop 21 = .ok (.aload_n 0, 1) := by decide +kernel
theorem dX9_drop_22 : decode cX9_drop 22 = .ok (.getfield 52, 3) := by decide +kernel
theorem dX9_drop_25 : decode cX9_drop 25 = .ok (.iload_n 1, 1) := by decide +kernel
theorem dX9_drop_26 : decode cX9_drop 26 = .ok (.iconst (-1), 1) := by decide +kernel
theorem dX9_drop_27 : decode cX9_drop 27 = .ok (.iastore, 1) := by decide +kernel
theorem dX9_drop_28 : decode cX9_drop 28 = .ok (.aload_n 0, 1) := by decide +kernel
theorem dX9_drop_29 : decode cX9_drop 29 = .ok (.getfield 55, 3) := by decide +kernel
theorem dX9_drop_32 : decode cX9_drop 32 = .ok (.iload_n 1, 1) := by decide +kernel
theorem dX9_drop_33 : decode cX9_drop 33 = .ok (.iaload, 1) := by decide +kernel
theorem dX9_drop_34 : decode cX9_drop 34 = .ok (.ireturn, 1) := by decide +kernel
theorem dX9_item_0 : decode cX9_item 0 = .ok (.iload_n 1, 1) := by decide +kernel
theorem dX9_item_1 : decode cX9_item 1 = .ok (.invokestatic 229, 3) := by decide +kernel
theorem dX9_item_4 : decode cX9_item 4 = .ok (.ifCond .eq 10, 3) := by decide +kernel
theorem dX9_item_7 : decode cX9_item 7 = .ok (.iload_n 2, 1) := by decide +kernel
theorem dX9_item_8 : decode cX9_item 8 = .ok (.invokestatic 232, 3) := by decide +kernel
theorem dX9_item_11 : decode cX9_item 11 = .ok (.ifCond .ne 5, 3) := by decide +kernel
theorem dX9_item_14 : decode cX9_item 14 = .ok (.iconst (-1), 1) := by decide +kernel
theorem dX9_item_15 : decode cX9_item 15 = .ok (.ireturn, 1) := by decide +kernel
theorem dX9_item_16 : decode cX9_item 16 = .ok (.aload_n 0, 1) := by decide +kernel
theorem dX9_item_17 : decode cX9_item 17 = .ok (.iload_n 1, 1) := by decide +kernel
theorem dX9_item_18 : decode cX9_item 18 = .ok (.iload_n 2, 1) := by decide +kernel
theorem dX9_item_19 : decode cX9_item 19 = .ok (.iload_n 3, 1) := by decide +kernel
theorem dX9_item_20 : decode cX9_item 20 = .ok (.iconst 1, 1) := by decide +kernel
theorem dX9_item_21 : decode cX9_item 21 = .ok (.invokevirtual 237, 3) := by decide +kernel
theorem dX9_item_24 : decode cX9_item 24 = .ok (.istore 5, 2) := by decide +kernel
theorem dX9_item_26 : decode cX9_item 26 = .ok (.iload 5, 2) := by decide +kernel
theorem dX9_item_28 : decode cX9_item 28 = .ok (.ifCond .ge 6, 3) := by decide +kernel
theorem dX9_item_31 : decode cX9_item 31 = .ok (.iload 5, 2) := by decide +kernel
theorem dX9_item_33 : decode cX9_item 33 = .ok (.ireturn, 1) := by decide +kernel
theorem dX9_item_34 : decode cX9_item 34 = .ok (.aload_n 0, 1) := by decide +kernel
theorem dX9_item_35 : decode cX9_item 35 = .ok (.getfield 58, 3) := by decide +kernel
theorem dX9_item_38 : decode cX9_item 38 = .ok (.bipush 16, 2) := by decide +kernel
theorem dX9_item_40 : decode cX9_item 40 = .ok (.iload_n 1, 1) := by decide +kernel
theorem dX9_item_41 : decode cX9_item 41 = .ok (.imul, 1) := by decide +kernel
theorem dX9_item_42 : decode cX9_item 42 = .ok (.iload_n 3, 1) := by decide +kernel
theorem dX9_item_43 : decode cX9_item 43 = .ok (.iadd, 1) := by decide +kernel
theorem dX9_item_44 : decode cX9_item 44 = .ok (.iload_n 2, 1) := by decide +kernel
theorem dX9_item_45 : decode cX9_item 45 = .ok (.ifCond .ne 9, 3) := by decide +kernel
theorem dX9_item_48 : decode cX9_item 48 = .ok (.iload 4, 2) := by decide +kernel
theorem dX9_item_50 : decode cX9_item 50 = .ok (.i2b, 1) := by decide +kernel
theorem dX9_item_51 : decode cX9_item 51 = .ok (.goto 16, 3) := by decide +kernel
theorem dX9_item_54 : decode cX9_item 54 = .ok (.iload_n 2, 1) := by decide +kernel
theorem dX9_item_55 : decode cX9_item 55 = .ok (.iconst 1, 1) := by decide +kernel
theorem dX9_item_56 : decode cX9_item 56 = .ok (.if_icmp .ne 9, 3) := by decide +kernel
theorem dX9_item_59 : decode cX9_item 59 = .ok (.iload 4, 2) := by decide +kernel
theorem dX9_item_61 : decode cX9_item 61 = .ok (.i2s, 1) := by decide +kernel
theorem dX9_item_62 : decode cX9_item 62 = .ok (.goto 5, 3) := by decide +kernel
theorem dX9_item_65 : decode cX9_item 65 = .ok (.iload 4, 2) := by decide +kernel
theorem dX9_item_67 : decode cX9_item 67 = .ok (.iastore, 1) := by decide +kernel
theorem dX9_item_68 : decode cX9_item 68 = .ok (.iconst 1, 1) := by decide +kernel
theorem dX9_item_69 : decode cX9_item 69 = .ok (.ireturn, 1) := by decide +kernel
theorem dX9_copy_0 : decode cX9_copy 0 = .ok (.iload_n 1, 1) := by decide +kernel
theorem dX9_copy_1 : decode cX9_copy 1 = .ok (.invokestatic 229, 3) := by decide +kernel
theorem dX9_copy_4 : decode cX9_copy 4 = .ok (.ifCond .eq 10, 3) := by decide +kernel
theorem dX9_copy_7 : decode cX9_copy 7 = .ok (.iload_n 3, 1) := by decide +kernel
theorem dX9_copy_8 : decode cX9_copy 8 = .ok (.invokestatic 229, 3) := by decide +kernel
theorem dX9_copy_11 : decode cX9_copy 11 = .ok (.ifCond .ne 5, 3) := by decide +kernel
theorem dX9_copy_14 : decode cX9_copy 14 = .ok (.iconst (-1), 1) := by decide +kernel
theorem dX9_copy_15 : decode cX9_copy 15 = .ok (.ireturn, 1) := by decide +kernel
theorem dX9_copy_16 : decode cX9_copy 16 = .ok (.aload_n 0, 1) := by decide +kernel
theorem dX9_copy_17 : decode cX9_copy 17 = .ok (.getfield 52, 3) := by decide +kernel
theorem dX9_copy_20 : decode cX9_copy 20 = .ok (.iload_n 1, 1) := by decide +kernel
theorem dX9_copy_21 : decode cX9_copy 21 = .ok (.iaload, 1) := by decide +kernel
theorem dX9_copy_22 : decode cX9_copy 22 = .ok (.ifCond .lt 12, 3) := by decide +kernel
theorem dX9_copy_25 : decode cX9_copy 25 = .ok (.aload_n 0, 1) := by decide +kernel
theorem dX9_copy_26 : decode cX9_copy 26 = .ok (.getfield 52, 3) := by decide +kernel
theorem dX9_copy_29 : decode cX9_copy 29 = .ok (.iload_n 3, 1) := by decide +kernel
theorem dX9_copy_30 : decode cX9_copy 30 = .ok (.iaload, 1) := by decide +kernel
theorem dX9_copy_31 : decode cX9_copy 31 = .ok (.ifCond .ge 6, 3) := by decide +kernel
theorem dX9_copy_34 : decode cX9_copy 34 = .ok (.bipush (-11), 2) := by decide +kernel
theorem dX9_copy_36 : decode cX9_copy 36 = .ok (.ireturn, 1) := by decide +kernel
theorem dX9_copy_37 : decode cX9_copy 37 = .ok (.aload_n 0, 1) := by decide +kernel
theorem dX9_copy_38 : decode cX9_copy 38 = .ok (.getfield 52, 3) := by decide +kernel
theorem dX9_copy_41 : decode cX9_copy 41 = .ok (.iload_n 1, 1) := by decide +kernel
theorem dX9_copy_42 : decode cX9_copy 42 = .ok (.iaload, 1) := by decide +kernel
theorem dX9_copy_43 : decode cX9_copy 43 = .ok (.aload_n 0, 1) := by decide +kernel
theorem dX9_copy_44 : decode cX9_copy 44 = .ok (.getfield 52, 3) := by decide +kernel
theorem dX9_copy_47 : decode cX9_copy 47 = .ok (.iload_n 3, 1) := by decide +kernel
theorem dX9_copy_48 : decode cX9_copy 48 = .ok (.iaload, 1) := by decide +kernel
theorem dX9_copy_49 : decode cX9_copy 49 = .ok (.if_icmp .eq 6, 3) := by decide +kernel
theorem dX9_copy_52 : decode cX9_copy 52 = .ok (.bipush (-12), 2) := by decide +kernel
theorem dX9_copy_54 : decode cX9_copy 54 = .ok (.ireturn, 1) := by decide +kernel
theorem dX9_copy_55 : decode cX9_copy 55 = .ok (.iload 5, 2) := by decide +kernel
theorem dX9_copy_57 : decode cX9_copy 57 = .ok (.ifCond .lt 38, 3) := by decide +kernel
theorem dX9_copy_60 : decode cX9_copy 60 = .ok (.aload_n 0, 1) := by decide +kernel
theorem dX9_copy_61 : decode cX9_copy 61 = .ok (.iload_n 1, 1) := by decide +kernel
theorem dX9_copy_62 : decode cX9_copy 62 = .ok (.aload_n 0, 1) := by decide +kernel
theorem dX9_copy_63 : decode cX9_copy 63 = .ok (.getfield 52, 3) := by decide +kernel
theorem dX9_copy_66 : decode cX9_copy 66 = .ok (.iload_n 1, 1) := by decide +kernel
theorem dX9_copy_67 : decode cX9_copy 67 = .ok (.iaload, 1) := by decide +kernel
theorem dX9_copy_68 : decode cX9_copy 68 = .ok (.iload_n 2, 1) := by decide +kernel
theorem dX9_copy_69 : decode cX9_copy 69 = .ok (.iload 5, 2) := by decide +kernel
theorem dX9_copy_71 : decode cX9_copy 71 = .ok (.invokevirtual 237, 3) := by decide +kernel
theorem dX9_copy_74 : decode cX9_copy 74 = .ok (.ifCond .lt 21, 3) := by decide +kernel
theorem dX9_copy_77 : decode cX9_copy 77 = .ok (.aload_n 0, 1) := by decide +kernel
theorem dX9_copy_78 : decode cX9_copy 78 = .ok (.iload_n 3, 1) := by decide +kernel
theorem dX9_copy_79 : decode cX9_copy 79 = .ok (.aload_n 0, 1) := by decide +kernel
theorem dX9_copy_80 : decode cX9_copy 80 = .ok (.getfield 52, 3) := by decide +kernel
theorem dX9_copy_83 : decode cX9_copy 83 = .ok (.iload_n 3, 1) := by decide +kernel
theorem dX9_copy_84 : decode cX9_copy 84 = .ok (.iaload, 1) := by decide +kernel
theorem dX9_copy_85 : decode cX9_copy 85 = .ok (.iload 4, 2) := by decide +kernel
theorem dX9_copy_87 : decode cX9_copy 87 = .ok (.iload 5, 2) := by decide +kernel
theorem dX9_copy_89 : decode cX9_copy 89 = .ok (.invokevirtual 237, 3) := by decide +kernel
theorem dX9_copy_92 : decode cX9_copy 92 = .ok (.ifCond .ge 6, 3) := by decide +kernel
theorem dX9_copy_95 : decode cX9_copy 95 = .ok (.bipush (-13), 2) := by decide +kernel
theorem dX9_copy_97 : decode cX9_copy 97 = .ok (.ireturn, 1) := by decide +kernel
theorem dX9_copy_98 : decode cX9_copy 98 = .ok (.iconst 0, 1) := by decide +kernel
theorem dX9_copy_99 : decode cX9_copy 99 = .ok (.istore 6, 2) := by decide +kernel
theorem dX9_copy_101 : decode cX9_copy 101 = .ok (.iload 6, 2) := by decide +kernel
theorem dX9_copy_103 : decode cX9_copy 103 = .ok (.iload 5, 2) := by decide +kernel
theorem dX9_copy_105 : decode cX9_copy 105 = .ok (.if_icmp .ge 30, 3) := by decide +kernel
theorem dX9_copy_108 : decode cX9_copy 108 = .ok (.aload_n 0, 1) := by decide +kernel
theorem dX9_copy_109 : decode cX9_copy 109 = .ok (.getfield 61, 3) := by decide +kernel
theorem dX9_copy_112 : decode cX9_copy 112 = .ok (.iload 6, 2) := by decide +kernel
theorem dX9_copy_114 : decode cX9_copy 114 = .ok (.aload_n 0, 1) := by decide +kernel
theorem dX9_copy_115 : decode cX9_copy 115 = .ok (.getfield 58, 3) := by decide +kernel
theorem dX9_copy_118 : decode cX9_copy 118 = .ok (.bipush 16, 2) := by decide +kernel
theorem dX9_copy_120 : decode cX9_copy 120 = .ok (.iload_n 1, 1) := by decide +kernel
theorem dX9_copy_121 : decode cX9_copy 121 = .ok (.imul, 1) := by decide +kernel
theorem dX9_copy_122 : decode cX9_copy 122 = .ok (.iload_n 2, 1) := by decide +kernel
theorem dX9_copy_123 : decode cX9_copy 123 = .ok (.iadd, 1) := by decide +kernel
theorem dX9_copy_124 : decode cX9_copy 124 = .ok (.iload 6, 2) := by decide +kernel
theorem dX9_copy_126 : decode cX9_copy 126 = .ok (.iadd, 1) := by decide +kernel
theorem dX9_copy_127 : decode cX9_copy 127 = .ok (.iaload, 1) := by decide +kernel
theorem dX9_copy_128 : decode cX9_copy 128 = .ok (.iastore, 1) := by decide +kernel
theorem dX9_copy_129 : decode cX9_copy 129 = .ok (.iinc 6 1, 3) := by decide +kernel
theorem dX9_copy_132 : decode cX9_copy 132 = .ok (.goto (-31), 3) := by decide +kernel
theorem dX9_copy_135 : decode cX9_copy 135 = .ok (.iconst 0, 1) := by decide +kernel
theorem dX9_copy_136 : decode cX9_copy 136 = .ok (.istore 6, 2) := by decide +kernel
theorem dX9_copy_138 : decode cX9_copy 138 = .ok (.iload 6, 2) := by decide +kernel
theorem dX9_copy_140 : decode cX9_copy 140 = .ok (.iload 5, 2) := by decide +kernel
theorem dX9_copy_142 : decode cX9_copy 142 = .ok (.if_icmp .ge 31, 3) := by decide +kernel
theorem dX9_copy_145 : decode cX9_copy 145 = .ok (.aload_n 0, 1) := by decide +kernel
theorem dX9_copy_146 : decode cX9_copy 146 = .ok (.getfield 58, 3) := by decide +kernel
theorem dX9_copy_149 : decode cX9_copy 149 = .ok (.bipush 16, 2) := by decide +kernel
theorem dX9_copy_151 : decode cX9_copy 151 = .ok (.iload_n 3, 1) := by decide +kernel
theorem dX9_copy_152 : decode cX9_copy 152 = .ok (.imul, 1) := by decide +kernel
theorem dX9_copy_153 : decode cX9_copy 153 = .ok (.iload 4, 2) := by decide +kernel
theorem dX9_copy_155 : decode cX9_copy 155 = .ok (.iadd, 1) := by decide +kernel
theorem dX9_copy_156 : decode cX9_copy 156 = .ok (.iload 6, 2) := by decide +kernel
theorem dX9_copy_158 : decode cX9_copy 158 = .ok (.iadd, 1) := by decide +kernel
theorem dX9_copy_159 : decode cX9_copy 159 = .ok (.aload_n 0, 1) := by decide +kernel
theorem dX9_copy_160 : decode cX9_copy 160 = .ok (.getfield 61, 3) := by decide +kernel
theorem dX9_copy_163 : decode cX9_copy 163 = .ok (.iload 6, 2) := by decide +kernel
theorem dX9_copy_165 : decode cX9_copy 165 = .ok (.iaload, 1) := by decide +kernel
theorem dX9_copy_166 : decode cX9_copy 166 = .ok (.iastore, 1) := by decide +kernel
theorem dX9_copy_167 : decode cX9_copy 167 = .ok (.iinc 6 1, 3) := by decide +kernel
theorem dX9_copy_170 : decode cX9_copy 170 = .ok (.goto (-32), 3) := by decide +kernel
theorem dX9_copy_173 : decode cX9_copy 173 = .ok (.iload 5, 2) := by decide +kernel
theorem dX9_copy_175 : decode cX9_copy 175 = .ok (.ireturn, 1) := by decide +kernel

theorem dX11_takes_38 : decode cX11_takes 38 = .ok (.iload_n 2, 1) := by decide +kernel
theorem dX11_takes_39 : decode cX11_takes 39 = .ok (.ireturn, 1) := by decide +kernel
theorem dX11_moves_0 : decode cX11_moves 0 = .ok (.aload_n 0, 1) := by decide +kernel
theorem dX11_moves_1 : decode cX11_moves 1 = .ok (.iload_n 1, 1) := by decide +kernel
theorem dX11_moves_2 : decode cX11_moves 2 = .ok (.invokevirtual 136, 3) := by decide +kernel
theorem dX11_moves_5 : decode cX11_moves 5 = .ok (.ifCond .eq 36, 3) := by decide +kernel
theorem dX11_moves_8 : decode cX11_moves 8 = .ok (.aload_n 0, 1) := by decide +kernel
theorem dX11_moves_9 : decode cX11_moves 9 = .ok (.iload_n 2, 1) := by decide +kernel
theorem dX11_moves_10 : decode cX11_moves 10 = .ok (.invokevirtual 136, 3) := by decide +kernel
theorem dX11_moves_13 : decode cX11_moves 13 = .ok (.ifCond .eq 28, 3) := by decide +kernel
theorem dX11_moves_16 : decode cX11_moves 16 = .ok (.iload_n 1, 1) := by decide +kernel
theorem dX11_moves_17 : decode cX11_moves 17 = .ok (.iload_n 2, 1) := by decide +kernel
theorem dX11_moves_18 : decode cX11_moves 18 = .ok (.if_icmp .eq 23, 3) := by decide +kernel
theorem dX11_moves_21 : decode cX11_moves 21 = .ok (.iload_n 3, 1) := by decide +kernel
theorem dX11_moves_22 : decode cX11_moves 22 = .ok (.iconst 1, 1) := by decide +kernel
theorem dX11_moves_23 : decode cX11_moves 23 = .ok (.bipush 9, 2) := by decide +kernel
theorem dX11_moves_25 : decode cX11_moves 25 = .ok (.invokestatic 50, 3) := by decide +kernel
theorem dX11_moves_28 : decode cX11_moves 28 = .ok (.ifCond .eq 13, 3) := by decide +kernel
theorem dX11_moves_31 : decode cX11_moves 31 = .ok (.iload 4, 2) := by decide +kernel
theorem dX11_moves_33 : decode cX11_moves 33 = .ok (.iconst 0, 1) := by decide +kernel
theorem dX11_moves_34 : decode cX11_moves 34 = .ok (.iconst 1, 1) := by decide +kernel
theorem dX11_moves_35 : decode cX11_moves 35 = .ok (.invokestatic 50, 3) := by decide +kernel
theorem dX11_moves_38 : decode cX11_moves 38 = .ok (.ifCond .ne 8, 3) := by decide +kernel
theorem dX11_moves_41 : decode cX11_moves 41 = .ok (.aload_n 0, 1) := by decide +kernel
theorem dX11_moves_42 : decode cX11_moves 42 = .ok (.invokevirtual 130, 3) := by decide +kernel
theorem dX11_moves_45 : decode cX11_moves 45 = .ok (.ireturn, 1) := by decide +kernel
theorem dX11_moves_46 : decode cX11_moves 46 = .ok (.aload_n 0, 1) := by decide +kernel
theorem dX11_moves_47 : decode cX11_moves 47 = .ok (.invokevirtual 133, 3) := by decide +kernel
theorem dX11_moves_50 : decode cX11_moves 50 = .ok (.aload_n 0, 1) := by decide +kernel
theorem dX11_moves_51 : decode cX11_moves 51 = .ok (.iconst 5, 1) := by decide +kernel
theorem dX11_moves_52 : decode cX11_moves 52 = .ok (.invokevirtual 152, 3) := by decide +kernel
theorem dX11_moves_55 : decode cX11_moves 55 = .ok (.aload_n 0, 1) := by decide +kernel
theorem dX11_moves_56 : decode cX11_moves 56 = .ok (.iload_n 1, 1) := by decide +kernel
theorem dX11_moves_57 : decode cX11_moves 57 = .ok (.iload_n 2, 1) := by decide +kernel
theorem dX11_moves_58 : decode cX11_moves 58 = .ok (.iload_n 3, 1) := by decide +kernel
theorem dX11_moves_59 : decode cX11_moves 59 = .ok (.invokevirtual 155, 3) := by decide +kernel
theorem dX11_moves_62 : decode cX11_moves 62 = .ok (.istore 5, 2) := by decide +kernel
theorem dX11_moves_64 : decode cX11_moves 64 = .ok (.iload 5, 2) := by decide +kernel
theorem dX11_moves_66 : decode cX11_moves 66 = .ok (.iload_n 3, 1) := by decide +kernel
theorem dX11_moves_67 : decode cX11_moves 67 = .ok (.if_icmp .ne 7, 3) := by decide +kernel
theorem dX11_moves_70 : decode cX11_moves 70 = .ok (.iconst 1, 1) := by decide +kernel
theorem dX11_moves_71 : decode cX11_moves 71 = .ok (.goto 4, 3) := by decide +kernel
theorem dX11_moves_74 : decode cX11_moves 74 = .ok (.iconst 0, 1) := by decide +kernel
theorem dX11_moves_75 : decode cX11_moves 75 = .ok (.istore 6, 2) := by decide +kernel
theorem dX11_moves_77 : decode cX11_moves 77 = .ok (.iload 6, 2) := by decide +kernel
theorem dX11_moves_79 : decode cX11_moves 79 = .ok (.ifCond .ne 14, 3) := by decide +kernel
theorem dX11_moves_82 : decode cX11_moves 82 = .ok (.iload 4, 2) := by decide +kernel
theorem dX11_moves_84 : decode cX11_moves 84 = .ok (.iconst 1, 1) := by decide +kernel
theorem dX11_moves_85 : decode cX11_moves 85 = .ok (.if_icmp .ne 8, 3) := by decide +kernel
theorem dX11_moves_88 : decode cX11_moves 88 = .ok (.aload_n 0, 1) := by decide +kernel
theorem dX11_moves_89 : decode cX11_moves 89 = .ok (.iconst 5, 1) := by decide +kernel
theorem dX11_moves_90 : decode cX11_moves 90 = .ok (.invokevirtual 159, 3) := by decide +kernel
theorem dX11_moves_93 : decode cX11_moves 93 = .ok (.aload_n 0, 1) := by decide +kernel
theorem dX11_moves_94 : decode cX11_moves 94 = .ok (.invokevirtual 127, 3) := by decide +kernel
theorem dX11_moves_97 : decode cX11_moves 97 = .ok (.iload 6, 2) := by decide +kernel
theorem dX11_moves_99 : decode cX11_moves 99 = .ok (.ifCond .eq 7, 3) := by decide +kernel
theorem dX11_moves_102 : decode cX11_moves 102 = .ok (.iload_n 3, 1) := by decide +kernel
theorem dX11_moves_103 : decode cX11_moves 103 = .ok (.goto 19, 3) := by decide +kernel
theorem dX11_moves_106 : decode cX11_moves 106 = .ok (.iload 4, 2) := by decide +kernel
theorem dX11_moves_108 : decode cX11_moves 108 = .ok (.iconst 1, 1) := by decide +kernel
theorem dX11_moves_109 : decode cX11_moves 109 = .ok (.if_icmp .ne 8, 3) := by decide +kernel
theorem dX11_moves_112 : decode cX11_moves 112 = .ok (.bipush (-100), 2) := by decide +kernel
theorem dX11_moves_114 : decode cX11_moves 114 = .ok (.goto 8, 3) := by decide +kernel
theorem dX11_moves_117 : decode cX11_moves 117 = .ok (.bipush (-100), 2) := by decide +kernel
theorem dX11_moves_119 : decode cX11_moves 119 = .ok (.iload 5, 2) := by decide +kernel
theorem dX11_moves_121 : decode cX11_moves 121 = .ok (.isub, 1) := by decide +kernel
theorem dX11_moves_122 : decode cX11_moves 122 = .ok (.ireturn, 1) := by decide +kernel
theorem dX11_asks_0 : decode cX11_asks 0 = .ok (.iload_n 1, 1) := by decide +kernel
theorem dX11_asks_1 : decode cX11_asks 1 = .ok (.invokestatic 162, 3) := by decide +kernel
theorem dX11_asks_4 : decode cX11_asks 4 = .ok (.ifCond .eq 31, 3) := by decide +kernel
theorem dX11_asks_7 : decode cX11_asks 7 = .ok (.aload_n 0, 1) := by decide +kernel
theorem dX11_asks_8 : decode cX11_asks 8 = .ok (.iload_n 2, 1) := by decide +kernel
theorem dX11_asks_9 : decode cX11_asks 9 = .ok (.invokevirtual 136, 3) := by decide +kernel
theorem dX11_asks_12 : decode cX11_asks 12 = .ok (.ifCond .eq 23, 3) := by decide +kernel
theorem dX11_asks_15 : decode cX11_asks 15 = .ok (.iload_n 3, 1) := by decide +kernel
theorem dX11_asks_16 : decode cX11_asks 16 = .ok (.iconst 0, 1) := by decide +kernel
theorem dX11_asks_17 : decode cX11_asks 17 = .ok (.iconst 1, 1) := by decide +kernel
theorem dX11_asks_18 : decode cX11_asks 18 = .ok (.invokestatic 50, 3) := by decide +kernel
theorem dX11_asks_21 : decode cX11_asks 21 = .ok (.ifCond .eq 14, 3) := by decide +kernel
theorem dX11_asks_24 : decode cX11_asks 24 = .ok (.iload 4, 2) := by decide +kernel
theorem dX11_asks_26 : decode cX11_asks 26 = .ok (.iconst 0, 1) := by decide +kernel
theorem dX11_asks_27 : decode cX11_asks 27 = .ok (.bipush 9, 2) := by decide +kernel
theorem dX11_asks_29 : decode cX11_asks 29 = .ok (.invokestatic 50, 3) := by decide +kernel
theorem dX11_asks_32 : decode cX11_asks 32 = .ok (.ifCond .ne 8, 3) := by decide +kernel
theorem dX11_asks_35 : decode cX11_asks 35 = .ok (.aload_n 0, 1) := by decide +kernel
theorem dX11_asks_36 : decode cX11_asks 36 = .ok (.invokevirtual 130, 3) := by decide +kernel
theorem dX11_asks_39 : decode cX11_asks 39 = .ok (.ireturn, 1) := by decide +kernel
theorem dX11_asks_40 : decode cX11_asks 40 = .ok (.iload_n 1, 1) := by decide +kernel
theorem dX11_asks_41 : decode cX11_asks 41 = .ok (.invokestatic 58, 3) := by decide +kernel
theorem dX11_asks_44 : decode cX11_asks 44 = .ok (.istore 5, 2) := by decide +kernel
theorem dX11_asks_46 : decode cX11_asks 46 = .ok (.aload_n 0, 1) := by decide +kernel
theorem dX11_asks_47 : decode cX11_asks 47 = .ok (.getfield 13, 3) := by decide +kernel
theorem dX11_asks_50 : decode cX11_asks 50 = .ok (.iload 5, 2) := by decide +kernel
theorem dX11_asks_52 : decode cX11_asks 52 = .ok (.iconst 0, 1) := by decide +kernel
theorem dX11_asks_53 : decode cX11_asks 53 = .ok (.iadd, 1) := by decide +kernel
theorem dX11_asks_54 : decode cX11_asks 54 = .ok (.iaload, 1) := by decide +kernel
theorem dX11_asks_55 : decode cX11_asks 55 = .ok (.iconst 1, 1) := by decide +kernel
theorem dX11_asks_56 : decode cX11_asks 56 = .ok (.if_icmp .ne 8, 3) := by decide +kernel
theorem dX11_asks_59 : decode cX11_asks 59 = .ok (.aload_n 0, 1) := by decide +kernel
theorem dX11_asks_60 : decode cX11_asks 60 = .ok (.invokevirtual 65, 3) := by decide +kernel
theorem dX11_asks_63 : decode cX11_asks 63 = .ok (.ireturn, 1) := by decide +kernel
theorem dX11_asks_64 : decode cX11_asks 64 = .ok (.aload_n 0, 1) := by decide +kernel
theorem dX11_asks_65 : decode cX11_asks 65 = .ok (.invokevirtual 133, 3) := by decide +kernel
theorem dX11_asks_68 : decode cX11_asks 68 = .ok (.aload_n 0, 1) := by decide +kernel
theorem dX11_asks_69 : decode cX11_asks 69 = .ok (.iload_n 1, 1) := by decide +kernel
theorem dX11_asks_70 : decode cX11_asks 70 = .ok (.iload_n 2, 1) := by decide +kernel
theorem dX11_asks_71 : decode cX11_asks 71 = .ok (.iload_n 3, 1) := by decide +kernel
theorem dX11_asks_72 : decode cX11_asks 72 = .ok (.iload 4, 2) := by decide +kernel
theorem dX11_asks_74 : decode cX11_asks 74 = .ok (.invokevirtual 105, 3) := by decide +kernel
theorem dX11_asks_77 : decode cX11_asks 77 = .ok (.istore 6, 2) := by decide +kernel
theorem dX11_asks_79 : decode cX11_asks 79 = .ok (.iload 6, 2) := by decide +kernel
theorem dX11_asks_81 : decode cX11_asks 81 = .ok (.ifCond .ne 78, 3) := by decide +kernel
theorem dX11_asks_84 : decode cX11_asks 84 = .ok (.aload_n 0, 1) := by decide +kernel
theorem dX11_asks_85 : decode cX11_asks 85 = .ok (.getfield 13, 3) := by decide +kernel
theorem dX11_asks_88 : decode cX11_asks 88 = .ok (.iload 5, 2) := by decide +kernel
theorem dX11_asks_90 : decode cX11_asks 90 = .ok (.iconst 0, 1) := by decide +kernel
theorem dX11_asks_91 : decode cX11_asks 91 = .ok (.iadd, 1) := by decide +kernel
theorem dX11_asks_92 : decode cX11_asks 92 = .ok (.iconst 1, 1) := by decide +kernel
theorem dX11_asks_93 : decode cX11_asks 93 = .ok (.iastore, 1) := by decide +kernel
theorem dX11_asks_94 : decode cX11_asks 94 = .ok (.aload_n 0, 1) := by decide +kernel
theorem dX11_asks_95 : decode cX11_asks 95 = .ok (.getfield 13, 3) := by decide +kernel
theorem dX11_asks_98 : decode cX11_asks 98 = .ok (.iload 5, 2) := by decide +kernel
theorem dX11_asks_100 : decode cX11_asks 100 = .ok (.iconst 1, 1) := by decide +kernel
theorem dX11_asks_101 : decode cX11_asks 101 = .ok (.iadd, 1) := by decide +kernel
theorem dX11_asks_102 : decode cX11_asks 102 = .ok (.iload_n 2, 1) := by decide +kernel
theorem dX11_asks_103 : decode cX11_asks 103 = .ok (.iastore, 1) := by decide +kernel
theorem dX11_asks_104 : decode cX11_asks 104 = .ok (.aload_n 0, 1) := by decide +kernel
theorem dX11_asks_105 : decode cX11_asks 105 = .ok (.getfield 13, 3) := by decide +kernel
theorem dX11_asks_108 : decode cX11_asks 108 = .ok (.iload 5, 2) := by decide +kernel
theorem dX11_asks_110 : decode cX11_asks 110 = .ok (.iconst 2, 1) := by decide +kernel
theorem dX11_asks_111 : decode cX11_asks 111 = .ok (.iadd, 1) := by decide +kernel
theorem dX11_asks_112 : decode cX11_asks 112 = .ok (.iload_n 3, 1) := by decide +kernel
theorem dX11_asks_113 : decode cX11_asks 113 = .ok (.iastore, 1) := by decide +kernel
theorem dX11_asks_114 : decode cX11_asks 114 = .ok (.aload_n 0, 1) := by decide +kernel
theorem dX11_asks_115 : decode cX11_asks 115 = .ok (.getfield 13, 3) := by decide +kernel
theorem dX11_asks_118 : decode cX11_asks 118 = .ok (.iload 5, 2) := by decide +kernel
theorem dX11_asks_120 : decode cX11_asks 120 = .ok (.iconst 3, 1) := by decide +kernel
theorem dX11_asks_121 : decode cX11_asks 121 = .ok (.iadd, 1) := by decide +kernel
theorem dX11_asks_122 : decode cX11_asks 122 = .ok (.iload_n 3, 1) := by decide +kernel
theorem dX11_asks_123 : decode cX11_asks 123 = .ok (.ifCond .ne 8, 3) := by decide +kernel
theorem dX11_asks_126 : decode cX11_asks 126 = .ok (.iload 4, 2) := by decide +kernel
theorem dX11_asks_128 : decode cX11_asks 128 = .ok (.goto 4, 3) := by decide +kernel
theorem dX11_asks_131 : decode cX11_asks 131 = .ok (.iconst (-1), 1) := by decide +kernel
theorem dX11_asks_132 : decode cX11_asks 132 = .ok (.iastore, 1) := by decide +kernel
theorem dX11_asks_133 : decode cX11_asks 133 = .ok (.aload_n 0, 1) := by decide +kernel
theorem dX11_asks_134 : decode cX11_asks 134 = .ok (.getfield 13, 3) := by decide +kernel
theorem dX11_asks_137 : decode cX11_asks 137 = .ok (.sipush 300, 3) := by decide +kernel
theorem dX11_asks_140 : decode cX11_asks 140 = .ok (.aload_n 0, 1) := by decide +kernel
theorem dX11_asks_141 : decode cX11_asks 141 = .ok (.getfield 13, 3) := by decide +kernel
theorem dX11_asks_144 : decode cX11_asks 144 = .ok (.iconst 4, 1) := by decide +kernel
theorem dX11_asks_145 : decode cX11_asks 145 = .ok (.iaload, 1) := by decide +kernel
theorem dX11_asks_146 : decode cX11_asks 146 = .ok (.iadd, 1) := by decide +kernel
theorem dX11_asks_147 : decode cX11_asks 147 = .ok (.iload_n 1, 1) := by decide +kernel
theorem dX11_asks_148 : decode cX11_asks 148 = .ok (.iastore, 1) := by decide +kernel
theorem dX11_asks_149 : decode cX11_asks 149 = .ok (.aload_n 0, 1) := by decide +kernel
theorem dX11_asks_150 : decode cX11_asks 150 = .ok (.getfield 13, 3) := by decide +kernel
theorem dX11_asks_153 : decode cX11_asks 153 = .ok (.iconst 4, 1) := by decide +kernel
theorem dX11_asks_154 : decode cX11_asks 154 = .ok (.dup2, 1) := by decide +kernel
theorem dX11_asks_155 : decode cX11_asks 155 = .ok (.iaload, 1) := by decide +kernel
theorem dX11_asks_156 : decode cX11_asks 156 = .ok (.iconst 1, 1) := by decide +kernel
theorem dX11_asks_157 : decode cX11_asks 157 = .ok (.iadd, 1) := by decide +kernel
theorem dX11_asks_158 : decode cX11_asks 158 = .ok (.iastore, 1) := by decide +kernel
theorem dX11_asks_159 : decode cX11_asks 159 = .ok (.aload_n 0, 1) := by decide +kernel
theorem dX11_asks_160 : decode cX11_asks 160 = .ok (.invokevirtual 127, 3) := by decide +kernel
theorem dX11_asks_163 : decode cX11_asks 163 = .ok (.iload 6, 2) := by decide +kernel
theorem dX11_asks_165 : decode cX11_asks 165 = .ok (.ifCond .eq 7, 3) := by decide +kernel
theorem dX11_asks_168 : decode cX11_asks 168 = .ok (.iconst 1, 1) := by decide +kernel
theorem dX11_asks_169 : decode cX11_asks 169 = .ok (.goto 4, 3) := by decide +kernel
theorem dX11_asks_172 : decode cX11_asks 172 = .ok (.iconst 0, 1) := by decide +kernel
theorem dX11_asks_173 : decode cX11_asks 173 = .ok (.ireturn, 1) := by decide +kernel
theorem dX11_cancels_0 : decode cX11_cancels 0 = .ok (.iload_n 1, 1) := by decide +kernel
theorem dX11_cancels_1 : decode cX11_cancels 1 = .ok (.invokestatic 162, 3) := by decide +kernel
theorem dX11_cancels_4 : decode cX11_cancels 4 = .ok (.ifCond .ne 8, 3) := by decide +kernel
theorem dX11_cancels_7 : decode cX11_cancels 7 = .ok (.aload_n 0, 1) := by decide +kernel
theorem dX11_cancels_8 : decode cX11_cancels 8 = .ok (.invokevirtual 130, 3) := by decide +kernel
theorem dX11_cancels_11 : decode cX11_cancels 11 = .ok (.ireturn, 1) := by decide +kernel
theorem dX11_cancels_12 : decode cX11_cancels 12 = .ok (.aload_n 0, 1) := by decide +kernel
theorem dX11_cancels_13 : decode cX11_cancels 13 = .ok (.getfield 13, 3) := by decide +kernel
theorem dX11_cancels_16 : decode cX11_cancels 16 = .ok (.iload_n 1, 1) := by decide +kernel
theorem dX11_cancels_17 : decode cX11_cancels 17 = .ok (.invokestatic 58, 3) := by decide +kernel
theorem dX11_cancels_20 : decode cX11_cancels 20 = .ok (.iconst 0, 1) := by decide +kernel
theorem dX11_cancels_21 : decode cX11_cancels 21 = .ok (.iadd, 1) := by decide +kernel
theorem dX11_cancels_22 : decode cX11_cancels 22 = .ok (.iaload, 1) := by decide +kernel
theorem dX11_cancels_23 : decode cX11_cancels 23 = .ok (.ifCond .ne 8, 3) := by decide +kernel
theorem dX11_cancels_26 : decode cX11_cancels 26 = .ok (.aload_n 0, 1) := by decide +kernel
theorem dX11_cancels_27 : decode cX11_cancels 27 = .ok (.invokevirtual 65, 3) := by decide +kernel
theorem dX11_cancels_30 : decode cX11_cancels 30 = .ok (.ireturn, 1) := by decide +kernel
theorem dX11_cancels_31 : decode cX11_cancels 31 = .ok (.aload_n 0, 1) := by decide +kernel
theorem dX11_cancels_32 : decode cX11_cancels 32 = .ok (.invokevirtual 133, 3) := by decide +kernel
theorem dX11_cancels_35 : decode cX11_cancels 35 = .ok (.iconst 0, 1) := by decide +kernel
theorem dX11_cancels_36 : decode cX11_cancels 36 = .ok (.istore_n 2, 1) := by decide +kernel
theorem dX11_cancels_37 : decode cX11_cancels 37 = .ok (.aload_n 0, 1) := by decide +kernel
theorem dX11_cancels_38 : decode cX11_cancels 38 = .ok (.getfield 13, 3) := by decide +kernel
theorem dX11_cancels_41 : decode cX11_cancels 41 = .ok (.sipush 300, 3) := by decide +kernel
theorem dX11_cancels_44 : decode cX11_cancels 44 = .ok (.iload_n 2, 1) := by decide +kernel
theorem dX11_cancels_45 : decode cX11_cancels 45 = .ok (.iadd, 1) := by decide +kernel
theorem dX11_cancels_46 : decode cX11_cancels 46 = .ok (.iaload, 1) := by decide +kernel
theorem dX11_cancels_47 : decode cX11_cancels 47 = .ok (.iload_n 1, 1) := by decide +kernel
theorem dX11_cancels_48 : decode cX11_cancels 48 = .ok (.if_icmp .eq 9, 3) := by decide +kernel
theorem dX11_cancels_51 : decode cX11_cancels 51 = .ok (.iinc 2 1, 3) := by decide +kernel
theorem dX11_cancels_54 : decode cX11_cancels 54 = .ok (.goto (-17), 3) := by decide +kernel
theorem dX11_cancels_57 : decode cX11_cancels 57 = .ok (.aload_n 0, 1) := by decide +kernel
theorem dX11_cancels_58 : decode cX11_cancels 58 = .ok (.iload_n 2, 1) := by decide +kernel
theorem dX11_cancels_59 : decode cX11_cancels 59 = .ok (.invokevirtual 109, 3) := by decide +kernel
theorem dX11_cancels_62 : decode cX11_cancels 62 = .ok (.aload_n 0, 1) := by decide +kernel
theorem dX11_cancels_63 : decode cX11_cancels 63 = .ok (.getfield 13, 3) := by decide +kernel
theorem dX11_cancels_66 : decode cX11_cancels 66 = .ok (.iconst 4, 1) := by decide +kernel
theorem dX11_cancels_67 : decode cX11_cancels 67 = .ok (.iaload, 1) := by decide +kernel
theorem dX11_cancels_68 : decode cX11_cancels 68 = .ok (.ireturn, 1) := by decide +kernel
theorem dX11_queueOf_0 : decode cX11_queueOf 0 = .ok (.iconst (-1), 1) := by decide +kernel
theorem dX11_queueOf_1 : decode cX11_queueOf 1 = .ok (.istore_n 2, 1) := by decide +kernel
theorem dX11_queueOf_2 : decode cX11_queueOf 2 = .ok (.iconst 0, 1) := by decide +kernel
theorem dX11_queueOf_3 : decode cX11_queueOf 3 = .ok (.istore_n 3, 1) := by decide +kernel
theorem dX11_queueOf_4 : decode cX11_queueOf 4 = .ok (.iload_n 3, 1) := by decide +kernel
theorem dX11_queueOf_5 : decode cX11_queueOf 5 = .ok (.bipush 6, 2) := by decide +kernel
theorem dX11_queueOf_7 : decode cX11_queueOf 7 = .ok (.if_icmp .ge 60, 3) := by decide +kernel
theorem dX11_queueOf_10 : decode cX11_queueOf 10 = .ok (.iconst 0, 1) := by decide +kernel
theorem dX11_queueOf_11 : decode cX11_queueOf 11 = .ok (.istore 4, 2) := by decide +kernel
theorem dX11_queueOf_13 : decode cX11_queueOf 13 = .ok (.iload 4, 2) := by decide +kernel
theorem dX11_queueOf_15 : decode cX11_queueOf 15 = .ok (.aload_n 0, 1) := by decide +kernel
theorem dX11_queueOf_16 : decode cX11_queueOf 16 = .ok (.getfield 13, 3) := by decide +kernel
theorem dX11_queueOf_19 : decode cX11_queueOf 19 = .ok (.iload_n 3, 1) := by decide +kernel
theorem dX11_queueOf_20 : decode cX11_queueOf 20 = .ok (.invokestatic 54, 3) := by decide +kernel
theorem dX11_queueOf_23 : decode cX11_queueOf 23 = .ok (.bipush 7, 2) := by decide +kernel
theorem dX11_queueOf_25 : decode cX11_queueOf 25 = .ok (.iadd, 1) := by decide +kernel
theorem dX11_queueOf_26 : decode cX11_queueOf 26 = .ok (.iaload, 1) := by decide +kernel
theorem dX11_queueOf_27 : decode cX11_queueOf 27 = .ok (.if_icmp .ge 34, 3) := by decide +kernel
theorem dX11_queueOf_30 : decode cX11_queueOf 30 = .ok (.aload_n 0, 1) := by decide +kernel
theorem dX11_queueOf_31 : decode cX11_queueOf 31 = .ok (.getfield 13, 3) := by decide +kernel
theorem dX11_queueOf_34 : decode cX11_queueOf 34 = .ok (.iload_n 3, 1) := by decide +kernel
theorem dX11_queueOf_35 : decode cX11_queueOf 35 = .ok (.invokestatic 54, 3) := by decide +kernel
theorem dX11_queueOf_38 : decode cX11_queueOf 38 = .ok (.bipush 8, 2) := by decide +kernel
theorem dX11_queueOf_40 : decode cX11_queueOf 40 = .ok (.iadd, 1) := by decide +kernel
theorem dX11_queueOf_41 : decode cX11_queueOf 41 = .ok (.iload 4, 2) := by decide +kernel
theorem dX11_queueOf_43 : decode cX11_queueOf 43 = .ok (.iadd, 1) := by decide +kernel
theorem dX11_queueOf_44 : decode cX11_queueOf 44 = .ok (.iaload, 1) := by decide +kernel
theorem dX11_queueOf_45 : decode cX11_queueOf 45 = .ok (.iload_n 1, 1) := by decide +kernel
theorem dX11_queueOf_46 : decode cX11_queueOf 46 = .ok (.if_icmp .ne 7, 3) := by decide +kernel
theorem dX11_queueOf_49 : decode cX11_queueOf 49 = .ok (.iload_n 3, 1) := by decide +kernel
theorem dX11_queueOf_50 : decode cX11_queueOf 50 = .ok (.goto 4, 3) := by decide +kernel
theorem dX11_queueOf_53 : decode cX11_queueOf 53 = .ok (.iload_n 2, 1) := by decide +kernel
theorem dX11_queueOf_54 : decode cX11_queueOf 54 = .ok (.istore_n 2, 1) := by decide +kernel
theorem dX11_queueOf_55 : decode cX11_queueOf 55 = .ok (.iinc 4 1, 3) := by decide +kernel
theorem dX11_queueOf_58 : decode cX11_queueOf 58 = .ok (.goto (-45), 3) := by decide +kernel
theorem dX11_queueOf_61 : decode cX11_queueOf 61 = .ok (.iinc 3 1, 3) := by decide +kernel
theorem dX11_queueOf_64 : decode cX11_queueOf 64 = .ok (.goto (-60), 3) := by decide +kernel
theorem dX11_queueOf_67 : decode cX11_queueOf 67 = .ok (.iload_n 2, 1) := by decide +kernel
theorem dX11_queueOf_68 : decode cX11_queueOf 68 = .ok (.ireturn, 1) := by decide +kernel
theorem dX11_goesFromQueue_0 : decode cX11_goesFromQueue 0 = .ok (.iload_n 1, 1) := by decide +kernel
theorem dX11_goesFromQueue_1 : decode cX11_goesFromQueue 1 = .ok (.invokestatic 54, 3) := by decide +kernel
theorem dX11_goesFromQueue_4 : decode cX11_goesFromQueue 4 = .ok (.istore_n 3, 1) := by decide +kernel
theorem dX11_goesFromQueue_5 : decode cX11_goesFromQueue 5 = .ok (.iconst 0, 1) := by decide +kernel
theorem dX11_goesFromQueue_6 : decode cX11_goesFromQueue 6 = .ok (.istore 4, 2) := by decide +kernel
theorem dX11_goesFromQueue_8 : decode cX11_goesFromQueue 8 = .ok (.aload_n 0, 1) := by decide +kernel
theorem dX11_goesFromQueue_9 : decode cX11_goesFromQueue 9 = .ok (.getfield 13, 3) := by decide +kernel
theorem dX11_goesFromQueue_12 : decode cX11_goesFromQueue 12 = .ok (.iload_n 3, 1) := by decide +kernel
theorem dX11_goesFromQueue_13 : decode cX11_goesFromQueue 13 = .ok (.bipush 8, 2) := by decide +kernel
theorem dX11_goesFromQueue_15 : decode cX11_goesFromQueue 15 = .ok (.iadd, 1) := by decide +kernel
theorem dX11_goesFromQueue_16 : decode cX11_goesFromQueue 16 = .ok (.iload 4, 2) := by decide +kernel
theorem dX11_goesFromQueue_18 : decode cX11_goesFromQueue 18 = .ok (.iadd, 1) := by decide +kernel
theorem dX11_goesFromQueue_19 : decode cX11_goesFromQueue 19 = .ok (.iaload, 1) := by decide +kernel
theorem dX11_goesFromQueue_20 : decode cX11_goesFromQueue 20 = .ok (.iload_n 2, 1) := by decide +kernel
theorem dX11_goesFromQueue_21 : decode cX11_goesFromQueue 21 = .ok (.if_icmp .eq 9, 3) := by decide +kernel
theorem dX11_goesFromQueue_24 : decode cX11_goesFromQueue 24 = .ok (.iinc 4 1, 3) := by decide +kernel
theorem dX11_goesFromQueue_27 : decode cX11_goesFromQueue 27 = .ok (.goto (-19), 3) := by decide +kernel
theorem dX11_goesFromQueue_30 : decode cX11_goesFromQueue 30 = .ok (.aload_n 0, 1) := by decide +kernel
theorem dX11_goesFromQueue_31 : decode cX11_goesFromQueue 31 = .ok (.getfield 13, 3) := by decide +kernel
theorem dX11_goesFromQueue_34 : decode cX11_goesFromQueue 34 = .ok (.iload_n 3, 1) := by decide +kernel
theorem dX11_goesFromQueue_35 : decode cX11_goesFromQueue 35 = .ok (.bipush 7, 2) := by decide +kernel
theorem dX11_goesFromQueue_37 : decode cX11_goesFromQueue 37 = .ok (.iadd, 1) := by decide +kernel
theorem dX11_goesFromQueue_38 : decode cX11_goesFromQueue 38 = .ok (.dup2, 1) := by decide +kernel
theorem dX11_goesFromQueue_39 : decode cX11_goesFromQueue 39 = .ok (.iaload, 1) := by decide +kernel
theorem dX11_goesFromQueue_40 : decode cX11_goesFromQueue 40 = .ok (.iconst 1, 1) := by decide +kernel
theorem dX11_goesFromQueue_41 : decode cX11_goesFromQueue 41 = .ok (.isub, 1) := by decide +kernel
theorem dX11_goesFromQueue_42 : decode cX11_goesFromQueue 42 = .ok (.iastore, 1) := by decide +kernel
theorem dX11_goesFromQueue_43 : decode cX11_goesFromQueue 43 = .ok (.iload 4, 2) := by decide +kernel
theorem dX11_goesFromQueue_45 : decode cX11_goesFromQueue 45 = .ok (.istore 5, 2) := by decide +kernel
theorem dX11_goesFromQueue_47 : decode cX11_goesFromQueue 47 = .ok (.iload 5, 2) := by decide +kernel
theorem dX11_goesFromQueue_49 : decode cX11_goesFromQueue 49 = .ok (.aload_n 0, 1) := by decide +kernel
theorem dX11_goesFromQueue_50 : decode cX11_goesFromQueue 50 = .ok (.getfield 13, 3) := by decide +kernel
theorem dX11_goesFromQueue_53 : decode cX11_goesFromQueue 53 = .ok (.iload_n 3, 1) := by decide +kernel
theorem dX11_goesFromQueue_54 : decode cX11_goesFromQueue 54 = .ok (.bipush 7, 2) := by decide +kernel
theorem dX11_goesFromQueue_56 : decode cX11_goesFromQueue 56 = .ok (.iadd, 1) := by decide +kernel
theorem dX11_goesFromQueue_57 : decode cX11_goesFromQueue 57 = .ok (.iaload, 1) := by decide +kernel
theorem dX11_goesFromQueue_58 : decode cX11_goesFromQueue 58 = .ok (.if_icmp .ge 35, 3) := by decide +kernel
theorem dX11_goesFromQueue_61 : decode cX11_goesFromQueue 61 = .ok (.aload_n 0, 1) := by decide +kernel
theorem dX11_goesFromQueue_62 : decode cX11_goesFromQueue 62 = .ok (.getfield 13, 3) := by decide +kernel
theorem dX11_goesFromQueue_65 : decode cX11_goesFromQueue 65 = .ok (.iload_n 3, 1) := by decide +kernel
theorem dX11_goesFromQueue_66 : decode cX11_goesFromQueue 66 = .ok (.bipush 8, 2) := by decide +kernel
theorem dX11_goesFromQueue_68 : decode cX11_goesFromQueue 68 = .ok (.iadd, 1) := by decide +kernel
theorem dX11_goesFromQueue_69 : decode cX11_goesFromQueue 69 = .ok (.iload 5, 2) := by decide +kernel
theorem dX11_goesFromQueue_71 : decode cX11_goesFromQueue 71 = .ok (.iadd, 1) := by decide +kernel
theorem dX11_goesFromQueue_72 : decode cX11_goesFromQueue 72 = .ok (.aload_n 0, 1) := by decide +kernel
theorem dX11_goesFromQueue_73 : decode cX11_goesFromQueue 73 = .ok (.getfield 13, 3) := by decide +kernel
theorem dX11_goesFromQueue_76 : decode cX11_goesFromQueue 76 = .ok (.iload_n 3, 1) := by decide +kernel
theorem dX11_goesFromQueue_77 : decode cX11_goesFromQueue 77 = .ok (.bipush 8, 2) := by decide +kernel
theorem dX11_goesFromQueue_79 : decode cX11_goesFromQueue 79 = .ok (.iadd, 1) := by decide +kernel
theorem dX11_goesFromQueue_80 : decode cX11_goesFromQueue 80 = .ok (.iload 5, 2) := by decide +kernel
theorem dX11_goesFromQueue_82 : decode cX11_goesFromQueue 82 = .ok (.iadd, 1) := by decide +kernel
theorem dX11_goesFromQueue_83 : decode cX11_goesFromQueue 83 = .ok (.iconst 1, 1) := by decide +kernel
theorem dX11_goesFromQueue_84 : decode cX11_goesFromQueue 84 = .ok (.iadd, 1) := by decide +kernel
theorem dX11_goesFromQueue_85 : decode cX11_goesFromQueue 85 = .ok (.iaload, 1) := by decide +kernel
theorem dX11_goesFromQueue_86 : decode cX11_goesFromQueue 86 = .ok (.iastore, 1) := by decide +kernel
theorem dX11_goesFromQueue_87 : decode cX11_goesFromQueue 87 = .ok (.iinc 5 1, 3) := by decide +kernel
theorem dX11_goesFromQueue_90 : decode cX11_goesFromQueue 90 = .ok (.goto (-43), 3) := by decide +kernel
theorem dX11_goesFromQueue_93 : decode cX11_goesFromQueue 93 = .ok (.return_, 1) := by decide +kernel
theorem dX11_keeps_0 : decode cX11_keeps 0 = .ok (.iload_n 1, 1) := by decide +kernel
theorem dX11_keeps_1 : decode cX11_keeps 1 = .ok (.invokestatic 162, 3) := by decide +kernel
theorem dX11_keeps_4 : decode cX11_keeps 4 = .ok (.ifCond .eq 11, 3) := by decide +kernel
theorem dX11_keeps_7 : decode cX11_keeps 7 = .ok (.aload_n 0, 1) := by decide +kernel
theorem dX11_keeps_8 : decode cX11_keeps 8 = .ok (.iload_n 2, 1) := by decide +kernel
theorem dX11_keeps_9 : decode cX11_keeps 9 = .ok (.invokevirtual 136, 3) := by decide +kernel
theorem dX11_keeps_12 : decode cX11_keeps 12 = .ok (.ifCond .ne 8, 3) := by decide +kernel
theorem dX11_keeps_15 : decode cX11_keeps 15 = .ok (.aload_n 0, 1) := by decide +kernel
theorem dX11_keeps_16 : decode cX11_keeps 16 = .ok (.invokevirtual 130, 3) := by decide +kernel
theorem dX11_keeps_19 : decode cX11_keeps 19 = .ok (.ireturn, 1) := by decide +kernel
theorem dX11_keeps_20 : decode cX11_keeps 20 = .ok (.aload_n 0, 1) := by decide +kernel
theorem dX11_keeps_21 : decode cX11_keeps 21 = .ok (.iload_n 1, 1) := by decide +kernel
theorem dX11_keeps_22 : decode cX11_keeps 22 = .ok (.invokevirtual 165, 3) := by decide +kernel
theorem dX11_keeps_25 : decode cX11_keeps 25 = .ok (.iconst (-1), 1) := by decide +kernel
theorem dX11_keeps_26 : decode cX11_keeps 26 = .ok (.if_icmp .eq 8, 3) := by decide +kernel
theorem dX11_keeps_29 : decode cX11_keeps 29 = .ok (.aload_n 0, 1) := by decide +kernel
theorem dX11_keeps_30 : decode cX11_keeps 30 = .ok (.invokevirtual 65, 3) := by decide +kernel
theorem dX11_keeps_33 : decode cX11_keeps 33 = .ok (.ireturn, 1) := by decide +kernel
theorem dX11_keeps_34 : decode cX11_keeps 34 = .ok (.aload_n 0, 1) := by decide +kernel
theorem dX11_keeps_35 : decode cX11_keeps 35 = .ok (.invokevirtual 133, 3) := by decide +kernel
theorem dX11_keeps_38 : decode cX11_keeps 38 = .ok (.iload_n 2, 1) := by decide +kernel
theorem dX11_keeps_39 : decode cX11_keeps 39 = .ok (.invokestatic 54, 3) := by decide +kernel
theorem dX11_keeps_42 : decode cX11_keeps 42 = .ok (.istore_n 3, 1) := by decide +kernel
theorem dX11_keeps_43 : decode cX11_keeps 43 = .ok (.aload_n 0, 1) := by decide +kernel
theorem dX11_keeps_44 : decode cX11_keeps 44 = .ok (.iload_n 2, 1) := by decide +kernel
theorem dX11_keeps_45 : decode cX11_keeps 45 = .ok (.invokevirtual 72, 3) := by decide +kernel
theorem dX11_keeps_48 : decode cX11_keeps 48 = .ok (.aload_n 0, 1) := by decide +kernel
theorem dX11_keeps_49 : decode cX11_keeps 49 = .ok (.getfield 13, 3) := by decide +kernel
theorem dX11_keeps_52 : decode cX11_keeps 52 = .ok (.iload_n 3, 1) := by decide +kernel
theorem dX11_keeps_53 : decode cX11_keeps 53 = .ok (.iconst 5, 1) := by decide +kernel
theorem dX11_keeps_54 : decode cX11_keeps 54 = .ok (.iadd, 1) := by decide +kernel
theorem dX11_keeps_55 : decode cX11_keeps 55 = .ok (.iaload, 1) := by decide +kernel
theorem dX11_keeps_56 : decode cX11_keeps 56 = .ok (.iconst (-1), 1) := by decide +kernel
theorem dX11_keeps_57 : decode cX11_keeps 57 = .ok (.if_icmp .eq 15, 3) := by decide +kernel
theorem dX11_keeps_60 : decode cX11_keeps 60 = .ok (.aload_n 0, 1) := by decide +kernel
theorem dX11_keeps_61 : decode cX11_keeps 61 = .ok (.getfield 13, 3) := by decide +kernel
theorem dX11_keeps_64 : decode cX11_keeps 64 = .ok (.iload_n 3, 1) := by decide +kernel
theorem dX11_keeps_65 : decode cX11_keeps 65 = .ok (.iconst 5, 1) := by decide +kernel
theorem dX11_keeps_66 : decode cX11_keeps 66 = .ok (.iadd, 1) := by decide +kernel
theorem dX11_keeps_67 : decode cX11_keeps 67 = .ok (.iaload, 1) := by decide +kernel
theorem dX11_keeps_68 : decode cX11_keeps 68 = .ok (.iload_n 1, 1) := by decide +kernel
theorem dX11_keeps_69 : decode cX11_keeps 69 = .ok (.if_icmp .ne 7, 3) := by decide +kernel
theorem dX11_keeps_72 : decode cX11_keeps 72 = .ok (.iconst 1, 1) := by decide +kernel
theorem dX11_keeps_73 : decode cX11_keeps 73 = .ok (.goto 4, 3) := by decide +kernel
theorem dX11_keeps_76 : decode cX11_keeps 76 = .ok (.iconst 0, 1) := by decide +kernel
theorem dX11_keeps_77 : decode cX11_keeps 77 = .ok (.istore 4, 2) := by decide +kernel
theorem dX11_keeps_79 : decode cX11_keeps 79 = .ok (.iload 4, 2) := by decide +kernel
theorem dX11_keeps_81 : decode cX11_keeps 81 = .ok (.ifCond .eq 28, 3) := by decide +kernel
theorem dX11_keeps_84 : decode cX11_keeps 84 = .ok (.aload_n 0, 1) := by decide +kernel
theorem dX11_keeps_85 : decode cX11_keeps 85 = .ok (.getfield 13, 3) := by decide +kernel
theorem dX11_keeps_88 : decode cX11_keeps 88 = .ok (.iload_n 3, 1) := by decide +kernel
theorem dX11_keeps_89 : decode cX11_keeps 89 = .ok (.iconst 5, 1) := by decide +kernel
theorem dX11_keeps_90 : decode cX11_keeps 90 = .ok (.iadd, 1) := by decide +kernel
theorem dX11_keeps_91 : decode cX11_keeps 91 = .ok (.iload_n 1, 1) := by decide +kernel
theorem dX11_keeps_92 : decode cX11_keeps 92 = .ok (.iastore, 1) := by decide +kernel
theorem dX11_keeps_93 : decode cX11_keeps 93 = .ok (.aload_n 0, 1) := by decide +kernel
theorem dX11_keeps_94 : decode cX11_keeps 94 = .ok (.getfield 13, 3) := by decide +kernel
theorem dX11_keeps_97 : decode cX11_keeps 97 = .ok (.iload_n 3, 1) := by decide +kernel
theorem dX11_keeps_98 : decode cX11_keeps 98 = .ok (.bipush 6, 2) := by decide +kernel
theorem dX11_keeps_100 : decode cX11_keeps 100 = .ok (.iadd, 1) := by decide +kernel
theorem dX11_keeps_101 : decode cX11_keeps 101 = .ok (.dup2, 1) := by decide +kernel
theorem dX11_keeps_102 : decode cX11_keeps 102 = .ok (.iaload, 1) := by decide +kernel
theorem dX11_keeps_103 : decode cX11_keeps 103 = .ok (.iconst 1, 1) := by decide +kernel
theorem dX11_keeps_104 : decode cX11_keeps 104 = .ok (.iadd, 1) := by decide +kernel
theorem dX11_keeps_105 : decode cX11_keeps 105 = .ok (.iastore, 1) := by decide +kernel
theorem dX11_keeps_106 : decode cX11_keeps 106 = .ok (.goto 36, 3) := by decide +kernel
theorem dX11_keeps_109 : decode cX11_keeps 109 = .ok (.aload_n 0, 1) := by decide +kernel
theorem dX11_keeps_110 : decode cX11_keeps 110 = .ok (.getfield 13, 3) := by decide +kernel
theorem dX11_keeps_113 : decode cX11_keeps 113 = .ok (.iload_n 3, 1) := by decide +kernel
theorem dX11_keeps_114 : decode cX11_keeps 114 = .ok (.bipush 8, 2) := by decide +kernel
theorem dX11_keeps_116 : decode cX11_keeps 116 = .ok (.iadd, 1) := by decide +kernel
theorem dX11_keeps_117 : decode cX11_keeps 117 = .ok (.aload_n 0, 1) := by decide +kernel
theorem dX11_keeps_118 : decode cX11_keeps 118 = .ok (.getfield 13, 3) := by decide +kernel
theorem dX11_keeps_121 : decode cX11_keeps 121 = .ok (.iload_n 3, 1) := by decide +kernel
theorem dX11_keeps_122 : decode cX11_keeps 122 = .ok (.bipush 7, 2) := by decide +kernel
theorem dX11_keeps_124 : decode cX11_keeps 124 = .ok (.iadd, 1) := by decide +kernel
theorem dX11_keeps_125 : decode cX11_keeps 125 = .ok (.iaload, 1) := by decide +kernel
theorem dX11_keeps_126 : decode cX11_keeps 126 = .ok (.iadd, 1) := by decide +kernel
theorem dX11_keeps_127 : decode cX11_keeps 127 = .ok (.iload_n 1, 1) := by decide +kernel
theorem dX11_keeps_128 : decode cX11_keeps 128 = .ok (.iastore, 1) := by decide +kernel
theorem dX11_keeps_129 : decode cX11_keeps 129 = .ok (.aload_n 0, 1) := by decide +kernel
theorem dX11_keeps_130 : decode cX11_keeps 130 = .ok (.getfield 13, 3) := by decide +kernel
theorem dX11_keeps_133 : decode cX11_keeps 133 = .ok (.iload_n 3, 1) := by decide +kernel
theorem dX11_keeps_134 : decode cX11_keeps 134 = .ok (.bipush 7, 2) := by decide +kernel
theorem dX11_keeps_136 : decode cX11_keeps 136 = .ok (.iadd, 1) := by decide +kernel
theorem dX11_keeps_137 : decode cX11_keeps 137 = .ok (.dup2, 1) := by decide +kernel
theorem dX11_keeps_138 : decode cX11_keeps 138 = .ok (.iaload, 1) := by decide +kernel
theorem dX11_keeps_139 : decode cX11_keeps 139 = .ok (.iconst 1, 1) := by decide +kernel
theorem dX11_keeps_140 : decode cX11_keeps 140 = .ok (.iadd, 1) := by decide +kernel
theorem dX11_keeps_141 : decode cX11_keeps 141 = .ok (.iastore, 1) := by decide +kernel
theorem dX11_keeps_142 : decode cX11_keeps 142 = .ok (.aload_n 0, 1) := by decide +kernel
theorem dX11_keeps_143 : decode cX11_keeps 143 = .ok (.iload_n 2, 1) := by decide +kernel
theorem dX11_keeps_144 : decode cX11_keeps 144 = .ok (.invokevirtual 82, 3) := by decide +kernel
theorem dX11_keeps_147 : decode cX11_keeps 147 = .ok (.iload 4, 2) := by decide +kernel
theorem dX11_keeps_149 : decode cX11_keeps 149 = .ok (.ifCond .eq 15, 3) := by decide +kernel
theorem dX11_keeps_152 : decode cX11_keeps 152 = .ok (.aload_n 0, 1) := by decide +kernel
theorem dX11_keeps_153 : decode cX11_keeps 153 = .ok (.getfield 13, 3) := by decide +kernel
theorem dX11_keeps_156 : decode cX11_keeps 156 = .ok (.iload_n 3, 1) := by decide +kernel
theorem dX11_keeps_157 : decode cX11_keeps 157 = .ok (.bipush 6, 2) := by decide +kernel
theorem dX11_keeps_159 : decode cX11_keeps 159 = .ok (.iadd, 1) := by decide +kernel
theorem dX11_keeps_160 : decode cX11_keeps 160 = .ok (.iaload, 1) := by decide +kernel
theorem dX11_keeps_161 : decode cX11_keeps 161 = .ok (.goto 5, 3) := by decide +kernel
theorem dX11_keeps_164 : decode cX11_keeps 164 = .ok (.bipush (-5), 2) := by decide +kernel
theorem dX11_keeps_166 : decode cX11_keeps 166 = .ok (.ireturn, 1) := by decide +kernel
theorem dX11_lets_0 : decode cX11_lets 0 = .ok (.iload_n 1, 1) := by decide +kernel
theorem dX11_lets_1 : decode cX11_lets 1 = .ok (.invokestatic 162, 3) := by decide +kernel
theorem dX11_lets_4 : decode cX11_lets 4 = .ok (.ifCond .eq 11, 3) := by decide +kernel
theorem dX11_lets_7 : decode cX11_lets 7 = .ok (.aload_n 0, 1) := by decide +kernel
theorem dX11_lets_8 : decode cX11_lets 8 = .ok (.iload_n 2, 1) := by decide +kernel
theorem dX11_lets_9 : decode cX11_lets 9 = .ok (.invokevirtual 136, 3) := by decide +kernel
theorem dX11_lets_12 : decode cX11_lets 12 = .ok (.ifCond .ne 8, 3) := by decide +kernel
theorem dX11_lets_15 : decode cX11_lets 15 = .ok (.aload_n 0, 1) := by decide +kernel
theorem dX11_lets_16 : decode cX11_lets 16 = .ok (.invokevirtual 130, 3) := by decide +kernel
theorem dX11_lets_19 : decode cX11_lets 19 = .ok (.ireturn, 1) := by decide +kernel
theorem dX11_lets_20 : decode cX11_lets 20 = .ok (.iload_n 2, 1) := by decide +kernel
theorem dX11_lets_21 : decode cX11_lets 21 = .ok (.invokestatic 54, 3) := by decide +kernel
theorem dX11_lets_24 : decode cX11_lets 24 = .ok (.istore_n 3, 1) := by decide +kernel
theorem dX11_lets_25 : decode cX11_lets 25 = .ok (.aload_n 0, 1) := by decide +kernel
theorem dX11_lets_26 : decode cX11_lets 26 = .ok (.getfield 13, 3) := by decide +kernel
theorem dX11_lets_29 : decode cX11_lets 29 = .ok (.iload_n 3, 1) := by decide +kernel
theorem dX11_lets_30 : decode cX11_lets 30 = .ok (.iconst 5, 1) := by decide +kernel
theorem dX11_lets_31 : decode cX11_lets 31 = .ok (.iadd, 1) := by decide +kernel
theorem dX11_lets_32 : decode cX11_lets 32 = .ok (.iaload, 1) := by decide +kernel
theorem dX11_lets_33 : decode cX11_lets 33 = .ok (.iload_n 1, 1) := by decide +kernel
theorem dX11_lets_34 : decode cX11_lets 34 = .ok (.if_icmp .eq 8, 3) := by decide +kernel
theorem dX11_lets_37 : decode cX11_lets 37 = .ok (.aload_n 0, 1) := by decide +kernel
theorem dX11_lets_38 : decode cX11_lets 38 = .ok (.invokevirtual 65, 3) := by decide +kernel
theorem dX11_lets_41 : decode cX11_lets 41 = .ok (.ireturn, 1) := by decide +kernel
theorem dX11_lets_42 : decode cX11_lets 42 = .ok (.aload_n 0, 1) := by decide +kernel
theorem dX11_lets_43 : decode cX11_lets 43 = .ok (.invokevirtual 133, 3) := by decide +kernel
theorem dX11_lets_46 : decode cX11_lets 46 = .ok (.aload_n 0, 1) := by decide +kernel
theorem dX11_lets_47 : decode cX11_lets 47 = .ok (.iload_n 2, 1) := by decide +kernel
theorem dX11_lets_48 : decode cX11_lets 48 = .ok (.invokevirtual 72, 3) := by decide +kernel
theorem dX11_lets_51 : decode cX11_lets 51 = .ok (.aload_n 0, 1) := by decide +kernel
theorem dX11_lets_52 : decode cX11_lets 52 = .ok (.getfield 13, 3) := by decide +kernel
theorem dX11_lets_55 : decode cX11_lets 55 = .ok (.iload_n 3, 1) := by decide +kernel
theorem dX11_lets_56 : decode cX11_lets 56 = .ok (.bipush 6, 2) := by decide +kernel
theorem dX11_lets_58 : decode cX11_lets 58 = .ok (.iadd, 1) := by decide +kernel
theorem dX11_lets_59 : decode cX11_lets 59 = .ok (.dup2, 1) := by decide +kernel
theorem dX11_lets_60 : decode cX11_lets 60 = .ok (.iaload, 1) := by decide +kernel
theorem dX11_lets_61 : decode cX11_lets 61 = .ok (.iconst 1, 1) := by decide +kernel
theorem dX11_lets_62 : decode cX11_lets 62 = .ok (.isub, 1) := by decide +kernel
theorem dX11_lets_63 : decode cX11_lets 63 = .ok (.iastore, 1) := by decide +kernel
theorem dX11_lets_64 : decode cX11_lets 64 = .ok (.aload_n 0, 1) := by decide +kernel
theorem dX11_lets_65 : decode cX11_lets 65 = .ok (.getfield 13, 3) := by decide +kernel
theorem dX11_lets_68 : decode cX11_lets 68 = .ok (.iload_n 3, 1) := by decide +kernel
theorem dX11_lets_69 : decode cX11_lets 69 = .ok (.bipush 6, 2) := by decide +kernel
theorem dX11_lets_71 : decode cX11_lets 71 = .ok (.iadd, 1) := by decide +kernel
theorem dX11_lets_72 : decode cX11_lets 72 = .ok (.iaload, 1) := by decide +kernel
theorem dX11_lets_73 : decode cX11_lets 73 = .ok (.istore 4, 2) := by decide +kernel
theorem dX11_lets_75 : decode cX11_lets 75 = .ok (.iload 4, 2) := by decide +kernel
theorem dX11_lets_77 : decode cX11_lets 77 = .ok (.ifCond .ne 63, 3) := by decide +kernel
theorem dX11_lets_80 : decode cX11_lets 80 = .ok (.aload_n 0, 1) := by decide +kernel
theorem dX11_lets_81 : decode cX11_lets 81 = .ok (.getfield 13, 3) := by decide +kernel
theorem dX11_lets_84 : decode cX11_lets 84 = .ok (.iload_n 3, 1) := by decide +kernel
theorem dX11_lets_85 : decode cX11_lets 85 = .ok (.bipush 7, 2) := by decide +kernel
theorem dX11_lets_87 : decode cX11_lets 87 = .ok (.iadd, 1) := by decide +kernel
theorem dX11_lets_88 : decode cX11_lets 88 = .ok (.iaload, 1) := by decide +kernel
theorem dX11_lets_89 : decode cX11_lets 89 = .ok (.ifCond .le 15, 3) := by decide +kernel
theorem dX11_lets_92 : decode cX11_lets 92 = .ok (.aload_n 0, 1) := by decide +kernel
theorem dX11_lets_93 : decode cX11_lets 93 = .ok (.getfield 13, 3) := by decide +kernel
theorem dX11_lets_96 : decode cX11_lets 96 = .ok (.iload_n 3, 1) := by decide +kernel
theorem dX11_lets_97 : decode cX11_lets 97 = .ok (.bipush 8, 2) := by decide +kernel
theorem dX11_lets_99 : decode cX11_lets 99 = .ok (.iadd, 1) := by decide +kernel
theorem dX11_lets_100 : decode cX11_lets 100 = .ok (.iaload, 1) := by decide +kernel
theorem dX11_lets_101 : decode cX11_lets 101 = .ok (.goto 4, 3) := by decide +kernel
theorem dX11_lets_104 : decode cX11_lets 104 = .ok (.iconst (-1), 1) := by decide +kernel
theorem dX11_lets_105 : decode cX11_lets 105 = .ok (.istore 5, 2) := by decide +kernel
theorem dX11_lets_107 : decode cX11_lets 107 = .ok (.aload_n 0, 1) := by decide +kernel
theorem dX11_lets_108 : decode cX11_lets 108 = .ok (.getfield 13, 3) := by decide +kernel
theorem dX11_lets_111 : decode cX11_lets 111 = .ok (.iload_n 3, 1) := by decide +kernel
theorem dX11_lets_112 : decode cX11_lets 112 = .ok (.iconst 5, 1) := by decide +kernel
theorem dX11_lets_113 : decode cX11_lets 113 = .ok (.iadd, 1) := by decide +kernel
theorem dX11_lets_114 : decode cX11_lets 114 = .ok (.iload 5, 2) := by decide +kernel
theorem dX11_lets_116 : decode cX11_lets 116 = .ok (.iastore, 1) := by decide +kernel
theorem dX11_lets_117 : decode cX11_lets 117 = .ok (.iload 5, 2) := by decide +kernel
theorem dX11_lets_119 : decode cX11_lets 119 = .ok (.iconst (-1), 1) := by decide +kernel
theorem dX11_lets_120 : decode cX11_lets 120 = .ok (.if_icmp .eq 20, 3) := by decide +kernel
theorem dX11_lets_123 : decode cX11_lets 123 = .ok (.aload_n 0, 1) := by decide +kernel
theorem dX11_lets_124 : decode cX11_lets 124 = .ok (.getfield 13, 3) := by decide +kernel
theorem dX11_lets_127 : decode cX11_lets 127 = .ok (.iload_n 3, 1) := by decide +kernel
theorem dX11_lets_128 : decode cX11_lets 128 = .ok (.bipush 6, 2) := by decide +kernel
theorem dX11_lets_130 : decode cX11_lets 130 = .ok (.iadd, 1) := by decide +kernel
theorem dX11_lets_131 : decode cX11_lets 131 = .ok (.iconst 1, 1) := by decide +kernel
theorem dX11_lets_132 : decode cX11_lets 132 = .ok (.iastore, 1) := by decide +kernel
theorem dX11_lets_133 : decode cX11_lets 133 = .ok (.aload_n 0, 1) := by decide +kernel
theorem dX11_lets_134 : decode cX11_lets 134 = .ok (.iload_n 2, 1) := by decide +kernel
theorem dX11_lets_135 : decode cX11_lets 135 = .ok (.iload 5, 2) := by decide +kernel
theorem dX11_lets_137 : decode cX11_lets 137 = .ok (.invokevirtual 168, 3) := by decide +kernel
theorem dX11_lets_140 : decode cX11_lets 140 = .ok (.aload_n 0, 1) := by decide +kernel
theorem dX11_lets_141 : decode cX11_lets 141 = .ok (.iload_n 2, 1) := by decide +kernel
theorem dX11_lets_142 : decode cX11_lets 142 = .ok (.invokevirtual 82, 3) := by decide +kernel
theorem dX11_lets_145 : decode cX11_lets 145 = .ok (.aload_n 0, 1) := by decide +kernel
theorem dX11_lets_146 : decode cX11_lets 146 = .ok (.invokevirtual 127, 3) := by decide +kernel
theorem dX11_lets_149 : decode cX11_lets 149 = .ok (.iload 4, 2) := by decide +kernel
theorem dX11_lets_151 : decode cX11_lets 151 = .ok (.ireturn, 1) := by decide +kernel
theorem dX11_quits_0 : decode cX11_quits 0 = .ok (.iload_n 1, 1) := by decide +kernel
theorem dX11_quits_1 : decode cX11_quits 1 = .ok (.invokestatic 162, 3) := by decide +kernel
theorem dX11_quits_4 : decode cX11_quits 4 = .ok (.ifCond .ne 8, 3) := by decide +kernel
theorem dX11_quits_7 : decode cX11_quits 7 = .ok (.aload_n 0, 1) := by decide +kernel
theorem dX11_quits_8 : decode cX11_quits 8 = .ok (.invokevirtual 130, 3) := by decide +kernel
theorem dX11_quits_11 : decode cX11_quits 11 = .ok (.ireturn, 1) := by decide +kernel
theorem dX11_quits_12 : decode cX11_quits 12 = .ok (.aload_n 0, 1) := by decide +kernel
theorem dX11_quits_13 : decode cX11_quits 13 = .ok (.iload_n 1, 1) := by decide +kernel
theorem dX11_quits_14 : decode cX11_quits 14 = .ok (.invokevirtual 165, 3) := by decide +kernel
theorem dX11_quits_17 : decode cX11_quits 17 = .ok (.istore_n 2, 1) := by decide +kernel
theorem dX11_quits_18 : decode cX11_quits 18 = .ok (.iload_n 2, 1) := by decide +kernel
theorem dX11_quits_19 : decode cX11_quits 19 = .ok (.iconst (-1), 1) := by decide +kernel
theorem dX11_quits_20 : decode cX11_quits 20 = .ok (.if_icmp .ne 8, 3) := by decide +kernel
theorem dX11_quits_23 : decode cX11_quits 23 = .ok (.aload_n 0, 1) := by decide +kernel
theorem dX11_quits_24 : decode cX11_quits 24 = .ok (.invokevirtual 65, 3) := by decide +kernel
theorem dX11_quits_27 : decode cX11_quits 27 = .ok (.ireturn, 1) := by decide +kernel
theorem dX11_quits_28 : decode cX11_quits 28 = .ok (.aload_n 0, 1) := by decide +kernel
theorem dX11_quits_29 : decode cX11_quits 29 = .ok (.invokevirtual 133, 3) := by decide +kernel
theorem dX11_quits_32 : decode cX11_quits 32 = .ok (.aload_n 0, 1) := by decide +kernel
theorem dX11_quits_33 : decode cX11_quits 33 = .ok (.iload_n 2, 1) := by decide +kernel
theorem dX11_quits_34 : decode cX11_quits 34 = .ok (.iload_n 1, 1) := by decide +kernel
theorem dX11_quits_35 : decode cX11_quits 35 = .ok (.invokevirtual 168, 3) := by decide +kernel
theorem dX11_quits_38 : decode cX11_quits 38 = .ok (.iload_n 2, 1) := by decide +kernel
theorem dX11_quits_39 : decode cX11_quits 39 = .ok (.ireturn, 1) := by decide +kernel
theorem dX11_keeper_0 : decode cX11_keeper 0 = .ok (.aload_n 0, 1) := by decide +kernel
theorem dX11_keeper_1 : decode cX11_keeper 1 = .ok (.iload_n 1, 1) := by decide +kernel
theorem dX11_keeper_2 : decode cX11_keeper 2 = .ok (.invokevirtual 136, 3) := by decide +kernel
theorem dX11_keeper_5 : decode cX11_keeper 5 = .ok (.ifCond .eq 12, 3) := by decide +kernel
theorem dX11_keeper_8 : decode cX11_keeper 8 = .ok (.iload_n 2, 1) := by decide +kernel
theorem dX11_keeper_9 : decode cX11_keeper 9 = .ok (.iconst 0, 1) := by decide +kernel
theorem dX11_keeper_10 : decode cX11_keeper 10 = .ok (.iconst 2, 1) := by decide +kernel
theorem dX11_keeper_11 : decode cX11_keeper 11 = .ok (.invokestatic 50, 3) := by decide +kernel
theorem dX11_keeper_14 : decode cX11_keeper 14 = .ok (.ifCond .ne 8, 3) := by decide +kernel
theorem dX11_keeper_17 : decode cX11_keeper 17 = .ok (.aload_n 0, 1) := by decide +kernel
theorem dX11_keeper_18 : decode cX11_keeper 18 = .ok (.invokevirtual 130, 3) := by decide +kernel
theorem dX11_keeper_21 : decode cX11_keeper 21 = .ok (.ireturn, 1) := by decide +kernel
theorem dX11_keeper_22 : decode cX11_keeper 22 = .ok (.aload_n 0, 1) := by decide +kernel
theorem dX11_keeper_23 : decode cX11_keeper 23 = .ok (.getfield 13, 3) := by decide +kernel
theorem dX11_keeper_26 : decode cX11_keeper 26 = .ok (.iload_n 1, 1) := by decide +kernel
theorem dX11_keeper_27 : decode cX11_keeper 27 = .ok (.invokestatic 54, 3) := by decide +kernel
theorem dX11_keeper_30 : decode cX11_keeper 30 = .ok (.iload_n 2, 1) := by decide +kernel
theorem dX11_keeper_31 : decode cX11_keeper 31 = .ok (.ifCond .ne 7, 3) := by decide +kernel
theorem dX11_keeper_34 : decode cX11_keeper 34 = .ok (.iconst 5, 1) := by decide +kernel
theorem dX11_keeper_35 : decode cX11_keeper 35 = .ok (.goto 15, 3) := by decide +kernel
theorem dX11_keeper_38 : decode cX11_keeper 38 = .ok (.iload_n 2, 1) := by decide +kernel
theorem dX11_keeper_39 : decode cX11_keeper 39 = .ok (.iconst 1, 1) := by decide +kernel
theorem dX11_keeper_40 : decode cX11_keeper 40 = .ok (.if_icmp .ne 8, 3) := by decide +kernel
theorem dX11_keeper_43 : decode cX11_keeper 43 = .ok (.bipush 6, 2) := by decide +kernel
theorem dX11_keeper_45 : decode cX11_keeper 45 = .ok (.goto 5, 3) := by decide +kernel
theorem dX11_keeper_48 : decode cX11_keeper 48 = .ok (.bipush 7, 2) := by decide +kernel
theorem dX11_keeper_50 : decode cX11_keeper 50 = .ok (.iadd, 1) := by decide +kernel
theorem dX11_keeper_51 : decode cX11_keeper 51 = .ok (.iaload, 1) := by decide +kernel
theorem dX11_keeper_52 : decode cX11_keeper 52 = .ok (.ireturn, 1) := by decide +kernel
theorem dX11_queue_0 : decode cX11_queue 0 = .ok (.aload_n 0, 1) := by decide +kernel
theorem dX11_queue_1 : decode cX11_queue 1 = .ok (.iload_n 1, 1) := by decide +kernel
theorem dX11_queue_2 : decode cX11_queue 2 = .ok (.invokevirtual 136, 3) := by decide +kernel
theorem dX11_queue_5 : decode cX11_queue 5 = .ok (.ifCond .eq 7, 3) := by decide +kernel
theorem dX11_queue_8 : decode cX11_queue 8 = .ok (.iload_n 2, 1) := by decide +kernel
theorem dX11_queue_9 : decode cX11_queue 9 = .ok (.ifCond .ge 8, 3) := by decide +kernel
theorem dX11_queue_12 : decode cX11_queue 12 = .ok (.aload_n 0, 1) := by decide +kernel
theorem dX11_queue_13 : decode cX11_queue 13 = .ok (.invokevirtual 130, 3) := by decide +kernel
theorem dX11_queue_16 : decode cX11_queue 16 = .ok (.ireturn, 1) := by decide +kernel
theorem dX11_queue_17 : decode cX11_queue 17 = .ok (.iload_n 2, 1) := by decide +kernel
theorem dX11_queue_18 : decode cX11_queue 18 = .ok (.aload_n 0, 1) := by decide +kernel
theorem dX11_queue_19 : decode cX11_queue 19 = .ok (.getfield 13, 3) := by decide +kernel
theorem dX11_queue_22 : decode cX11_queue 22 = .ok (.iload_n 1, 1) := by decide +kernel
theorem dX11_queue_23 : decode cX11_queue 23 = .ok (.invokestatic 54, 3) := by decide +kernel
theorem dX11_queue_26 : decode cX11_queue 26 = .ok (.bipush 7, 2) := by decide +kernel
theorem dX11_queue_28 : decode cX11_queue 28 = .ok (.iadd, 1) := by decide +kernel
theorem dX11_queue_29 : decode cX11_queue 29 = .ok (.iaload, 1) := by decide +kernel
theorem dX11_queue_30 : decode cX11_queue 30 = .ok (.if_icmp .ge 20, 3) := by decide +kernel
theorem dX11_queue_33 : decode cX11_queue 33 = .ok (.aload_n 0, 1) := by decide +kernel
theorem dX11_queue_34 : decode cX11_queue 34 = .ok (.getfield 13, 3) := by decide +kernel
theorem dX11_queue_37 : decode cX11_queue 37 = .ok (.iload_n 1, 1) := by decide +kernel
theorem dX11_queue_38 : decode cX11_queue 38 = .ok (.invokestatic 54, 3) := by decide +kernel
theorem dX11_queue_41 : decode cX11_queue 41 = .ok (.bipush 8, 2) := by decide +kernel
theorem dX11_queue_43 : decode cX11_queue 43 = .ok (.iadd, 1) := by decide +kernel
theorem dX11_queue_44 : decode cX11_queue 44 = .ok (.iload_n 2, 1) := by decide +kernel
theorem dX11_queue_45 : decode cX11_queue 45 = .ok (.iadd, 1) := by decide +kernel
theorem dX11_queue_46 : decode cX11_queue 46 = .ok (.iaload, 1) := by decide +kernel
theorem dX11_queue_47 : decode cX11_queue 47 = .ok (.goto 4, 3) := by decide +kernel
theorem dX11_queue_50 : decode cX11_queue 50 = .ok (.iconst (-1), 1) := by decide +kernel
theorem dX11_queue_51 : decode cX11_queue 51 = .ok (.ireturn, 1) := by decide +kernel
theorem dX11_isStuck_0 : decode cX11_isStuck 0 = .ok (.iload_n 1, 1) := by decide +kernel
theorem dX11_isStuck_1 : decode cX11_isStuck 1 = .ok (.istore_n 2, 1) := by decide +kernel
theorem dX11_isStuck_2 : decode cX11_isStuck 2 = .ok (.iconst 0, 1) := by decide +kernel
theorem dX11_isStuck_3 : decode cX11_isStuck 3 = .ok (.istore_n 3, 1) := by decide +kernel
theorem dX11_isStuck_4 : decode cX11_isStuck 4 = .ok (.iconst 0, 1) := by decide +kernel
theorem dX11_isStuck_5 : decode cX11_isStuck 5 = .ok (.istore 4, 2) := by decide +kernel
theorem dX11_isStuck_7 : decode cX11_isStuck 7 = .ok (.iload 4, 2) := by decide +kernel
theorem dX11_isStuck_9 : decode cX11_isStuck 9 = .ok (.bipush 6, 2) := by decide +kernel
theorem dX11_isStuck_11 : decode cX11_isStuck 11 = .ok (.if_icmp .ge 59, 3) := by decide +kernel
theorem dX11_isStuck_14 : decode cX11_isStuck 14 = .ok (.iload_n 3, 1) := by decide +kernel
theorem dX11_isStuck_15 : decode cX11_isStuck 15 = .ok (.ifCond .ne 55, 3) := by decide +kernel
theorem dX11_isStuck_18 : decode cX11_isStuck 18 = .ok (.iload_n 2, 1) := by decide +kernel
theorem dX11_isStuck_19 : decode cX11_isStuck 19 = .ok (.iconst (-1), 1) := by decide +kernel
theorem dX11_isStuck_20 : decode cX11_isStuck 20 = .ok (.if_icmp .eq 50, 3) := by decide +kernel
theorem dX11_isStuck_23 : decode cX11_isStuck 23 = .ok (.aload_n 0, 1) := by decide +kernel
theorem dX11_isStuck_24 : decode cX11_isStuck 24 = .ok (.iload_n 2, 1) := by decide +kernel
theorem dX11_isStuck_25 : decode cX11_isStuck 25 = .ok (.invokevirtual 165, 3) := by decide +kernel
theorem dX11_isStuck_28 : decode cX11_isStuck 28 = .ok (.istore 5, 2) := by decide +kernel
theorem dX11_isStuck_30 : decode cX11_isStuck 30 = .ok (.iload 5, 2) := by decide +kernel
theorem dX11_isStuck_32 : decode cX11_isStuck 32 = .ok (.iconst (-1), 1) := by decide +kernel
theorem dX11_isStuck_33 : decode cX11_isStuck 33 = .ok (.if_icmp .ne 7, 3) := by decide +kernel
theorem dX11_isStuck_36 : decode cX11_isStuck 36 = .ok (.iconst (-1), 1) := by decide +kernel
theorem dX11_isStuck_37 : decode cX11_isStuck 37 = .ok (.goto 15, 3) := by decide +kernel
theorem dX11_isStuck_40 : decode cX11_isStuck 40 = .ok (.aload_n 0, 1) := by decide +kernel
theorem dX11_isStuck_41 : decode cX11_isStuck 41 = .ok (.getfield 13, 3) := by decide +kernel
theorem dX11_isStuck_44 : decode cX11_isStuck 44 = .ok (.iload 5, 2) := by decide +kernel
theorem dX11_isStuck_46 : decode cX11_isStuck 46 = .ok (.invokestatic 54, 3) := by decide +kernel
theorem dX11_isStuck_49 : decode cX11_isStuck 49 = .ok (.iconst 5, 1) := by decide +kernel
theorem dX11_isStuck_50 : decode cX11_isStuck 50 = .ok (.iadd, 1) := by decide +kernel
theorem dX11_isStuck_51 : decode cX11_isStuck 51 = .ok (.iaload, 1) := by decide +kernel
theorem dX11_isStuck_52 : decode cX11_isStuck 52 = .ok (.istore_n 2, 1) := by decide +kernel
theorem dX11_isStuck_53 : decode cX11_isStuck 53 = .ok (.iload_n 2, 1) := by decide +kernel
theorem dX11_isStuck_54 : decode cX11_isStuck 54 = .ok (.iload_n 1, 1) := by decide +kernel
theorem dX11_isStuck_55 : decode cX11_isStuck 55 = .ok (.if_icmp .ne 7, 3) := by decide +kernel
theorem dX11_isStuck_58 : decode cX11_isStuck 58 = .ok (.iconst 1, 1) := by decide +kernel
theorem dX11_isStuck_59 : decode cX11_isStuck 59 = .ok (.goto 4, 3) := by decide +kernel
theorem dX11_isStuck_62 : decode cX11_isStuck 62 = .ok (.iconst 0, 1) := by decide +kernel
theorem dX11_isStuck_63 : decode cX11_isStuck 63 = .ok (.istore_n 3, 1) := by decide +kernel
theorem dX11_isStuck_64 : decode cX11_isStuck 64 = .ok (.iinc 4 1, 3) := by decide +kernel
theorem dX11_isStuck_67 : decode cX11_isStuck 67 = .ok (.goto (-60), 3) := by decide +kernel
theorem dX11_isStuck_70 : decode cX11_isStuck 70 = .ok (.iload_n 3, 1) := by decide +kernel
theorem dX11_isStuck_71 : decode cX11_isStuck 71 = .ok (.ireturn, 1) := by decide +kernel
theorem dX11_stuck_0 : decode cX11_stuck 0 = .ok (.iconst 0, 1) := by decide +kernel
theorem dX11_stuck_1 : decode cX11_stuck 1 = .ok (.istore_n 1, 1) := by decide +kernel
theorem dX11_stuck_2 : decode cX11_stuck 2 = .ok (.iconst 0, 1) := by decide +kernel
theorem dX11_stuck_3 : decode cX11_stuck 3 = .ok (.istore_n 2, 1) := by decide +kernel
theorem dX11_stuck_4 : decode cX11_stuck 4 = .ok (.iload_n 2, 1) := by decide +kernel
theorem dX11_stuck_5 : decode cX11_stuck 5 = .ok (.bipush 6, 2) := by decide +kernel
theorem dX11_stuck_7 : decode cX11_stuck 7 = .ok (.if_icmp .ge 27, 3) := by decide +kernel
theorem dX11_stuck_10 : decode cX11_stuck 10 = .ok (.iload_n 1, 1) := by decide +kernel
theorem dX11_stuck_11 : decode cX11_stuck 11 = .ok (.aload_n 0, 1) := by decide +kernel
theorem dX11_stuck_12 : decode cX11_stuck 12 = .ok (.iload_n 2, 1) := by decide +kernel
theorem dX11_stuck_13 : decode cX11_stuck 13 = .ok (.invokevirtual 171, 3) := by decide +kernel
theorem dX11_stuck_16 : decode cX11_stuck 16 = .ok (.ifCond .eq 9, 3) := by decide +kernel
theorem dX11_stuck_19 : decode cX11_stuck 19 = .ok (.iconst 1, 1) := by decide +kernel
theorem dX11_stuck_20 : decode cX11_stuck 20 = .ok (.iload_n 2, 1) := by decide +kernel
theorem dX11_stuck_21 : decode cX11_stuck 21 = .ok (.ishl, 1) := by decide +kernel
theorem dX11_stuck_22 : decode cX11_stuck 22 = .ok (.goto 4, 3) := by decide +kernel
theorem dX11_stuck_25 : decode cX11_stuck 25 = .ok (.iconst 0, 1) := by decide +kernel
theorem dX11_stuck_26 : decode cX11_stuck 26 = .ok (.ior, 1) := by decide +kernel
theorem dX11_stuck_27 : decode cX11_stuck 27 = .ok (.istore_n 1, 1) := by decide +kernel
theorem dX11_stuck_28 : decode cX11_stuck 28 = .ok (.iinc 2 1, 3) := by decide +kernel
theorem dX11_stuck_31 : decode cX11_stuck 31 = .ok (.goto (-27), 3) := by decide +kernel
theorem dX11_stuck_34 : decode cX11_stuck 34 = .ok (.iload_n 1, 1) := by decide +kernel
theorem dX11_stuck_35 : decode cX11_stuck 35 = .ok (.ireturn, 1) := by decide +kernel
theorem dX11_ofBuffer_0 : decode cX11_ofBuffer 0 = .ok (.iload_n 2, 1) := by decide +kernel
theorem dX11_ofBuffer_1 : decode cX11_ofBuffer 1 = .ok (.tableswitch 63 5 7 #[27, 39, 51], 27) := by decide +kernel
theorem dX11_ofBuffer_28 : decode cX11_ofBuffer 28 = .ok (.aload_n 0, 1) := by decide +kernel
theorem dX11_ofBuffer_29 : decode cX11_ofBuffer 29 = .ok (.getfield 13, 3) := by decide +kernel
theorem dX11_ofBuffer_32 : decode cX11_ofBuffer 32 = .ok (.iload_n 1, 1) := by decide +kernel
theorem dX11_ofBuffer_33 : decode cX11_ofBuffer 33 = .ok (.invokestatic 69, 3) := by decide +kernel
theorem dX11_ofBuffer_36 : decode cX11_ofBuffer 36 = .ok (.iconst 0, 1) := by decide +kernel
theorem dX11_ofBuffer_37 : decode cX11_ofBuffer 37 = .ok (.iadd, 1) := by decide +kernel
theorem dX11_ofBuffer_38 : decode cX11_ofBuffer 38 = .ok (.iaload, 1) := by decide +kernel
theorem dX11_ofBuffer_39 : decode cX11_ofBuffer 39 = .ok (.ireturn, 1) := by decide +kernel
theorem dX11_ofBuffer_40 : decode cX11_ofBuffer 40 = .ok (.aload_n 0, 1) := by decide +kernel
theorem dX11_ofBuffer_41 : decode cX11_ofBuffer 41 = .ok (.getfield 13, 3) := by decide +kernel
theorem dX11_ofBuffer_44 : decode cX11_ofBuffer 44 = .ok (.iload_n 1, 1) := by decide +kernel
theorem dX11_ofBuffer_45 : decode cX11_ofBuffer 45 = .ok (.invokestatic 69, 3) := by decide +kernel
theorem dX11_ofBuffer_48 : decode cX11_ofBuffer 48 = .ok (.iconst 3, 1) := by decide +kernel
theorem dX11_ofBuffer_49 : decode cX11_ofBuffer 49 = .ok (.iadd, 1) := by decide +kernel
theorem dX11_ofBuffer_50 : decode cX11_ofBuffer 50 = .ok (.iaload, 1) := by decide +kernel
theorem dX11_ofBuffer_51 : decode cX11_ofBuffer 51 = .ok (.ireturn, 1) := by decide +kernel
theorem dX11_ofBuffer_52 : decode cX11_ofBuffer 52 = .ok (.aload_n 0, 1) := by decide +kernel
theorem dX11_ofBuffer_53 : decode cX11_ofBuffer 53 = .ok (.getfield 13, 3) := by decide +kernel
theorem dX11_ofBuffer_56 : decode cX11_ofBuffer 56 = .ok (.iload_n 1, 1) := by decide +kernel
theorem dX11_ofBuffer_57 : decode cX11_ofBuffer 57 = .ok (.invokestatic 69, 3) := by decide +kernel
theorem dX11_ofBuffer_60 : decode cX11_ofBuffer 60 = .ok (.iconst 2, 1) := by decide +kernel
theorem dX11_ofBuffer_61 : decode cX11_ofBuffer 61 = .ok (.iadd, 1) := by decide +kernel
theorem dX11_ofBuffer_62 : decode cX11_ofBuffer 62 = .ok (.iaload, 1) := by decide +kernel
theorem dX11_ofBuffer_63 : decode cX11_ofBuffer 63 = .ok (.ireturn, 1) := by decide +kernel
theorem dX11_ofBuffer_64 : decode cX11_ofBuffer 64 = .ok (.aload_n 0, 1) := by decide +kernel
theorem dX11_ofBuffer_65 : decode cX11_ofBuffer 65 = .ok (.getfield 13, 3) := by decide +kernel
theorem dX11_ofBuffer_68 : decode cX11_ofBuffer 68 = .ok (.iload_n 1, 1) := by decide +kernel
theorem dX11_ofBuffer_69 : decode cX11_ofBuffer 69 = .ok (.invokestatic 54, 3) := by decide +kernel
theorem dX11_ofBuffer_72 : decode cX11_ofBuffer 72 = .ok (.iload_n 2, 1) := by decide +kernel
theorem dX11_ofBuffer_73 : decode cX11_ofBuffer 73 = .ok (.iadd, 1) := by decide +kernel
theorem dX11_ofBuffer_74 : decode cX11_ofBuffer 74 = .ok (.iaload, 1) := by decide +kernel
theorem dX11_ofBuffer_75 : decode cX11_ofBuffer 75 = .ok (.ireturn, 1) := by decide +kernel
theorem dX11_buffer_0 : decode cX11_buffer 0 = .ok (.aload_n 0, 1) := by decide +kernel
theorem dX11_buffer_1 : decode cX11_buffer 1 = .ok (.iload_n 1, 1) := by decide +kernel
theorem dX11_buffer_2 : decode cX11_buffer 2 = .ok (.invokevirtual 136, 3) := by decide +kernel
theorem dX11_buffer_5 : decode cX11_buffer 5 = .ok (.ifCond .eq 22, 3) := by decide +kernel
theorem dX11_buffer_8 : decode cX11_buffer 8 = .ok (.iload_n 2, 1) := by decide +kernel
theorem dX11_buffer_9 : decode cX11_buffer 9 = .ok (.iconst 0, 1) := by decide +kernel
theorem dX11_buffer_10 : decode cX11_buffer 10 = .ok (.bipush 7, 2) := by decide +kernel
theorem dX11_buffer_12 : decode cX11_buffer 12 = .ok (.invokestatic 50, 3) := by decide +kernel
theorem dX11_buffer_15 : decode cX11_buffer 15 = .ok (.ifCond .eq 12, 3) := by decide +kernel
theorem dX11_buffer_18 : decode cX11_buffer 18 = .ok (.aload_n 0, 1) := by decide +kernel
theorem dX11_buffer_19 : decode cX11_buffer 19 = .ok (.iload_n 1, 1) := by decide +kernel
theorem dX11_buffer_20 : decode cX11_buffer 20 = .ok (.iload_n 2, 1) := by decide +kernel
theorem dX11_buffer_21 : decode cX11_buffer 21 = .ok (.invokevirtual 174, 3) := by decide +kernel
theorem dX11_buffer_24 : decode cX11_buffer 24 = .ok (.goto 7, 3) := by decide +kernel
theorem dX11_buffer_27 : decode cX11_buffer 27 = .ok (.aload_n 0, 1) := by decide +kernel
theorem dX11_buffer_28 : decode cX11_buffer 28 = .ok (.invokevirtual 130, 3) := by decide +kernel
theorem dX11_buffer_31 : decode cX11_buffer 31 = .ok (.ireturn, 1) := by decide +kernel
theorem dX11_item_0 : decode cX11_item 0 = .ok (.aload_n 0, 1) := by decide +kernel
theorem dX11_item_1 : decode cX11_item 1 = .ok (.iload_n 1, 1) := by decide +kernel
theorem dX11_item_2 : decode cX11_item 2 = .ok (.invokevirtual 136, 3) := by decide +kernel
theorem dX11_item_5 : decode cX11_item 5 = .ok (.ifCond .eq 7, 3) := by decide +kernel
theorem dX11_item_8 : decode cX11_item 8 = .ok (.iload_n 2, 1) := by decide +kernel
theorem dX11_item_9 : decode cX11_item 9 = .ok (.ifCond .ge 8, 3) := by decide +kernel
theorem dX11_item_12 : decode cX11_item 12 = .ok (.aload_n 0, 1) := by decide +kernel
theorem dX11_item_13 : decode cX11_item 13 = .ok (.invokevirtual 130, 3) := by decide +kernel
theorem dX11_item_16 : decode cX11_item 16 = .ok (.ireturn, 1) := by decide +kernel
theorem dX11_item_17 : decode cX11_item 17 = .ok (.iload_n 2, 1) := by decide +kernel
theorem dX11_item_18 : decode cX11_item 18 = .ok (.aload_n 0, 1) := by decide +kernel
theorem dX11_item_19 : decode cX11_item 19 = .ok (.getfield 13, 3) := by decide +kernel
theorem dX11_item_22 : decode cX11_item 22 = .ok (.iload_n 1, 1) := by decide +kernel
theorem dX11_item_23 : decode cX11_item 23 = .ok (.invokestatic 54, 3) := by decide +kernel
theorem dX11_item_26 : decode cX11_item 26 = .ok (.iconst 0, 1) := by decide +kernel
theorem dX11_item_27 : decode cX11_item 27 = .ok (.iadd, 1) := by decide +kernel
theorem dX11_item_28 : decode cX11_item 28 = .ok (.iaload, 1) := by decide +kernel
theorem dX11_item_29 : decode cX11_item 29 = .ok (.if_icmp .ge 20, 3) := by decide +kernel
theorem dX11_item_32 : decode cX11_item 32 = .ok (.aload_n 0, 1) := by decide +kernel
theorem dX11_item_33 : decode cX11_item 33 = .ok (.getfield 13, 3) := by decide +kernel
theorem dX11_item_36 : decode cX11_item 36 = .ok (.iload_n 1, 1) := by decide +kernel
theorem dX11_item_37 : decode cX11_item 37 = .ok (.invokestatic 54, 3) := by decide +kernel
theorem dX11_item_40 : decode cX11_item 40 = .ok (.bipush 14, 2) := by decide +kernel
theorem dX11_item_42 : decode cX11_item 42 = .ok (.iadd, 1) := by decide +kernel
theorem dX11_item_43 : decode cX11_item 43 = .ok (.iload_n 2, 1) := by decide +kernel
theorem dX11_item_44 : decode cX11_item 44 = .ok (.iadd, 1) := by decide +kernel
theorem dX11_item_45 : decode cX11_item 45 = .ok (.iaload, 1) := by decide +kernel
theorem dX11_item_46 : decode cX11_item 46 = .ok (.goto 4, 3) := by decide +kernel
theorem dX11_item_49 : decode cX11_item 49 = .ok (.iconst (-1), 1) := by decide +kernel
theorem dX11_item_50 : decode cX11_item 50 = .ok (.ireturn, 1) := by decide +kernel
theorem dX11_ofStation_0 : decode cX11_ofStation 0 = .ok (.iload_n 1, 1) := by decide +kernel
theorem dX11_ofStation_1 : decode cX11_ofStation 1 = .ok (.invokestatic 121, 3) := by decide +kernel
theorem dX11_ofStation_4 : decode cX11_ofStation 4 = .ok (.istore_n 3, 1) := by decide +kernel
theorem dX11_ofStation_5 : decode cX11_ofStation 5 = .ok (.iload_n 2, 1) := by decide +kernel
theorem dX11_ofStation_6 : decode cX11_ofStation 6 = .ok (.tableswitch 131 0 5 #[38, 48, 75, 101, 111, 121], 38) := by decide +kernel
theorem dX11_ofStation_44 : decode cX11_ofStation 44 = .ok (.aload_n 0, 1) := by decide +kernel
theorem dX11_ofStation_45 : decode cX11_ofStation 45 = .ok (.getfield 13, 3) := by decide +kernel
theorem dX11_ofStation_48 : decode cX11_ofStation 48 = .ok (.iload_n 3, 1) := by decide +kernel
theorem dX11_ofStation_49 : decode cX11_ofStation 49 = .ok (.bipush 6, 2) := by decide +kernel
theorem dX11_ofStation_51 : decode cX11_ofStation 51 = .ok (.iadd, 1) := by decide +kernel
theorem dX11_ofStation_52 : decode cX11_ofStation 52 = .ok (.iaload, 1) := by decide +kernel
theorem dX11_ofStation_53 : decode cX11_ofStation 53 = .ok (.ireturn, 1) := by decide +kernel
theorem dX11_ofStation_54 : decode cX11_ofStation 54 = .ok (.aload_n 0, 1) := by decide +kernel
theorem dX11_ofStation_55 : decode cX11_ofStation 55 = .ok (.getfield 13, 3) := by decide +kernel
theorem dX11_ofStation_58 : decode cX11_ofStation 58 = .ok (.iload_n 3, 1) := by decide +kernel
theorem dX11_ofStation_59 : decode cX11_ofStation 59 = .ok (.bipush 6, 2) := by decide +kernel
theorem dX11_ofStation_61 : decode cX11_ofStation 61 = .ok (.iadd, 1) := by decide +kernel
theorem dX11_ofStation_62 : decode cX11_ofStation 62 = .ok (.iaload, 1) := by decide +kernel
theorem dX11_ofStation_63 : decode cX11_ofStation 63 = .ok (.iconst 1, 1) := by decide +kernel
theorem dX11_ofStation_64 : decode cX11_ofStation 64 = .ok (.if_icmp .ne 15, 3) := by decide +kernel
theorem dX11_ofStation_67 : decode cX11_ofStation 67 = .ok (.aload_n 0, 1) := by decide +kernel
theorem dX11_ofStation_68 : decode cX11_ofStation 68 = .ok (.getfield 13, 3) := by decide +kernel
theorem dX11_ofStation_71 : decode cX11_ofStation 71 = .ok (.iload_n 3, 1) := by decide +kernel
theorem dX11_ofStation_72 : decode cX11_ofStation 72 = .ok (.bipush 7, 2) := by decide +kernel
theorem dX11_ofStation_74 : decode cX11_ofStation 74 = .ok (.iadd, 1) := by decide +kernel
theorem dX11_ofStation_75 : decode cX11_ofStation 75 = .ok (.iaload, 1) := by decide +kernel
theorem dX11_ofStation_76 : decode cX11_ofStation 76 = .ok (.goto 4, 3) := by decide +kernel
theorem dX11_ofStation_79 : decode cX11_ofStation 79 = .ok (.iconst 0, 1) := by decide +kernel
theorem dX11_ofStation_80 : decode cX11_ofStation 80 = .ok (.ireturn, 1) := by decide +kernel
theorem dX11_ofStation_81 : decode cX11_ofStation 81 = .ok (.aload_n 0, 1) := by decide +kernel
theorem dX11_ofStation_82 : decode cX11_ofStation 82 = .ok (.getfield 13, 3) := by decide +kernel
theorem dX11_ofStation_85 : decode cX11_ofStation 85 = .ok (.iload_n 3, 1) := by decide +kernel
theorem dX11_ofStation_86 : decode cX11_ofStation 86 = .ok (.bipush 6, 2) := by decide +kernel
theorem dX11_ofStation_88 : decode cX11_ofStation 88 = .ok (.iadd, 1) := by decide +kernel
theorem dX11_ofStation_89 : decode cX11_ofStation 89 = .ok (.iaload, 1) := by decide +kernel
theorem dX11_ofStation_90 : decode cX11_ofStation 90 = .ok (.ifCond .ne 7, 3) := by decide +kernel
theorem dX11_ofStation_93 : decode cX11_ofStation 93 = .ok (.iconst (-1), 1) := by decide +kernel
theorem dX11_ofStation_94 : decode cX11_ofStation 94 = .ok (.goto 12, 3) := by decide +kernel
theorem dX11_ofStation_97 : decode cX11_ofStation 97 = .ok (.aload_n 0, 1) := by decide +kernel
theorem dX11_ofStation_98 : decode cX11_ofStation 98 = .ok (.getfield 13, 3) := by decide +kernel
theorem dX11_ofStation_101 : decode cX11_ofStation 101 = .ok (.iload_n 3, 1) := by decide +kernel
theorem dX11_ofStation_102 : decode cX11_ofStation 102 = .ok (.bipush 8, 2) := by decide +kernel
theorem dX11_ofStation_104 : decode cX11_ofStation 104 = .ok (.iadd, 1) := by decide +kernel
theorem dX11_ofStation_105 : decode cX11_ofStation 105 = .ok (.iaload, 1) := by decide +kernel
theorem dX11_ofStation_106 : decode cX11_ofStation 106 = .ok (.ireturn, 1) := by decide +kernel
theorem dX11_ofStation_107 : decode cX11_ofStation 107 = .ok (.aload_n 0, 1) := by decide +kernel
theorem dX11_ofStation_108 : decode cX11_ofStation 108 = .ok (.getfield 13, 3) := by decide +kernel
theorem dX11_ofStation_111 : decode cX11_ofStation 111 = .ok (.iload_n 3, 1) := by decide +kernel
theorem dX11_ofStation_112 : decode cX11_ofStation 112 = .ok (.bipush 9, 2) := by decide +kernel
theorem dX11_ofStation_114 : decode cX11_ofStation 114 = .ok (.iadd, 1) := by decide +kernel
theorem dX11_ofStation_115 : decode cX11_ofStation 115 = .ok (.iaload, 1) := by decide +kernel
theorem dX11_ofStation_116 : decode cX11_ofStation 116 = .ok (.ireturn, 1) := by decide +kernel
theorem dX11_ofStation_117 : decode cX11_ofStation 117 = .ok (.aload_n 0, 1) := by decide +kernel
theorem dX11_ofStation_118 : decode cX11_ofStation 118 = .ok (.getfield 13, 3) := by decide +kernel
theorem dX11_ofStation_121 : decode cX11_ofStation 121 = .ok (.iload_n 3, 1) := by decide +kernel
theorem dX11_ofStation_122 : decode cX11_ofStation 122 = .ok (.bipush 10, 2) := by decide +kernel
theorem dX11_ofStation_124 : decode cX11_ofStation 124 = .ok (.iadd, 1) := by decide +kernel
theorem dX11_ofStation_125 : decode cX11_ofStation 125 = .ok (.iaload, 1) := by decide +kernel
theorem dX11_ofStation_126 : decode cX11_ofStation 126 = .ok (.ireturn, 1) := by decide +kernel
theorem dX11_ofStation_127 : decode cX11_ofStation 127 = .ok (.aload_n 0, 1) := by decide +kernel
theorem dX11_ofStation_128 : decode cX11_ofStation 128 = .ok (.getfield 13, 3) := by decide +kernel
theorem dX11_ofStation_131 : decode cX11_ofStation 131 = .ok (.iload_n 3, 1) := by decide +kernel
theorem dX11_ofStation_132 : decode cX11_ofStation 132 = .ok (.bipush 11, 2) := by decide +kernel
theorem dX11_ofStation_134 : decode cX11_ofStation 134 = .ok (.iadd, 1) := by decide +kernel
theorem dX11_ofStation_135 : decode cX11_ofStation 135 = .ok (.iaload, 1) := by decide +kernel
theorem dX11_ofStation_136 : decode cX11_ofStation 136 = .ok (.ireturn, 1) := by decide +kernel
theorem dX11_ofStation_137 : decode cX11_ofStation 137 = .ok (.aload_n 0, 1) := by decide +kernel
theorem dX11_ofStation_138 : decode cX11_ofStation 138 = .ok (.getfield 13, 3) := by decide +kernel
theorem dX11_ofStation_141 : decode cX11_ofStation 141 = .ok (.iload_n 3, 1) := by decide +kernel
theorem dX11_ofStation_142 : decode cX11_ofStation 142 = .ok (.iconst 5, 1) := by decide +kernel
theorem dX11_ofStation_143 : decode cX11_ofStation 143 = .ok (.iadd, 1) := by decide +kernel
theorem dX11_ofStation_144 : decode cX11_ofStation 144 = .ok (.iaload, 1) := by decide +kernel
theorem dX11_ofStation_145 : decode cX11_ofStation 145 = .ok (.ireturn, 1) := by decide +kernel
theorem dX11_of_0 : decode cX11_of 0 = .ok (.aload_n 0, 1) := by decide +kernel
theorem dX11_of_1 : decode cX11_of 1 = .ok (.iload_n 1, 1) := by decide +kernel
theorem dX11_of_2 : decode cX11_of 2 = .ok (.invokevirtual 143, 3) := by decide +kernel
theorem dX11_of_5 : decode cX11_of 5 = .ok (.ifCond .eq 22, 3) := by decide +kernel
theorem dX11_of_8 : decode cX11_of 8 = .ok (.iload_n 2, 1) := by decide +kernel
theorem dX11_of_9 : decode cX11_of 9 = .ok (.iconst 0, 1) := by decide +kernel
theorem dX11_of_10 : decode cX11_of 10 = .ok (.bipush 6, 2) := by decide +kernel
theorem dX11_of_12 : decode cX11_of 12 = .ok (.invokestatic 50, 3) := by decide +kernel
theorem dX11_of_15 : decode cX11_of 15 = .ok (.ifCond .eq 12, 3) := by decide +kernel
theorem dX11_of_18 : decode cX11_of 18 = .ok (.aload_n 0, 1) := by decide +kernel
theorem dX11_of_19 : decode cX11_of 19 = .ok (.iload_n 1, 1) := by decide +kernel
theorem dX11_of_20 : decode cX11_of 20 = .ok (.iload_n 2, 1) := by decide +kernel
theorem dX11_of_21 : decode cX11_of 21 = .ok (.invokevirtual 177, 3) := by decide +kernel
theorem dX11_of_24 : decode cX11_of 24 = .ok (.goto 7, 3) := by decide +kernel
theorem dX11_of_27 : decode cX11_of 27 = .ok (.aload_n 0, 1) := by decide +kernel
theorem dX11_of_28 : decode cX11_of 28 = .ok (.invokevirtual 130, 3) := by decide +kernel
theorem dX11_of_31 : decode cX11_of 31 = .ok (.ireturn, 1) := by decide +kernel
theorem dX11_worker_0 : decode cX11_worker 0 = .ok (.iload_n 1, 1) := by decide +kernel
theorem dX11_worker_1 : decode cX11_worker 1 = .ok (.invokestatic 162, 3) := by decide +kernel
theorem dX11_worker_4 : decode cX11_worker 4 = .ok (.ifCond .eq 26, 3) := by decide +kernel
theorem dX11_worker_7 : decode cX11_worker 7 = .ok (.iload_n 2, 1) := by decide +kernel
theorem dX11_worker_8 : decode cX11_worker 8 = .ok (.iconst 0, 1) := by decide +kernel
theorem dX11_worker_9 : decode cX11_worker 9 = .ok (.iconst 4, 1) := by decide +kernel
theorem dX11_worker_10 : decode cX11_worker 10 = .ok (.invokestatic 50, 3) := by decide +kernel
theorem dX11_worker_13 : decode cX11_worker 13 = .ok (.ifCond .eq 17, 3) := by decide +kernel
theorem dX11_worker_16 : decode cX11_worker 16 = .ok (.aload_n 0, 1) := by decide +kernel
theorem dX11_worker_17 : decode cX11_worker 17 = .ok (.getfield 13, 3) := by decide +kernel
theorem dX11_worker_20 : decode cX11_worker 20 = .ok (.iload_n 1, 1) := by decide +kernel
theorem dX11_worker_21 : decode cX11_worker 21 = .ok (.invokestatic 58, 3) := by decide +kernel
theorem dX11_worker_24 : decode cX11_worker 24 = .ok (.iload_n 2, 1) := by decide +kernel
theorem dX11_worker_25 : decode cX11_worker 25 = .ok (.iadd, 1) := by decide +kernel
theorem dX11_worker_26 : decode cX11_worker 26 = .ok (.iaload, 1) := by decide +kernel
theorem dX11_worker_27 : decode cX11_worker 27 = .ok (.goto 7, 3) := by decide +kernel
theorem dX11_worker_30 : decode cX11_worker 30 = .ok (.aload_n 0, 1) := by decide +kernel
theorem dX11_worker_31 : decode cX11_worker 31 = .ok (.invokevirtual 130, 3) := by decide +kernel
theorem dX11_worker_34 : decode cX11_worker 34 = .ok (.ireturn, 1) := by decide +kernel
theorem dX11_line_0 : decode cX11_line 0 = .ok (.iload_n 1, 1) := by decide +kernel
theorem dX11_line_1 : decode cX11_line 1 = .ok (.ifCond .ge 8, 3) := by decide +kernel
theorem dX11_line_4 : decode cX11_line 4 = .ok (.aload_n 0, 1) := by decide +kernel
theorem dX11_line_5 : decode cX11_line 5 = .ok (.invokevirtual 130, 3) := by decide +kernel
theorem dX11_line_8 : decode cX11_line 8 = .ok (.ireturn, 1) := by decide +kernel
theorem dX11_line_9 : decode cX11_line 9 = .ok (.iload_n 1, 1) := by decide +kernel
theorem dX11_line_10 : decode cX11_line 10 = .ok (.aload_n 0, 1) := by decide +kernel
theorem dX11_line_11 : decode cX11_line 11 = .ok (.getfield 13, 3) := by decide +kernel
theorem dX11_line_14 : decode cX11_line 14 = .ok (.iconst 4, 1) := by decide +kernel
theorem dX11_line_15 : decode cX11_line 15 = .ok (.iaload, 1) := by decide +kernel
theorem dX11_line_16 : decode cX11_line 16 = .ok (.if_icmp .ge 16, 3) := by decide +kernel
theorem dX11_line_19 : decode cX11_line 19 = .ok (.aload_n 0, 1) := by decide +kernel
theorem dX11_line_20 : decode cX11_line 20 = .ok (.getfield 13, 3) := by decide +kernel
theorem dX11_line_23 : decode cX11_line 23 = .ok (.sipush 300, 3) := by decide +kernel
theorem dX11_line_26 : decode cX11_line 26 = .ok (.iload_n 1, 1) := by decide +kernel
theorem dX11_line_27 : decode cX11_line 27 = .ok (.iadd, 1) := by decide +kernel
theorem dX11_line_28 : decode cX11_line 28 = .ok (.iaload, 1) := by decide +kernel
theorem dX11_line_29 : decode cX11_line 29 = .ok (.goto 4, 3) := by decide +kernel
theorem dX11_line_32 : decode cX11_line 32 = .ok (.iconst (-1), 1) := by decide +kernel
theorem dX11_line_33 : decode cX11_line 33 = .ok (.ireturn, 1) := by decide +kernel
theorem dX11_itemsOfAll_0 : decode cX11_itemsOfAll 0 = .ok (.iconst 0, 1) := by decide +kernel
theorem dX11_itemsOfAll_1 : decode cX11_itemsOfAll 1 = .ok (.istore_n 1, 1) := by decide +kernel
theorem dX11_itemsOfAll_2 : decode cX11_itemsOfAll 2 = .ok (.iconst 0, 1) := by decide +kernel
theorem dX11_itemsOfAll_3 : decode cX11_itemsOfAll 3 = .ok (.istore_n 2, 1) := by decide +kernel
theorem dX11_itemsOfAll_4 : decode cX11_itemsOfAll 4 = .ok (.iload_n 2, 1) := by decide +kernel
theorem dX11_itemsOfAll_5 : decode cX11_itemsOfAll 5 = .ok (.aload_n 0, 1) := by decide +kernel
theorem dX11_itemsOfAll_6 : decode cX11_itemsOfAll 6 = .ok (.getfield 13, 3) := by decide +kernel
theorem dX11_itemsOfAll_9 : decode cX11_itemsOfAll 9 = .ok (.iconst 0, 1) := by decide +kernel
theorem dX11_itemsOfAll_10 : decode cX11_itemsOfAll 10 = .ok (.iaload, 1) := by decide +kernel
theorem dX11_itemsOfAll_11 : decode cX11_itemsOfAll 11 = .ok (.if_icmp .ge 23, 3) := by decide +kernel
theorem dX11_itemsOfAll_14 : decode cX11_itemsOfAll 14 = .ok (.iload_n 1, 1) := by decide +kernel
theorem dX11_itemsOfAll_15 : decode cX11_itemsOfAll 15 = .ok (.aload_n 0, 1) := by decide +kernel
theorem dX11_itemsOfAll_16 : decode cX11_itemsOfAll 16 = .ok (.getfield 13, 3) := by decide +kernel
theorem dX11_itemsOfAll_19 : decode cX11_itemsOfAll 19 = .ok (.iload_n 2, 1) := by decide +kernel
theorem dX11_itemsOfAll_20 : decode cX11_itemsOfAll 20 = .ok (.invokestatic 54, 3) := by decide +kernel
theorem dX11_itemsOfAll_23 : decode cX11_itemsOfAll 23 = .ok (.iconst 0, 1) := by decide +kernel
theorem dX11_itemsOfAll_24 : decode cX11_itemsOfAll 24 = .ok (.iadd, 1) := by decide +kernel
theorem dX11_itemsOfAll_25 : decode cX11_itemsOfAll 25 = .ok (.iaload, 1) := by decide +kernel
theorem dX11_itemsOfAll_26 : decode cX11_itemsOfAll 26 = .ok (.iadd, 1) := by decide +kernel
theorem dX11_itemsOfAll_27 : decode cX11_itemsOfAll 27 = .ok (.istore_n 1, 1) := by decide +kernel
theorem dX11_itemsOfAll_28 : decode cX11_itemsOfAll 28 = .ok (.iinc 2 1, 3) := by decide +kernel
theorem dX11_itemsOfAll_31 : decode cX11_itemsOfAll 31 = .ok (.goto (-27), 3) := by decide +kernel
theorem dX11_itemsOfAll_34 : decode cX11_itemsOfAll 34 = .ok (.iload_n 1, 1) := by decide +kernel
theorem dX11_itemsOfAll_35 : decode cX11_itemsOfAll 35 = .ok (.ireturn, 1) := by decide +kernel
theorem dX11_entriesOfAll_0 : decode cX11_entriesOfAll 0 = .ok (.iconst 0, 1) := by decide +kernel
theorem dX11_entriesOfAll_1 : decode cX11_entriesOfAll 1 = .ok (.istore_n 1, 1) := by decide +kernel
theorem dX11_entriesOfAll_2 : decode cX11_entriesOfAll 2 = .ok (.iconst 0, 1) := by decide +kernel
theorem dX11_entriesOfAll_3 : decode cX11_entriesOfAll 3 = .ok (.istore_n 2, 1) := by decide +kernel
theorem dX11_entriesOfAll_4 : decode cX11_entriesOfAll 4 = .ok (.iload_n 2, 1) := by decide +kernel
theorem dX11_entriesOfAll_5 : decode cX11_entriesOfAll 5 = .ok (.bipush 6, 2) := by decide +kernel
theorem dX11_entriesOfAll_7 : decode cX11_entriesOfAll 7 = .ok (.if_icmp .gt 23, 3) := by decide +kernel
theorem dX11_entriesOfAll_10 : decode cX11_entriesOfAll 10 = .ok (.iload_n 1, 1) := by decide +kernel
theorem dX11_entriesOfAll_11 : decode cX11_entriesOfAll 11 = .ok (.aload_n 0, 1) := by decide +kernel
theorem dX11_entriesOfAll_12 : decode cX11_entriesOfAll 12 = .ok (.getfield 13, 3) := by decide +kernel
theorem dX11_entriesOfAll_15 : decode cX11_entriesOfAll 15 = .ok (.iload_n 2, 1) := by decide +kernel
theorem dX11_entriesOfAll_16 : decode cX11_entriesOfAll 16 = .ok (.invokestatic 69, 3) := by decide +kernel
theorem dX11_entriesOfAll_19 : decode cX11_entriesOfAll 19 = .ok (.iconst 0, 1) := by decide +kernel
theorem dX11_entriesOfAll_20 : decode cX11_entriesOfAll 20 = .ok (.iadd, 1) := by decide +kernel
theorem dX11_entriesOfAll_21 : decode cX11_entriesOfAll 21 = .ok (.iaload, 1) := by decide +kernel
theorem dX11_entriesOfAll_22 : decode cX11_entriesOfAll 22 = .ok (.iadd, 1) := by decide +kernel
theorem dX11_entriesOfAll_23 : decode cX11_entriesOfAll 23 = .ok (.istore_n 1, 1) := by decide +kernel
theorem dX11_entriesOfAll_24 : decode cX11_entriesOfAll 24 = .ok (.iinc 2 1, 3) := by decide +kernel
theorem dX11_entriesOfAll_27 : decode cX11_entriesOfAll 27 = .ok (.goto (-23), 3) := by decide +kernel
theorem dX11_entriesOfAll_30 : decode cX11_entriesOfAll 30 = .ok (.iload_n 1, 1) := by decide +kernel
theorem dX11_entriesOfAll_31 : decode cX11_entriesOfAll 31 = .ok (.ireturn, 1) := by decide +kernel
theorem dX11_worksBy_0 : decode cX11_worksBy 0 = .ok (.iload_n 1, 1) := by decide +kernel
theorem dX11_worksBy_1 : decode cX11_worksBy 1 = .ok (.tableswitch 128 0 8 #[51, 58, 65, 72, 79, 92, 105, 118, 123], 51) := by decide +kernel
theorem dX11_worksBy_52 : decode cX11_worksBy 52 = .ok (.aload_n 0, 1) := by decide +kernel
theorem dX11_worksBy_53 : decode cX11_worksBy 53 = .ok (.getfield 13, 3) := by decide +kernel
theorem dX11_worksBy_56 : decode cX11_worksBy 56 = .ok (.iconst 0, 1) := by decide +kernel
theorem dX11_worksBy_57 : decode cX11_worksBy 57 = .ok (.iaload, 1) := by decide +kernel
theorem dX11_worksBy_58 : decode cX11_worksBy 58 = .ok (.ireturn, 1) := by decide +kernel
theorem dX11_worksBy_59 : decode cX11_worksBy 59 = .ok (.aload_n 0, 1) := by decide +kernel
theorem dX11_worksBy_60 : decode cX11_worksBy 60 = .ok (.getfield 13, 3) := by decide +kernel
theorem dX11_worksBy_63 : decode cX11_worksBy 63 = .ok (.iconst 1, 1) := by decide +kernel
theorem dX11_worksBy_64 : decode cX11_worksBy 64 = .ok (.iaload, 1) := by decide +kernel
theorem dX11_worksBy_65 : decode cX11_worksBy 65 = .ok (.ireturn, 1) := by decide +kernel
theorem dX11_worksBy_66 : decode cX11_worksBy 66 = .ok (.aload_n 0, 1) := by decide +kernel
theorem dX11_worksBy_67 : decode cX11_worksBy 67 = .ok (.getfield 13, 3) := by decide +kernel
theorem dX11_worksBy_70 : decode cX11_worksBy 70 = .ok (.iconst 2, 1) := by decide +kernel
theorem dX11_worksBy_71 : decode cX11_worksBy 71 = .ok (.iaload, 1) := by decide +kernel
theorem dX11_worksBy_72 : decode cX11_worksBy 72 = .ok (.ireturn, 1) := by decide +kernel
theorem dX11_worksBy_73 : decode cX11_worksBy 73 = .ok (.aload_n 0, 1) := by decide +kernel
theorem dX11_worksBy_74 : decode cX11_worksBy 74 = .ok (.getfield 13, 3) := by decide +kernel
theorem dX11_worksBy_77 : decode cX11_worksBy 77 = .ok (.iconst 3, 1) := by decide +kernel
theorem dX11_worksBy_78 : decode cX11_worksBy 78 = .ok (.iaload, 1) := by decide +kernel
theorem dX11_worksBy_79 : decode cX11_worksBy 79 = .ok (.ireturn, 1) := by decide +kernel
theorem dX11_worksBy_80 : decode cX11_worksBy 80 = .ok (.aload_n 0, 1) := by decide +kernel
theorem dX11_worksBy_81 : decode cX11_worksBy 81 = .ok (.getfield 13, 3) := by decide +kernel
theorem dX11_worksBy_84 : decode cX11_worksBy 84 = .ok (.bipush 6, 2) := by decide +kernel
theorem dX11_worksBy_86 : decode cX11_worksBy 86 = .ok (.invokestatic 69, 3) := by decide +kernel
theorem dX11_worksBy_89 : decode cX11_worksBy 89 = .ok (.iconst 0, 1) := by decide +kernel
theorem dX11_worksBy_90 : decode cX11_worksBy 90 = .ok (.iadd, 1) := by decide +kernel
theorem dX11_worksBy_91 : decode cX11_worksBy 91 = .ok (.iaload, 1) := by decide +kernel
theorem dX11_worksBy_92 : decode cX11_worksBy 92 = .ok (.ireturn, 1) := by decide +kernel
theorem dX11_worksBy_93 : decode cX11_worksBy 93 = .ok (.aload_n 0, 1) := by decide +kernel
theorem dX11_worksBy_94 : decode cX11_worksBy 94 = .ok (.getfield 13, 3) := by decide +kernel
theorem dX11_worksBy_97 : decode cX11_worksBy 97 = .ok (.bipush 6, 2) := by decide +kernel
theorem dX11_worksBy_99 : decode cX11_worksBy 99 = .ok (.invokestatic 69, 3) := by decide +kernel
theorem dX11_worksBy_102 : decode cX11_worksBy 102 = .ok (.iconst 3, 1) := by decide +kernel
theorem dX11_worksBy_103 : decode cX11_worksBy 103 = .ok (.iadd, 1) := by decide +kernel
theorem dX11_worksBy_104 : decode cX11_worksBy 104 = .ok (.iaload, 1) := by decide +kernel
theorem dX11_worksBy_105 : decode cX11_worksBy 105 = .ok (.ireturn, 1) := by decide +kernel
theorem dX11_worksBy_106 : decode cX11_worksBy 106 = .ok (.aload_n 0, 1) := by decide +kernel
theorem dX11_worksBy_107 : decode cX11_worksBy 107 = .ok (.getfield 13, 3) := by decide +kernel
theorem dX11_worksBy_110 : decode cX11_worksBy 110 = .ok (.bipush 6, 2) := by decide +kernel
theorem dX11_worksBy_112 : decode cX11_worksBy 112 = .ok (.invokestatic 69, 3) := by decide +kernel
theorem dX11_worksBy_115 : decode cX11_worksBy 115 = .ok (.iconst 2, 1) := by decide +kernel
theorem dX11_worksBy_116 : decode cX11_worksBy 116 = .ok (.iadd, 1) := by decide +kernel
theorem dX11_worksBy_117 : decode cX11_worksBy 117 = .ok (.iaload, 1) := by decide +kernel
theorem dX11_worksBy_118 : decode cX11_worksBy 118 = .ok (.ireturn, 1) := by decide +kernel
theorem dX11_worksBy_119 : decode cX11_worksBy 119 = .ok (.aload_n 0, 1) := by decide +kernel
theorem dX11_worksBy_120 : decode cX11_worksBy 120 = .ok (.invokevirtual 180, 3) := by decide +kernel
theorem dX11_worksBy_123 : decode cX11_worksBy 123 = .ok (.ireturn, 1) := by decide +kernel
theorem dX11_worksBy_124 : decode cX11_worksBy 124 = .ok (.aload_n 0, 1) := by decide +kernel
theorem dX11_worksBy_125 : decode cX11_worksBy 125 = .ok (.invokevirtual 183, 3) := by decide +kernel
theorem dX11_worksBy_128 : decode cX11_worksBy 128 = .ok (.ireturn, 1) := by decide +kernel
theorem dX11_worksBy_129 : decode cX11_worksBy 129 = .ok (.aload_n 0, 1) := by decide +kernel
theorem dX11_worksBy_130 : decode cX11_worksBy 130 = .ok (.getfield 13, 3) := by decide +kernel
theorem dX11_worksBy_133 : decode cX11_worksBy 133 = .ok (.iconst 4, 1) := by decide +kernel
theorem dX11_worksBy_134 : decode cX11_worksBy 134 = .ok (.iaload, 1) := by decide +kernel
theorem dX11_worksBy_135 : decode cX11_worksBy 135 = .ok (.ireturn, 1) := by decide +kernel
theorem dX11_works_0 : decode cX11_works 0 = .ok (.iload_n 1, 1) := by decide +kernel
theorem dX11_works_1 : decode cX11_works 1 = .ok (.iconst 0, 1) := by decide +kernel
theorem dX11_works_2 : decode cX11_works 2 = .ok (.bipush 9, 2) := by decide +kernel
theorem dX11_works_4 : decode cX11_works 4 = .ok (.invokestatic 50, 3) := by decide +kernel
theorem dX11_works_7 : decode cX11_works 7 = .ok (.ifCond .eq 11, 3) := by decide +kernel
theorem dX11_works_10 : decode cX11_works 10 = .ok (.aload_n 0, 1) := by decide +kernel
theorem dX11_works_11 : decode cX11_works 11 = .ok (.iload_n 1, 1) := by decide +kernel
theorem dX11_works_12 : decode cX11_works 12 = .ok (.invokevirtual 186, 3) := by decide +kernel
theorem dX11_works_15 : decode cX11_works 15 = .ok (.goto 7, 3) := by decide +kernel
theorem dX11_works_18 : decode cX11_works 18 = .ok (.aload_n 0, 1) := by decide +kernel
theorem dX11_works_19 : decode cX11_works 19 = .ok (.invokevirtual 130, 3) := by decide +kernel
theorem dX11_works_22 : decode cX11_works 22 = .ok (.ireturn, 1) := by decide +kernel
theorem dX11_type_0 : decode cX11_type 0 = .ok (.iload_n 1, 1) := by decide +kernel
theorem dX11_type_1 : decode cX11_type 1 = .ok (.iconst 0, 1) := by decide +kernel
theorem dX11_type_2 : decode cX11_type 2 = .ok (.bipush 127, 2) := by decide +kernel
theorem dX11_type_4 : decode cX11_type 4 = .ok (.invokestatic 50, 3) := by decide +kernel
theorem dX11_type_7 : decode cX11_type 7 = .ok (.ifCond .ne 8, 3) := by decide +kernel
theorem dX11_type_10 : decode cX11_type 10 = .ok (.aload_n 0, 1) := by decide +kernel
theorem dX11_type_11 : decode cX11_type 11 = .ok (.invokevirtual 130, 3) := by decide +kernel
theorem dX11_type_14 : decode cX11_type 14 = .ok (.ireturn, 1) := by decide +kernel
theorem dX11_type_15 : decode cX11_type 15 = .ok (.aload_n 0, 1) := by decide +kernel
theorem dX11_type_16 : decode cX11_type 16 = .ok (.getfield 189, 3) := by decide +kernel
theorem dX11_type_19 : decode cX11_type 19 = .ok (.bipush 120, 2) := by decide +kernel
theorem dX11_type_21 : decode cX11_type 21 = .ok (.if_icmp .ne 8, 3) := by decide +kernel
theorem dX11_type_24 : decode cX11_type 24 = .ok (.aload_n 0, 1) := by decide +kernel
theorem dX11_type_25 : decode cX11_type 25 = .ok (.invokevirtual 140, 3) := by decide +kernel
theorem dX11_type_28 : decode cX11_type 28 = .ok (.ireturn, 1) := by decide +kernel
theorem dX11_type_29 : decode cX11_type 29 = .ok (.aload_n 0, 1) := by decide +kernel
theorem dX11_type_30 : decode cX11_type 30 = .ok (.getfield 22, 3) := by decide +kernel
theorem dX11_type_33 : decode cX11_type 33 = .ok (.aload_n 0, 1) := by decide +kernel
theorem dX11_type_34 : decode cX11_type 34 = .ok (.getfield 189, 3) := by decide +kernel
theorem dX11_type_37 : decode cX11_type 37 = .ok (.iload_n 1, 1) := by decide +kernel
theorem dX11_type_38 : decode cX11_type 38 = .ok (.iastore, 1) := by decide +kernel
theorem dX11_type_39 : decode cX11_type 39 = .ok (.aload_n 0, 1) := by decide +kernel
theorem dX11_type_40 : decode cX11_type 40 = .ok (.dup, 1) := by decide +kernel
theorem dX11_type_41 : decode cX11_type 41 = .ok (.getfield 189, 3) := by decide +kernel
theorem dX11_type_44 : decode cX11_type 44 = .ok (.iconst 1, 1) := by decide +kernel
theorem dX11_type_45 : decode cX11_type 45 = .ok (.iadd, 1) := by decide +kernel
theorem dX11_type_46 : decode cX11_type 46 = .ok (.putfield 189, 3) := by decide +kernel
theorem dX11_type_49 : decode cX11_type 49 = .ok (.aload_n 0, 1) := by decide +kernel
theorem dX11_type_50 : decode cX11_type 50 = .ok (.getfield 189, 3) := by decide +kernel
theorem dX11_type_53 : decode cX11_type 53 = .ok (.ireturn, 1) := by decide +kernel
theorem dX11_clear_0 : decode cX11_clear 0 = .ok (.aload_n 0, 1) := by decide +kernel
theorem dX11_clear_1 : decode cX11_clear 1 = .ok (.getfield 189, 3) := by decide +kernel
theorem dX11_clear_4 : decode cX11_clear 4 = .ok (.istore_n 1, 1) := by decide +kernel
theorem dX11_clear_5 : decode cX11_clear 5 = .ok (.aload_n 0, 1) := by decide +kernel
theorem dX11_clear_6 : decode cX11_clear 6 = .ok (.iconst 0, 1) := by decide +kernel
theorem dX11_clear_7 : decode cX11_clear 7 = .ok (.putfield 189, 3) := by decide +kernel
theorem dX11_clear_10 : decode cX11_clear 10 = .ok (.iload_n 1, 1) := by decide +kernel
theorem dX11_clear_11 : decode cX11_clear 11 = .ok (.ireturn, 1) := by decide +kernel
theorem dX11_here_0 : decode cX11_here 0 = .ok (.aload_n 0, 1) := by decide +kernel
theorem dX11_here_1 : decode cX11_here 1 = .ok (.getfield 192, 3) := by decide +kernel
theorem dX11_here_4 : decode cX11_here 4 = .ok (.aload_n 0, 1) := by decide +kernel
theorem dX11_here_5 : decode cX11_here 5 = .ok (.getfield 189, 3) := by decide +kernel
theorem dX11_here_8 : decode cX11_here 8 = .ok (.if_icmp .ge 30, 3) := by decide +kernel
theorem dX11_here_11 : decode cX11_here 11 = .ok (.aload_n 0, 1) := by decide +kernel
theorem dX11_here_12 : decode cX11_here 12 = .ok (.getfield 22, 3) := by decide +kernel
theorem dX11_here_15 : decode cX11_here 15 = .ok (.aload_n 0, 1) := by decide +kernel
theorem dX11_here_16 : decode cX11_here 16 = .ok (.getfield 192, 3) := by decide +kernel
theorem dX11_here_19 : decode cX11_here 19 = .ok (.iaload, 1) := by decide +kernel
theorem dX11_here_20 : decode cX11_here 20 = .ok (.bipush 32, 2) := by decide +kernel
theorem dX11_here_22 : decode cX11_here 22 = .ok (.if_icmp .ne 16, 3) := by decide +kernel
theorem dX11_here_25 : decode cX11_here 25 = .ok (.aload_n 0, 1) := by decide +kernel
theorem dX11_here_26 : decode cX11_here 26 = .ok (.dup, 1) := by decide +kernel
theorem dX11_here_27 : decode cX11_here 27 = .ok (.getfield 192, 3) := by decide +kernel
theorem dX11_here_30 : decode cX11_here 30 = .ok (.iconst 1, 1) := by decide +kernel
theorem dX11_here_31 : decode cX11_here 31 = .ok (.iadd, 1) := by decide +kernel
theorem dX11_here_32 : decode cX11_here 32 = .ok (.putfield 192, 3) := by decide +kernel
theorem dX11_here_35 : decode cX11_here 35 = .ok (.goto (-35), 3) := by decide +kernel
theorem dX11_here_38 : decode cX11_here 38 = .ok (.aload_n 0, 1) := by decide +kernel
theorem dX11_here_39 : decode cX11_here 39 = .ok (.getfield 192, 3) := by decide +kernel
theorem dX11_here_42 : decode cX11_here 42 = .ok (.aload_n 0, 1) := by decide +kernel
theorem dX11_here_43 : decode cX11_here 43 = .ok (.getfield 189, 3) := by decide +kernel
theorem dX11_here_46 : decode cX11_here 46 = .ok (.if_icmp .ge 15, 3) := by decide +kernel
theorem dX11_here_49 : decode cX11_here 49 = .ok (.aload_n 0, 1) := by decide +kernel
theorem dX11_here_50 : decode cX11_here 50 = .ok (.getfield 22, 3) := by decide +kernel
theorem dX11_here_53 : decode cX11_here 53 = .ok (.aload_n 0, 1) := by decide +kernel
theorem dX11_here_54 : decode cX11_here 54 = .ok (.getfield 192, 3) := by decide +kernel
theorem dX11_here_57 : decode cX11_here 57 = .ok (.iaload, 1) := by decide +kernel
theorem dX11_here_58 : decode cX11_here 58 = .ok (.goto 4, 3) := by decide +kernel
theorem dX11_here_61 : decode cX11_here 61 = .ok (.iconst (-1), 1) := by decide +kernel
theorem dX11_here_62 : decode cX11_here 62 = .ok (.ireturn, 1) := by decide +kernel
theorem dX11_figure_0 : decode cX11_figure 0 = .ok (.aload_n 0, 1) := by decide +kernel
theorem dX11_figure_1 : decode cX11_figure 1 = .ok (.getfield 195, 3) := by decide +kernel
theorem dX11_figure_4 : decode cX11_figure 4 = .ok (.ifCond .eq 7, 3) := by decide +kernel
theorem dX11_figure_7 : decode cX11_figure 7 = .ok (.iconst (-1), 1) := by decide +kernel
theorem dX11_figure_8 : decode cX11_figure 8 = .ok (.goto 7, 3) := by decide +kernel
theorem dX11_figure_11 : decode cX11_figure 11 = .ok (.aload_n 0, 1) := by decide +kernel
theorem dX11_figure_12 : decode cX11_figure 12 = .ok (.invokevirtual 199, 3) := by decide +kernel
theorem dX11_figure_15 : decode cX11_figure 15 = .ok (.istore_n 1, 1) := by decide +kernel
theorem dX11_figure_16 : decode cX11_figure 16 = .ok (.aload_n 0, 1) := by decide +kernel
theorem dX11_figure_17 : decode cX11_figure 17 = .ok (.aload_n 0, 1) := by decide +kernel
theorem dX11_figure_18 : decode cX11_figure 18 = .ok (.getfield 195, 3) := by decide +kernel
theorem dX11_figure_21 : decode cX11_figure 21 = .ok (.ifCond .ne 14, 3) := by decide +kernel
theorem dX11_figure_24 : decode cX11_figure 24 = .ok (.iload_n 1, 1) := by decide +kernel
theorem dX11_figure_25 : decode cX11_figure 25 = .ok (.bipush 48, 2) := by decide +kernel
theorem dX11_figure_27 : decode cX11_figure 27 = .ok (.bipush 57, 2) := by decide +kernel
theorem dX11_figure_29 : decode cX11_figure 29 = .ok (.invokestatic 50, 3) := by decide +kernel
theorem dX11_figure_32 : decode cX11_figure 32 = .ok (.ifCond .ne 7, 3) := by decide +kernel
theorem dX11_figure_35 : decode cX11_figure 35 = .ok (.iconst 1, 1) := by decide +kernel
theorem dX11_figure_36 : decode cX11_figure 36 = .ok (.goto 4, 3) := by decide +kernel
theorem dX11_figure_39 : decode cX11_figure 39 = .ok (.iconst 0, 1) := by decide +kernel
theorem dX11_figure_40 : decode cX11_figure 40 = .ok (.putfield 195, 3) := by decide +kernel
theorem dX11_figure_43 : decode cX11_figure 43 = .ok (.aload_n 0, 1) := by decide +kernel
theorem dX11_figure_44 : decode cX11_figure 44 = .ok (.dup, 1) := by decide +kernel
theorem dX11_figure_45 : decode cX11_figure 45 = .ok (.getfield 192, 3) := by decide +kernel
theorem dX11_figure_48 : decode cX11_figure 48 = .ok (.aload_n 0, 1) := by decide +kernel
theorem dX11_figure_49 : decode cX11_figure 49 = .ok (.getfield 195, 3) := by decide +kernel
theorem dX11_figure_52 : decode cX11_figure 52 = .ok (.ifCond .eq 7, 3) := by decide +kernel
theorem dX11_figure_55 : decode cX11_figure 55 = .ok (.iconst 0, 1) := by decide +kernel
theorem dX11_figure_56 : decode cX11_figure 56 = .ok (.goto 4, 3) := by decide +kernel
theorem dX11_figure_59 : decode cX11_figure 59 = .ok (.iconst 1, 1) := by decide +kernel
theorem dX11_figure_60 : decode cX11_figure 60 = .ok (.iadd, 1) := by decide +kernel
theorem dX11_figure_61 : decode cX11_figure 61 = .ok (.putfield 192, 3) := by decide +kernel
theorem dX11_figure_64 : decode cX11_figure 64 = .ok (.iload_n 1, 1) := by decide +kernel
theorem dX11_figure_65 : decode cX11_figure 65 = .ok (.bipush 48, 2) := by decide +kernel
theorem dX11_figure_67 : decode cX11_figure 67 = .ok (.isub, 1) := by decide +kernel
theorem dX11_figure_68 : decode cX11_figure 68 = .ok (.ireturn, 1) := by decide +kernel
theorem dX11_comes_0 : decode cX11_comes 0 = .ok (.aload_n 0, 1) := by decide +kernel
theorem dX11_comes_1 : decode cX11_comes 1 = .ok (.getfield 25, 3) := by decide +kernel
theorem dX11_comes_4 : decode cX11_comes 4 = .ok (.aload_n 0, 1) := by decide +kernel
theorem dX11_comes_5 : decode cX11_comes 5 = .ok (.getfield 202, 3) := by decide +kernel
theorem dX11_comes_8 : decode cX11_comes 8 = .ok (.iload_n 1, 1) := by decide +kernel
theorem dX11_comes_9 : decode cX11_comes 9 = .ok (.iastore, 1) := by decide +kernel
theorem dX11_comes_10 : decode cX11_comes 10 = .ok (.aload_n 0, 1) := by decide +kernel
theorem dX11_comes_11 : decode cX11_comes 11 = .ok (.getfield 37, 3) := by decide +kernel
theorem dX11_comes_14 : decode cX11_comes 14 = .ok (.aload_n 0, 1) := by decide +kernel
theorem dX11_comes_15 : decode cX11_comes 15 = .ok (.getfield 202, 3) := by decide +kernel
theorem dX11_comes_18 : decode cX11_comes 18 = .ok (.iconst (-1), 1) := by decide +kernel
theorem dX11_comes_19 : decode cX11_comes 19 = .ok (.iastore, 1) := by decide +kernel
theorem dX11_comes_20 : decode cX11_comes 20 = .ok (.aload_n 0, 1) := by decide +kernel
theorem dX11_comes_21 : decode cX11_comes 21 = .ok (.getfield 28, 3) := by decide +kernel
theorem dX11_comes_24 : decode cX11_comes 24 = .ok (.aload_n 0, 1) := by decide +kernel
theorem dX11_comes_25 : decode cX11_comes 25 = .ok (.getfield 202, 3) := by decide +kernel
theorem dX11_comes_28 : decode cX11_comes 28 = .ok (.iload_n 1, 1) := by decide +kernel
theorem dX11_comes_29 : decode cX11_comes 29 = .ok (.bipush 112, 2) := by decide +kernel
theorem dX11_comes_31 : decode cX11_comes 31 = .ok (.if_icmp .eq 15, 3) := by decide +kernel
theorem dX11_comes_34 : decode cX11_comes 34 = .ok (.iload_n 1, 1) := by decide +kernel
theorem dX11_comes_35 : decode cX11_comes 35 = .ok (.bipush 116, 2) := by decide +kernel
theorem dX11_comes_37 : decode cX11_comes 37 = .ok (.if_icmp .eq 9, 3) := by decide +kernel
theorem dX11_comes_40 : decode cX11_comes 40 = .ok (.iload_n 1, 1) := by decide +kernel
theorem dX11_comes_41 : decode cX11_comes 41 = .ok (.bipush 109, 2) := by decide +kernel
theorem dX11_comes_43 : decode cX11_comes 43 = .ok (.if_icmp .ne 10, 3) := by decide +kernel
theorem dX11_comes_46 : decode cX11_comes 46 = .ok (.aload_n 0, 1) := by decide +kernel
theorem dX11_comes_47 : decode cX11_comes 47 = .ok (.invokevirtual 205, 3) := by decide +kernel
theorem dX11_comes_50 : decode cX11_comes 50 = .ok (.goto 4, 3) := by decide +kernel
theorem dX11_comes_53 : decode cX11_comes 53 = .ok (.iconst 0, 1) := by decide +kernel
theorem dX11_comes_54 : decode cX11_comes 54 = .ok (.iastore, 1) := by decide +kernel
theorem dX11_comes_55 : decode cX11_comes 55 = .ok (.aload_n 0, 1) := by decide +kernel
theorem dX11_comes_56 : decode cX11_comes 56 = .ok (.getfield 31, 3) := by decide +kernel
theorem dX11_comes_59 : decode cX11_comes 59 = .ok (.aload_n 0, 1) := by decide +kernel
theorem dX11_comes_60 : decode cX11_comes 60 = .ok (.getfield 202, 3) := by decide +kernel
theorem dX11_comes_63 : decode cX11_comes 63 = .ok (.iload_n 1, 1) := by decide +kernel
theorem dX11_comes_64 : decode cX11_comes 64 = .ok (.bipush 112, 2) := by decide +kernel
theorem dX11_comes_66 : decode cX11_comes 66 = .ok (.if_icmp .eq 9, 3) := by decide +kernel
theorem dX11_comes_69 : decode cX11_comes 69 = .ok (.iload_n 1, 1) := by decide +kernel
theorem dX11_comes_70 : decode cX11_comes 70 = .ok (.bipush 109, 2) := by decide +kernel
theorem dX11_comes_72 : decode cX11_comes 72 = .ok (.if_icmp .ne 10, 3) := by decide +kernel
theorem dX11_comes_75 : decode cX11_comes 75 = .ok (.aload_n 0, 1) := by decide +kernel
theorem dX11_comes_76 : decode cX11_comes 76 = .ok (.invokevirtual 205, 3) := by decide +kernel
theorem dX11_comes_79 : decode cX11_comes 79 = .ok (.goto 4, 3) := by decide +kernel
theorem dX11_comes_82 : decode cX11_comes 82 = .ok (.iconst 0, 1) := by decide +kernel
theorem dX11_comes_83 : decode cX11_comes 83 = .ok (.iastore, 1) := by decide +kernel
theorem dX11_comes_84 : decode cX11_comes 84 = .ok (.aload_n 0, 1) := by decide +kernel
theorem dX11_comes_85 : decode cX11_comes 85 = .ok (.getfield 34, 3) := by decide +kernel
theorem dX11_comes_88 : decode cX11_comes 88 = .ok (.aload_n 0, 1) := by decide +kernel
theorem dX11_comes_89 : decode cX11_comes 89 = .ok (.getfield 202, 3) := by decide +kernel
theorem dX11_comes_92 : decode cX11_comes 92 = .ok (.iload_n 1, 1) := by decide +kernel
theorem dX11_comes_93 : decode cX11_comes 93 = .ok (.bipush 109, 2) := by decide +kernel
theorem dX11_comes_95 : decode cX11_comes 95 = .ok (.if_icmp .ne 10, 3) := by decide +kernel
theorem dX11_comes_98 : decode cX11_comes 98 = .ok (.aload_n 0, 1) := by decide +kernel
theorem dX11_comes_99 : decode cX11_comes 99 = .ok (.invokevirtual 205, 3) := by decide +kernel
theorem dX11_comes_102 : decode cX11_comes 102 = .ok (.goto 4, 3) := by decide +kernel
theorem dX11_comes_105 : decode cX11_comes 105 = .ok (.iconst 0, 1) := by decide +kernel
theorem dX11_comes_106 : decode cX11_comes 106 = .ok (.iastore, 1) := by decide +kernel
theorem dX11_comes_107 : decode cX11_comes 107 = .ok (.aload_n 0, 1) := by decide +kernel
theorem dX11_comes_108 : decode cX11_comes 108 = .ok (.dup, 1) := by decide +kernel
theorem dX11_comes_109 : decode cX11_comes 109 = .ok (.getfield 202, 3) := by decide +kernel
theorem dX11_comes_112 : decode cX11_comes 112 = .ok (.iconst 1, 1) := by decide +kernel
theorem dX11_comes_113 : decode cX11_comes 113 = .ok (.iadd, 1) := by decide +kernel
theorem dX11_comes_114 : decode cX11_comes 114 = .ok (.putfield 202, 3) := by decide +kernel
theorem dX11_comes_117 : decode cX11_comes 117 = .ok (.return_, 1) := by decide +kernel
theorem dX11_reads_0 : decode cX11_reads 0 = .ok (.aload_n 0, 1) := by decide +kernel
theorem dX11_reads_1 : decode cX11_reads 1 = .ok (.iconst 0, 1) := by decide +kernel
theorem dX11_reads_2 : decode cX11_reads 2 = .ok (.putfield 192, 3) := by decide +kernel
theorem dX11_reads_5 : decode cX11_reads 5 = .ok (.aload_n 0, 1) := by decide +kernel
theorem dX11_reads_6 : decode cX11_reads 6 = .ok (.iconst 0, 1) := by decide +kernel
theorem dX11_reads_7 : decode cX11_reads 7 = .ok (.putfield 195, 3) := by decide +kernel
theorem dX11_reads_10 : decode cX11_reads 10 = .ok (.aload_n 0, 1) := by decide +kernel
theorem dX11_reads_11 : decode cX11_reads 11 = .ok (.iconst 0, 1) := by decide +kernel
theorem dX11_reads_12 : decode cX11_reads 12 = .ok (.putfield 202, 3) := by decide +kernel
theorem dX11_reads_15 : decode cX11_reads 15 = .ok (.iconst 0, 1) := by decide +kernel
theorem dX11_reads_16 : decode cX11_reads 16 = .ok (.istore_n 1, 1) := by decide +kernel
theorem dX11_reads_17 : decode cX11_reads 17 = .ok (.aload_n 0, 1) := by decide +kernel
theorem dX11_reads_18 : decode cX11_reads 18 = .ok (.getfield 195, 3) := by decide +kernel
theorem dX11_reads_21 : decode cX11_reads 21 = .ok (.ifCond .ne 189, 3) := by decide +kernel
theorem dX11_reads_24 : decode cX11_reads 24 = .ok (.aload_n 0, 1) := by decide +kernel
theorem dX11_reads_25 : decode cX11_reads 25 = .ok (.invokevirtual 199, 3) := by decide +kernel
theorem dX11_reads_28 : decode cX11_reads 28 = .ok (.iconst (-1), 1) := by decide +kernel
theorem dX11_reads_29 : decode cX11_reads 29 = .ok (.if_icmp .ne 14, 3) := by decide +kernel
theorem dX11_reads_32 : decode cX11_reads 32 = .ok (.iload_n 1, 1) := by decide +kernel
theorem dX11_reads_33 : decode cX11_reads 33 = .ok (.ifCond .gt 10, 3) := by decide +kernel
theorem dX11_reads_36 : decode cX11_reads 36 = .ok (.aload_n 0, 1) := by decide +kernel
theorem dX11_reads_37 : decode cX11_reads 37 = .ok (.getfield 202, 3) := by decide +kernel
theorem dX11_reads_40 : decode cX11_reads 40 = .ok (.ifCond .ne 170, 3) := by decide +kernel
theorem dX11_reads_43 : decode cX11_reads 43 = .ok (.aload_n 0, 1) := by decide +kernel
theorem dX11_reads_44 : decode cX11_reads 44 = .ok (.invokevirtual 199, 3) := by decide +kernel
theorem dX11_reads_47 : decode cX11_reads 47 = .ok (.istore_n 2, 1) := by decide +kernel
theorem dX11_reads_48 : decode cX11_reads 48 = .ok (.iload_n 2, 1) := by decide +kernel
theorem dX11_reads_49 : decode cX11_reads 49 = .ok (.bipush 40, 2) := by decide +kernel
theorem dX11_reads_51 : decode cX11_reads 51 = .ok (.if_icmp .ne 12, 3) := by decide +kernel
theorem dX11_reads_54 : decode cX11_reads 54 = .ok (.iload_n 1, 1) := by decide +kernel
theorem dX11_reads_55 : decode cX11_reads 55 = .ok (.iconst 4, 1) := by decide +kernel
theorem dX11_reads_56 : decode cX11_reads 56 = .ok (.if_icmp .ge 7, 3) := by decide +kernel
theorem dX11_reads_59 : decode cX11_reads 59 = .ok (.iconst 1, 1) := by decide +kernel
theorem dX11_reads_60 : decode cX11_reads 60 = .ok (.goto 4, 3) := by decide +kernel
theorem dX11_reads_63 : decode cX11_reads 63 = .ok (.iconst 0, 1) := by decide +kernel
theorem dX11_reads_64 : decode cX11_reads 64 = .ok (.istore_n 3, 1) := by decide +kernel
theorem dX11_reads_65 : decode cX11_reads 65 = .ok (.iload_n 2, 1) := by decide +kernel
theorem dX11_reads_66 : decode cX11_reads 66 = .ok (.bipush 41, 2) := by decide +kernel
theorem dX11_reads_68 : decode cX11_reads 68 = .ok (.if_icmp .ne 11, 3) := by decide +kernel
theorem dX11_reads_71 : decode cX11_reads 71 = .ok (.iload_n 1, 1) := by decide +kernel
theorem dX11_reads_72 : decode cX11_reads 72 = .ok (.ifCond .le 7, 3) := by decide +kernel
theorem dX11_reads_75 : decode cX11_reads 75 = .ok (.iconst 1, 1) := by decide +kernel
theorem dX11_reads_76 : decode cX11_reads 76 = .ok (.goto 4, 3) := by decide +kernel
theorem dX11_reads_79 : decode cX11_reads 79 = .ok (.iconst 0, 1) := by decide +kernel
theorem dX11_reads_80 : decode cX11_reads 80 = .ok (.istore 4, 2) := by decide +kernel
theorem dX11_reads_82 : decode cX11_reads 82 = .ok (.iload_n 3, 1) := by decide +kernel
theorem dX11_reads_83 : decode cX11_reads 83 = .ok (.ifCond .ne 26, 3) := by decide +kernel
theorem dX11_reads_86 : decode cX11_reads 86 = .ok (.iload 4, 2) := by decide +kernel
theorem dX11_reads_88 : decode cX11_reads 88 = .ok (.ifCond .ne 21, 3) := by decide +kernel
theorem dX11_reads_91 : decode cX11_reads 91 = .ok (.iload_n 2, 1) := by decide +kernel
theorem dX11_reads_92 : decode cX11_reads 92 = .ok (.bipush 112, 2) := by decide +kernel
theorem dX11_reads_94 : decode cX11_reads 94 = .ok (.if_icmp .eq 15, 3) := by decide +kernel
theorem dX11_reads_97 : decode cX11_reads 97 = .ok (.iload_n 2, 1) := by decide +kernel
theorem dX11_reads_98 : decode cX11_reads 98 = .ok (.bipush 116, 2) := by decide +kernel
theorem dX11_reads_100 : decode cX11_reads 100 = .ok (.if_icmp .eq 9, 3) := by decide +kernel
theorem dX11_reads_103 : decode cX11_reads 103 = .ok (.iload_n 2, 1) := by decide +kernel

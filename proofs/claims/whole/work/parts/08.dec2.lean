theorem dX10_moves_74 : decode cX10_moves 74 = .ok (.aload_n 0, 1) := by decide +kernel
theorem dX10_moves_75 : decode cX10_moves 75 = .ok (.getfield 10, 3) := by decide +kernel
theorem dX10_moves_78 : decode cX10_moves 78 = .ok (.iload_n 1, 1) := by decide +kernel
theorem dX10_moves_79 : decode cX10_moves 79 = .ok (.iload_n 2, 1) := by decide +kernel
theorem dX10_moves_80 : decode cX10_moves 80 = .ok (.iload_n 3, 1) := by decide +kernel
theorem dX10_moves_81 : decode cX10_moves 81 = .ok (.invokevirtual 128, 3) := by decide +kernel
theorem dX10_moves_84 : decode cX10_moves 84 = .ok (.istore 5, 2) := by decide +kernel
theorem dX10_moves_86 : decode cX10_moves 86 = .ok (.iload_n 3, 1) := by decide +kernel
theorem dX10_moves_87 : decode cX10_moves 87 = .ok (.istore 6, 2) := by decide +kernel
theorem dX10_moves_89 : decode cX10_moves 89 = .ok (.iload 5, 2) := by decide +kernel
theorem dX10_moves_91 : decode cX10_moves 91 = .ok (.iload_n 3, 1) := by decide +kernel
theorem dX10_moves_92 : decode cX10_moves 92 = .ok (.if_icmp .ge 30, 3) := by decide +kernel
theorem dX10_moves_95 : decode cX10_moves 95 = .ok (.iload 4, 2) := by decide +kernel
theorem dX10_moves_97 : decode cX10_moves 97 = .ok (.iconst 1, 1) := by decide +kernel
theorem dX10_moves_98 : decode cX10_moves 98 = .ok (.if_icmp .ne 17, 3) := by decide +kernel
theorem dX10_moves_101 : decode cX10_moves 101 = .ok (.aload_n 0, 1) := by decide +kernel
theorem dX10_moves_102 : decode cX10_moves 102 = .ok (.getfield 42, 3) := by decide +kernel
theorem dX10_moves_105 : decode cX10_moves 105 = .ok (.aload_n 0, 1) := by decide +kernel
theorem dX10_moves_106 : decode cX10_moves 106 = .ok (.getfield 10, 3) := by decide +kernel
theorem dX10_moves_109 : decode cX10_moves 109 = .ok (.invokevirtual 132, 3) := by decide +kernel
theorem dX10_moves_112 : decode cX10_moves 112 = .ok (.iconst 0, 1) := by decide +kernel
theorem dX10_moves_113 : decode cX10_moves 113 = .ok (.istore 5, 2) := by decide +kernel
theorem dX10_moves_115 : decode cX10_moves 115 = .ok (.bipush (-100), 2) := by decide +kernel
theorem dX10_moves_117 : decode cX10_moves 117 = .ok (.iload 5, 2) := by decide +kernel
theorem dX10_moves_119 : decode cX10_moves 119 = .ok (.isub, 1) := by decide +kernel
theorem dX10_moves_120 : decode cX10_moves 120 = .ok (.istore 6, 2) := by decide +kernel
theorem dX10_moves_122 : decode cX10_moves 122 = .ok (.aload_n 0, 1) := by decide +kernel
theorem dX10_moves_123 : decode cX10_moves 123 = .ok (.getfield 10, 3) := by decide +kernel
theorem dX10_moves_126 : decode cX10_moves 126 = .ok (.invokevirtual 79, 3) := by decide +kernel
theorem dX10_moves_129 : decode cX10_moves 129 = .ok (.iload 6, 2) := by decide +kernel
theorem dX10_moves_131 : decode cX10_moves 131 = .ok (.ireturn, 1) := by decide +kernel
theorem dX10_asks_0 : decode cX10_asks 0 = .ok (.iload_n 1, 1) := by decide +kernel
theorem dX10_asks_1 : decode cX10_asks 1 = .ok (.invokestatic 135, 3) := by decide +kernel
theorem dX10_asks_4 : decode cX10_asks 4 = .ok (.ifCond .eq 34, 3) := by decide +kernel
theorem dX10_asks_7 : decode cX10_asks 7 = .ok (.aload_n 0, 1) := by decide +kernel
theorem dX10_asks_8 : decode cX10_asks 8 = .ok (.getfield 10, 3) := by decide +kernel
theorem dX10_asks_11 : decode cX10_asks 11 = .ok (.iload_n 2, 1) := by decide +kernel
theorem dX10_asks_12 : decode cX10_asks 12 = .ok (.invokevirtual 66, 3) := by decide +kernel
theorem dX10_asks_15 : decode cX10_asks 15 = .ok (.ifCond .eq 23, 3) := by decide +kernel
theorem dX10_asks_18 : decode cX10_asks 18 = .ok (.iload_n 3, 1) := by decide +kernel
theorem dX10_asks_19 : decode cX10_asks 19 = .ok (.iconst 0, 1) := by decide +kernel
theorem dX10_asks_20 : decode cX10_asks 20 = .ok (.iconst 1, 1) := by decide +kernel
theorem dX10_asks_21 : decode cX10_asks 21 = .ok (.invokestatic 46, 3) := by decide +kernel
theorem dX10_asks_24 : decode cX10_asks 24 = .ok (.ifCond .eq 14, 3) := by decide +kernel
theorem dX10_asks_27 : decode cX10_asks 27 = .ok (.iload 4, 2) := by decide +kernel
theorem dX10_asks_29 : decode cX10_asks 29 = .ok (.iconst 0, 1) := by decide +kernel
theorem dX10_asks_30 : decode cX10_asks 30 = .ok (.bipush 9, 2) := by decide +kernel
theorem dX10_asks_32 : decode cX10_asks 32 = .ok (.invokestatic 46, 3) := by decide +kernel
theorem dX10_asks_35 : decode cX10_asks 35 = .ok (.ifCond .ne 8, 3) := by decide +kernel
theorem dX10_asks_38 : decode cX10_asks 38 = .ok (.aload_n 0, 1) := by decide +kernel
theorem dX10_asks_39 : decode cX10_asks 39 = .ok (.invokevirtual 50, 3) := by decide +kernel
theorem dX10_asks_42 : decode cX10_asks 42 = .ok (.ireturn, 1) := by decide +kernel
theorem dX10_asks_43 : decode cX10_asks 43 = .ok (.aload_n 0, 1) := by decide +kernel
theorem dX10_asks_44 : decode cX10_asks 44 = .ok (.getfield 10, 3) := by decide +kernel
theorem dX10_asks_47 : decode cX10_asks 47 = .ok (.getfield 138, 3) := by decide +kernel
theorem dX10_asks_50 : decode cX10_asks 50 = .ok (.iload_n 1, 1) := by decide +kernel
theorem dX10_asks_51 : decode cX10_asks 51 = .ok (.aaload, 1) := by decide +kernel
theorem dX10_asks_52 : decode cX10_asks 52 = .ok (.invokevirtual 142, 3) := by decide +kernel
theorem dX10_asks_55 : decode cX10_asks 55 = .ok (.ifCond .eq 8, 3) := by decide +kernel
theorem dX10_asks_58 : decode cX10_asks 58 = .ok (.aload_n 0, 1) := by decide +kernel
theorem dX10_asks_59 : decode cX10_asks 59 = .ok (.invokevirtual 148, 3) := by decide +kernel
theorem dX10_asks_62 : decode cX10_asks 62 = .ok (.ireturn, 1) := by decide +kernel
theorem dX10_asks_63 : decode cX10_asks 63 = .ok (.aload_n 0, 1) := by decide +kernel
theorem dX10_asks_64 : decode cX10_asks 64 = .ok (.getfield 19, 3) := by decide +kernel
theorem dX10_asks_67 : decode cX10_asks 67 = .ok (.aload_n 0, 1) := by decide +kernel
theorem dX10_asks_68 : decode cX10_asks 68 = .ok (.getfield 10, 3) := by decide +kernel
theorem dX10_asks_71 : decode cX10_asks 71 = .ok (.invokevirtual 54, 3) := by decide +kernel
theorem dX10_asks_74 : decode cX10_asks 74 = .ok (.aload_n 0, 1) := by decide +kernel
theorem dX10_asks_75 : decode cX10_asks 75 = .ok (.getfield 10, 3) := by decide +kernel
theorem dX10_asks_78 : decode cX10_asks 78 = .ok (.getfield 138, 3) := by decide +kernel
theorem dX10_asks_81 : decode cX10_asks 81 = .ok (.iload_n 1, 1) := by decide +kernel
theorem dX10_asks_82 : decode cX10_asks 82 = .ok (.aaload, 1) := by decide +kernel
theorem dX10_asks_83 : decode cX10_asks 83 = .ok (.iload_n 2, 1) := by decide +kernel
theorem dX10_asks_84 : decode cX10_asks 84 = .ok (.iload_n 3, 1) := by decide +kernel
theorem dX10_asks_85 : decode cX10_asks 85 = .ok (.iload 4, 2) := by decide +kernel
theorem dX10_asks_87 : decode cX10_asks 87 = .ok (.invokevirtual 151, 3) := by decide +kernel
theorem dX10_asks_90 : decode cX10_asks 90 = .ok (.aload_n 0, 1) := by decide +kernel
theorem dX10_asks_91 : decode cX10_asks 91 = .ok (.getfield 10, 3) := by decide +kernel
theorem dX10_asks_94 : decode cX10_asks 94 = .ok (.iload_n 1, 1) := by decide +kernel
theorem dX10_asks_95 : decode cX10_asks 95 = .ok (.invokevirtual 155, 3) := by decide +kernel
theorem dX10_asks_98 : decode cX10_asks 98 = .ok (.istore 5, 2) := by decide +kernel
theorem dX10_asks_100 : decode cX10_asks 100 = .ok (.iload 5, 2) := by decide +kernel
theorem dX10_asks_102 : decode cX10_asks 102 = .ok (.ifCond .ne 14, 3) := by decide +kernel
theorem dX10_asks_105 : decode cX10_asks 105 = .ok (.aload_n 0, 1) := by decide +kernel
theorem dX10_asks_106 : decode cX10_asks 106 = .ok (.getfield 10, 3) := by decide +kernel
theorem dX10_asks_109 : decode cX10_asks 109 = .ok (.getfield 158, 3) := by decide +kernel
theorem dX10_asks_112 : decode cX10_asks 112 = .ok (.iload_n 1, 1) := by decide +kernel
theorem dX10_asks_113 : decode cX10_asks 113 = .ok (.invokevirtual 161, 3) := by decide +kernel
theorem dX10_asks_116 : decode cX10_asks 116 = .ok (.aload_n 0, 1) := by decide +kernel
theorem dX10_asks_117 : decode cX10_asks 117 = .ok (.getfield 10, 3) := by decide +kernel
theorem dX10_asks_120 : decode cX10_asks 120 = .ok (.invokevirtual 79, 3) := by decide +kernel
theorem dX10_asks_123 : decode cX10_asks 123 = .ok (.iload 5, 2) := by decide +kernel
theorem dX10_asks_125 : decode cX10_asks 125 = .ok (.ifCond .eq 7, 3) := by decide +kernel
theorem dX10_asks_128 : decode cX10_asks 128 = .ok (.iconst 1, 1) := by decide +kernel
theorem dX10_asks_129 : decode cX10_asks 129 = .ok (.goto 4, 3) := by decide +kernel
theorem dX10_asks_132 : decode cX10_asks 132 = .ok (.iconst 0, 1) := by decide +kernel
theorem dX10_asks_133 : decode cX10_asks 133 = .ok (.ireturn, 1) := by decide +kernel
theorem dX10_cancels_0 : decode cX10_cancels 0 = .ok (.iload_n 1, 1) := by decide +kernel
theorem dX10_cancels_1 : decode cX10_cancels 1 = .ok (.invokestatic 135, 3) := by decide +kernel
theorem dX10_cancels_4 : decode cX10_cancels 4 = .ok (.ifCond .ne 8, 3) := by decide +kernel
theorem dX10_cancels_7 : decode cX10_cancels 7 = .ok (.aload_n 0, 1) := by decide +kernel
theorem dX10_cancels_8 : decode cX10_cancels 8 = .ok (.invokevirtual 50, 3) := by decide +kernel
theorem dX10_cancels_11 : decode cX10_cancels 11 = .ok (.ireturn, 1) := by decide +kernel
theorem dX10_cancels_12 : decode cX10_cancels 12 = .ok (.aload_n 0, 1) := by decide +kernel
theorem dX10_cancels_13 : decode cX10_cancels 13 = .ok (.getfield 10, 3) := by decide +kernel
theorem dX10_cancels_16 : decode cX10_cancels 16 = .ok (.getfield 138, 3) := by decide +kernel
theorem dX10_cancels_19 : decode cX10_cancels 19 = .ok (.iload_n 1, 1) := by decide +kernel
theorem dX10_cancels_20 : decode cX10_cancels 20 = .ok (.aaload, 1) := by decide +kernel
theorem dX10_cancels_21 : decode cX10_cancels 21 = .ok (.invokevirtual 142, 3) := by decide +kernel
theorem dX10_cancels_24 : decode cX10_cancels 24 = .ok (.ifCond .ne 8, 3) := by decide +kernel
theorem dX10_cancels_27 : decode cX10_cancels 27 = .ok (.aload_n 0, 1) := by decide +kernel
theorem dX10_cancels_28 : decode cX10_cancels 28 = .ok (.invokevirtual 148, 3) := by decide +kernel
theorem dX10_cancels_31 : decode cX10_cancels 31 = .ok (.ireturn, 1) := by decide +kernel
theorem dX10_cancels_32 : decode cX10_cancels 32 = .ok (.aload_n 0, 1) := by decide +kernel
theorem dX10_cancels_33 : decode cX10_cancels 33 = .ok (.getfield 19, 3) := by decide +kernel
theorem dX10_cancels_36 : decode cX10_cancels 36 = .ok (.aload_n 0, 1) := by decide +kernel
theorem dX10_cancels_37 : decode cX10_cancels 37 = .ok (.getfield 10, 3) := by decide +kernel
theorem dX10_cancels_40 : decode cX10_cancels 40 = .ok (.invokevirtual 54, 3) := by decide +kernel
theorem dX10_cancels_43 : decode cX10_cancels 43 = .ok (.aload_n 0, 1) := by decide +kernel
theorem dX10_cancels_44 : decode cX10_cancels 44 = .ok (.getfield 10, 3) := by decide +kernel
theorem dX10_cancels_47 : decode cX10_cancels 47 = .ok (.getfield 138, 3) := by decide +kernel
theorem dX10_cancels_50 : decode cX10_cancels 50 = .ok (.iload_n 1, 1) := by decide +kernel
theorem dX10_cancels_51 : decode cX10_cancels 51 = .ok (.aaload, 1) := by decide +kernel
theorem dX10_cancels_52 : decode cX10_cancels 52 = .ok (.invokevirtual 164, 3) := by decide +kernel
theorem dX10_cancels_55 : decode cX10_cancels 55 = .ok (.aload_n 0, 1) := by decide +kernel
theorem dX10_cancels_56 : decode cX10_cancels 56 = .ok (.getfield 10, 3) := by decide +kernel
theorem dX10_cancels_59 : decode cX10_cancels 59 = .ok (.getfield 158, 3) := by decide +kernel
theorem dX10_cancels_62 : decode cX10_cancels 62 = .ok (.aload_n 0, 1) := by decide +kernel
theorem dX10_cancels_63 : decode cX10_cancels 63 = .ok (.getfield 10, 3) := by decide +kernel
theorem dX10_cancels_66 : decode cX10_cancels 66 = .ok (.getfield 158, 3) := by decide +kernel
theorem dX10_cancels_69 : decode cX10_cancels 69 = .ok (.iload_n 1, 1) := by decide +kernel
theorem dX10_cancels_70 : decode cX10_cancels 70 = .ok (.invokevirtual 167, 3) := by decide +kernel
theorem dX10_cancels_73 : decode cX10_cancels 73 = .ok (.invokevirtual 170, 3) := by decide +kernel
theorem dX10_cancels_76 : decode cX10_cancels 76 = .ok (.pop, 1) := by decide +kernel
theorem dX10_cancels_77 : decode cX10_cancels 77 = .ok (.aload_n 0, 1) := by decide +kernel
theorem dX10_cancels_78 : decode cX10_cancels 78 = .ok (.getfield 10, 3) := by decide +kernel
theorem dX10_cancels_81 : decode cX10_cancels 81 = .ok (.getfield 158, 3) := by decide +kernel
theorem dX10_cancels_84 : decode cX10_cancels 84 = .ok (.getfield 118, 3) := by decide +kernel
theorem dX10_cancels_87 : decode cX10_cancels 87 = .ok (.ireturn, 1) := by decide +kernel
theorem dX10_keeps_0 : decode cX10_keeps 0 = .ok (.iload_n 1, 1) := by decide +kernel
theorem dX10_keeps_1 : decode cX10_keeps 1 = .ok (.invokestatic 135, 3) := by decide +kernel
theorem dX10_keeps_4 : decode cX10_keeps 4 = .ok (.ifCond .eq 14, 3) := by decide +kernel
theorem dX10_keeps_7 : decode cX10_keeps 7 = .ok (.aload_n 0, 1) := by decide +kernel
theorem dX10_keeps_8 : decode cX10_keeps 8 = .ok (.getfield 10, 3) := by decide +kernel
theorem dX10_keeps_11 : decode cX10_keeps 11 = .ok (.iload_n 2, 1) := by decide +kernel
theorem dX10_keeps_12 : decode cX10_keeps 12 = .ok (.invokevirtual 66, 3) := by decide +kernel
theorem dX10_keeps_15 : decode cX10_keeps 15 = .ok (.ifCond .ne 8, 3) := by decide +kernel
theorem dX10_keeps_18 : decode cX10_keeps 18 = .ok (.aload_n 0, 1) := by decide +kernel
theorem dX10_keeps_19 : decode cX10_keeps 19 = .ok (.invokevirtual 50, 3) := by decide +kernel
theorem dX10_keeps_22 : decode cX10_keeps 22 = .ok (.ireturn, 1) := by decide +kernel
theorem dX10_keeps_23 : decode cX10_keeps 23 = .ok (.aload_n 0, 1) := by decide +kernel
theorem dX10_keeps_24 : decode cX10_keeps 24 = .ok (.getfield 10, 3) := by decide +kernel
theorem dX10_keeps_27 : decode cX10_keeps 27 = .ok (.iload_n 1, 1) := by decide +kernel
theorem dX10_keeps_28 : decode cX10_keeps 28 = .ok (.invokevirtual 173, 3) := by decide +kernel
theorem dX10_keeps_31 : decode cX10_keeps 31 = .ok (.iconst (-1), 1) := by decide +kernel
theorem dX10_keeps_32 : decode cX10_keeps 32 = .ok (.if_icmp .eq 8, 3) := by decide +kernel
theorem dX10_keeps_35 : decode cX10_keeps 35 = .ok (.aload_n 0, 1) := by decide +kernel
theorem dX10_keeps_36 : decode cX10_keeps 36 = .ok (.invokevirtual 148, 3) := by decide +kernel
theorem dX10_keeps_39 : decode cX10_keeps 39 = .ok (.ireturn, 1) := by decide +kernel
theorem dX10_keeps_40 : decode cX10_keeps 40 = .ok (.aload_n 0, 1) := by decide +kernel
theorem dX10_keeps_41 : decode cX10_keeps 41 = .ok (.getfield 19, 3) := by decide +kernel
theorem dX10_keeps_44 : decode cX10_keeps 44 = .ok (.aload_n 0, 1) := by decide +kernel
theorem dX10_keeps_45 : decode cX10_keeps 45 = .ok (.getfield 10, 3) := by decide +kernel
theorem dX10_keeps_48 : decode cX10_keeps 48 = .ok (.invokevirtual 54, 3) := by decide +kernel
theorem dX10_keeps_51 : decode cX10_keeps 51 = .ok (.aload_n 0, 1) := by decide +kernel
theorem dX10_keeps_52 : decode cX10_keeps 52 = .ok (.getfield 10, 3) := by decide +kernel
theorem dX10_keeps_55 : decode cX10_keeps 55 = .ok (.getfield 70, 3) := by decide +kernel
theorem dX10_keeps_58 : decode cX10_keeps 58 = .ok (.iload_n 2, 1) := by decide +kernel
theorem dX10_keeps_59 : decode cX10_keeps 59 = .ok (.aaload, 1) := by decide +kernel
theorem dX10_keeps_60 : decode cX10_keeps 60 = .ok (.iload_n 1, 1) := by decide +kernel
theorem dX10_keeps_61 : decode cX10_keeps 61 = .ok (.invokevirtual 176, 3) := by decide +kernel
theorem dX10_keeps_64 : decode cX10_keeps 64 = .ok (.ireturn, 1) := by decide +kernel
theorem dX10_lets_0 : decode cX10_lets 0 = .ok (.iload_n 1, 1) := by decide +kernel
theorem dX10_lets_1 : decode cX10_lets 1 = .ok (.invokestatic 135, 3) := by decide +kernel
theorem dX10_lets_4 : decode cX10_lets 4 = .ok (.ifCond .eq 14, 3) := by decide +kernel
theorem dX10_lets_7 : decode cX10_lets 7 = .ok (.aload_n 0, 1) := by decide +kernel
theorem dX10_lets_8 : decode cX10_lets 8 = .ok (.getfield 10, 3) := by decide +kernel
theorem dX10_lets_11 : decode cX10_lets 11 = .ok (.iload_n 2, 1) := by decide +kernel
theorem dX10_lets_12 : decode cX10_lets 12 = .ok (.invokevirtual 66, 3) := by decide +kernel
theorem dX10_lets_15 : decode cX10_lets 15 = .ok (.ifCond .ne 8, 3) := by decide +kernel
theorem dX10_lets_18 : decode cX10_lets 18 = .ok (.aload_n 0, 1) := by decide +kernel
theorem dX10_lets_19 : decode cX10_lets 19 = .ok (.invokevirtual 50, 3) := by decide +kernel
theorem dX10_lets_22 : decode cX10_lets 22 = .ok (.ireturn, 1) := by decide +kernel
theorem dX10_lets_23 : decode cX10_lets 23 = .ok (.aload_n 0, 1) := by decide +kernel
theorem dX10_lets_24 : decode cX10_lets 24 = .ok (.getfield 10, 3) := by decide +kernel
theorem dX10_lets_27 : decode cX10_lets 27 = .ok (.getfield 70, 3) := by decide +kernel
theorem dX10_lets_30 : decode cX10_lets 30 = .ok (.iload_n 2, 1) := by decide +kernel
theorem dX10_lets_31 : decode cX10_lets 31 = .ok (.aaload, 1) := by decide +kernel
theorem dX10_lets_32 : decode cX10_lets 32 = .ok (.getfield 179, 3) := by decide +kernel
theorem dX10_lets_35 : decode cX10_lets 35 = .ok (.iload_n 1, 1) := by decide +kernel
theorem dX10_lets_36 : decode cX10_lets 36 = .ok (.if_icmp .eq 8, 3) := by decide +kernel
theorem dX10_lets_39 : decode cX10_lets 39 = .ok (.aload_n 0, 1) := by decide +kernel
theorem dX10_lets_40 : decode cX10_lets 40 = .ok (.invokevirtual 148, 3) := by decide +kernel
theorem dX10_lets_43 : decode cX10_lets 43 = .ok (.ireturn, 1) := by decide +kernel
theorem dX10_lets_44 : decode cX10_lets 44 = .ok (.aload_n 0, 1) := by decide +kernel
theorem dX10_lets_45 : decode cX10_lets 45 = .ok (.getfield 19, 3) := by decide +kernel
theorem dX10_lets_48 : decode cX10_lets 48 = .ok (.aload_n 0, 1) := by decide +kernel
theorem dX10_lets_49 : decode cX10_lets 49 = .ok (.getfield 10, 3) := by decide +kernel
theorem dX10_lets_52 : decode cX10_lets 52 = .ok (.invokevirtual 54, 3) := by decide +kernel
theorem dX10_lets_55 : decode cX10_lets 55 = .ok (.aload_n 0, 1) := by decide +kernel
theorem dX10_lets_56 : decode cX10_lets 56 = .ok (.getfield 10, 3) := by decide +kernel
theorem dX10_lets_59 : decode cX10_lets 59 = .ok (.getfield 70, 3) := by decide +kernel
theorem dX10_lets_62 : decode cX10_lets 62 = .ok (.iload_n 2, 1) := by decide +kernel
theorem dX10_lets_63 : decode cX10_lets 63 = .ok (.aaload, 1) := by decide +kernel
theorem dX10_lets_64 : decode cX10_lets 64 = .ok (.invokevirtual 182, 3) := by decide +kernel
theorem dX10_lets_67 : decode cX10_lets 67 = .ok (.istore_n 3, 1) := by decide +kernel
theorem dX10_lets_68 : decode cX10_lets 68 = .ok (.aload_n 0, 1) := by decide +kernel
theorem dX10_lets_69 : decode cX10_lets 69 = .ok (.getfield 10, 3) := by decide +kernel
theorem dX10_lets_72 : decode cX10_lets 72 = .ok (.invokevirtual 79, 3) := by decide +kernel
theorem dX10_lets_75 : decode cX10_lets 75 = .ok (.iload_n 3, 1) := by decide +kernel
theorem dX10_lets_76 : decode cX10_lets 76 = .ok (.ireturn, 1) := by decide +kernel
theorem dX10_quits_0 : decode cX10_quits 0 = .ok (.iload_n 1, 1) := by decide +kernel
theorem dX10_quits_1 : decode cX10_quits 1 = .ok (.invokestatic 135, 3) := by decide +kernel
theorem dX10_quits_4 : decode cX10_quits 4 = .ok (.ifCond .ne 8, 3) := by decide +kernel
theorem dX10_quits_7 : decode cX10_quits 7 = .ok (.aload_n 0, 1) := by decide +kernel
theorem dX10_quits_8 : decode cX10_quits 8 = .ok (.invokevirtual 50, 3) := by decide +kernel
theorem dX10_quits_11 : decode cX10_quits 11 = .ok (.ireturn, 1) := by decide +kernel
theorem dX10_quits_12 : decode cX10_quits 12 = .ok (.aload_n 0, 1) := by decide +kernel
theorem dX10_quits_13 : decode cX10_quits 13 = .ok (.getfield 10, 3) := by decide +kernel
theorem dX10_quits_16 : decode cX10_quits 16 = .ok (.iload_n 1, 1) := by decide +kernel
theorem dX10_quits_17 : decode cX10_quits 17 = .ok (.invokevirtual 173, 3) := by decide +kernel
theorem dX10_quits_20 : decode cX10_quits 20 = .ok (.istore_n 2, 1) := by decide +kernel
theorem dX10_quits_21 : decode cX10_quits 21 = .ok (.aload_n 0, 1) := by decide +kernel
theorem dX10_quits_22 : decode cX10_quits 22 = .ok (.getfield 10, 3) := by decide +kernel
theorem dX10_quits_25 : decode cX10_quits 25 = .ok (.iload_n 2, 1) := by decide +kernel
theorem dX10_quits_26 : decode cX10_quits 26 = .ok (.invokevirtual 66, 3) := by decide +kernel
theorem dX10_quits_29 : decode cX10_quits 29 = .ok (.ifCond .ne 8, 3) := by decide +kernel
theorem dX10_quits_32 : decode cX10_quits 32 = .ok (.aload_n 0, 1) := by decide +kernel
theorem dX10_quits_33 : decode cX10_quits 33 = .ok (.invokevirtual 148, 3) := by decide +kernel
theorem dX10_quits_36 : decode cX10_quits 36 = .ok (.ireturn, 1) := by decide +kernel
theorem dX10_quits_37 : decode cX10_quits 37 = .ok (.aload_n 0, 1) := by decide +kernel
theorem dX10_quits_38 : decode cX10_quits 38 = .ok (.getfield 19, 3) := by decide +kernel
theorem dX10_quits_41 : decode cX10_quits 41 = .ok (.aload_n 0, 1) := by decide +kernel
theorem dX10_quits_42 : decode cX10_quits 42 = .ok (.getfield 10, 3) := by decide +kernel
theorem dX10_quits_45 : decode cX10_quits 45 = .ok (.invokevirtual 54, 3) := by decide +kernel
theorem dX10_quits_48 : decode cX10_quits 48 = .ok (.aload_n 0, 1) := by decide +kernel
theorem dX10_quits_49 : decode cX10_quits 49 = .ok (.getfield 10, 3) := by decide +kernel
theorem dX10_quits_52 : decode cX10_quits 52 = .ok (.getfield 70, 3) := by decide +kernel
theorem dX10_quits_55 : decode cX10_quits 55 = .ok (.iload_n 2, 1) := by decide +kernel
theorem dX10_quits_56 : decode cX10_quits 56 = .ok (.aaload, 1) := by decide +kernel
theorem dX10_quits_57 : decode cX10_quits 57 = .ok (.getfield 185, 3) := by decide +kernel
theorem dX10_quits_60 : decode cX10_quits 60 = .ok (.astore_n 3, 1) := by decide +kernel
theorem dX10_quits_61 : decode cX10_quits 61 = .ok (.aload_n 3, 1) := by decide +kernel
theorem dX10_quits_62 : decode cX10_quits 62 = .ok (.aload_n 3, 1) := by decide +kernel
theorem dX10_quits_63 : decode cX10_quits 63 = .ok (.iload_n 1, 1) := by decide +kernel
theorem dX10_quits_64 : decode cX10_quits 64 = .ok (.invokevirtual 167, 3) := by decide +kernel
theorem dX10_quits_67 : decode cX10_quits 67 = .ok (.invokevirtual 170, 3) := by decide +kernel
theorem dX10_quits_70 : decode cX10_quits 70 = .ok (.pop, 1) := by decide +kernel
theorem dX10_quits_71 : decode cX10_quits 71 = .ok (.iload_n 2, 1) := by decide +kernel
theorem dX10_quits_72 : decode cX10_quits 72 = .ok (.ireturn, 1) := by decide +kernel
theorem dX10_keeper_0 : decode cX10_keeper 0 = .ok (.aload_n 0, 1) := by decide +kernel
theorem dX10_keeper_1 : decode cX10_keeper 1 = .ok (.getfield 10, 3) := by decide +kernel
theorem dX10_keeper_4 : decode cX10_keeper 4 = .ok (.iload_n 1, 1) := by decide +kernel
theorem dX10_keeper_5 : decode cX10_keeper 5 = .ok (.invokevirtual 66, 3) := by decide +kernel
theorem dX10_keeper_8 : decode cX10_keeper 8 = .ok (.ifCond .eq 12, 3) := by decide +kernel
theorem dX10_keeper_11 : decode cX10_keeper 11 = .ok (.iload_n 2, 1) := by decide +kernel
theorem dX10_keeper_12 : decode cX10_keeper 12 = .ok (.iconst 0, 1) := by decide +kernel
theorem dX10_keeper_13 : decode cX10_keeper 13 = .ok (.iconst 2, 1) := by decide +kernel
theorem dX10_keeper_14 : decode cX10_keeper 14 = .ok (.invokestatic 46, 3) := by decide +kernel
theorem dX10_keeper_17 : decode cX10_keeper 17 = .ok (.ifCond .ne 8, 3) := by decide +kernel
theorem dX10_keeper_20 : decode cX10_keeper 20 = .ok (.aload_n 0, 1) := by decide +kernel
theorem dX10_keeper_21 : decode cX10_keeper 21 = .ok (.invokevirtual 50, 3) := by decide +kernel
theorem dX10_keeper_24 : decode cX10_keeper 24 = .ok (.ireturn, 1) := by decide +kernel
theorem dX10_keeper_25 : decode cX10_keeper 25 = .ok (.aload_n 0, 1) := by decide +kernel
theorem dX10_keeper_26 : decode cX10_keeper 26 = .ok (.getfield 10, 3) := by decide +kernel
theorem dX10_keeper_29 : decode cX10_keeper 29 = .ok (.getfield 70, 3) := by decide +kernel
theorem dX10_keeper_32 : decode cX10_keeper 32 = .ok (.iload_n 1, 1) := by decide +kernel
theorem dX10_keeper_33 : decode cX10_keeper 33 = .ok (.aaload, 1) := by decide +kernel
theorem dX10_keeper_34 : decode cX10_keeper 34 = .ok (.iload_n 2, 1) := by decide +kernel
theorem dX10_keeper_35 : decode cX10_keeper 35 = .ok (.invokevirtual 188, 3) := by decide +kernel
theorem dX10_keeper_38 : decode cX10_keeper 38 = .ok (.ireturn, 1) := by decide +kernel
theorem dX10_queue_0 : decode cX10_queue 0 = .ok (.aload_n 0, 1) := by decide +kernel
theorem dX10_queue_1 : decode cX10_queue 1 = .ok (.getfield 10, 3) := by decide +kernel
theorem dX10_queue_4 : decode cX10_queue 4 = .ok (.iload_n 1, 1) := by decide +kernel
theorem dX10_queue_5 : decode cX10_queue 5 = .ok (.invokevirtual 66, 3) := by decide +kernel
theorem dX10_queue_8 : decode cX10_queue 8 = .ok (.ifCond .eq 7, 3) := by decide +kernel
theorem dX10_queue_11 : decode cX10_queue 11 = .ok (.iload_n 2, 1) := by decide +kernel
theorem dX10_queue_12 : decode cX10_queue 12 = .ok (.ifCond .ge 8, 3) := by decide +kernel
theorem dX10_queue_15 : decode cX10_queue 15 = .ok (.aload_n 0, 1) := by decide +kernel
theorem dX10_queue_16 : decode cX10_queue 16 = .ok (.invokevirtual 50, 3) := by decide +kernel
theorem dX10_queue_19 : decode cX10_queue 19 = .ok (.ireturn, 1) := by decide +kernel
theorem dX10_queue_20 : decode cX10_queue 20 = .ok (.aload_n 0, 1) := by decide +kernel
theorem dX10_queue_21 : decode cX10_queue 21 = .ok (.getfield 10, 3) := by decide +kernel
theorem dX10_queue_24 : decode cX10_queue 24 = .ok (.getfield 70, 3) := by decide +kernel
theorem dX10_queue_27 : decode cX10_queue 27 = .ok (.iload_n 1, 1) := by decide +kernel
theorem dX10_queue_28 : decode cX10_queue 28 = .ok (.aaload, 1) := by decide +kernel
theorem dX10_queue_29 : decode cX10_queue 29 = .ok (.getfield 185, 3) := by decide +kernel
theorem dX10_queue_32 : decode cX10_queue 32 = .ok (.iload_n 2, 1) := by decide +kernel
theorem dX10_queue_33 : decode cX10_queue 33 = .ok (.invokevirtual 191, 3) := by decide +kernel
theorem dX10_queue_36 : decode cX10_queue 36 = .ok (.ireturn, 1) := by decide +kernel
theorem dX10_stuck_0 : decode cX10_stuck 0 = .ok (.aload_n 0, 1) := by decide +kernel
theorem dX10_stuck_1 : decode cX10_stuck 1 = .ok (.getfield 10, 3) := by decide +kernel
theorem dX10_stuck_4 : decode cX10_stuck 4 = .ok (.invokevirtual 194, 3) := by decide +kernel
theorem dX10_stuck_7 : decode cX10_stuck 7 = .ok (.ireturn, 1) := by decide +kernel
theorem dX10_buffer_0 : decode cX10_buffer 0 = .ok (.aload_n 0, 1) := by decide +kernel
theorem dX10_buffer_1 : decode cX10_buffer 1 = .ok (.getfield 10, 3) := by decide +kernel
theorem dX10_buffer_4 : decode cX10_buffer 4 = .ok (.iload_n 1, 1) := by decide +kernel
theorem dX10_buffer_5 : decode cX10_buffer 5 = .ok (.invokevirtual 66, 3) := by decide +kernel
theorem dX10_buffer_8 : decode cX10_buffer 8 = .ok (.ifCond .eq 13, 3) := by decide +kernel
theorem dX10_buffer_11 : decode cX10_buffer 11 = .ok (.iload_n 2, 1) := by decide +kernel
theorem dX10_buffer_12 : decode cX10_buffer 12 = .ok (.iconst 0, 1) := by decide +kernel
theorem dX10_buffer_13 : decode cX10_buffer 13 = .ok (.bipush 7, 2) := by decide +kernel
theorem dX10_buffer_15 : decode cX10_buffer 15 = .ok (.invokestatic 46, 3) := by decide +kernel
theorem dX10_buffer_18 : decode cX10_buffer 18 = .ok (.ifCond .ne 8, 3) := by decide +kernel
theorem dX10_buffer_21 : decode cX10_buffer 21 = .ok (.aload_n 0, 1) := by decide +kernel
theorem dX10_buffer_22 : decode cX10_buffer 22 = .ok (.invokevirtual 50, 3) := by decide +kernel
theorem dX10_buffer_25 : decode cX10_buffer 25 = .ok (.ireturn, 1) := by decide +kernel
theorem dX10_buffer_26 : decode cX10_buffer 26 = .ok (.aload_n 0, 1) := by decide +kernel
theorem dX10_buffer_27 : decode cX10_buffer 27 = .ok (.getfield 10, 3) := by decide +kernel
theorem dX10_buffer_30 : decode cX10_buffer 30 = .ok (.getfield 70, 3) := by decide +kernel
theorem dX10_buffer_33 : decode cX10_buffer 33 = .ok (.iload_n 1, 1) := by decide +kernel
theorem dX10_buffer_34 : decode cX10_buffer 34 = .ok (.aaload, 1) := by decide +kernel
theorem dX10_buffer_35 : decode cX10_buffer 35 = .ok (.iload_n 2, 1) := by decide +kernel
theorem dX10_buffer_36 : decode cX10_buffer 36 = .ok (.invokevirtual 197, 3) := by decide +kernel
theorem dX10_buffer_39 : decode cX10_buffer 39 = .ok (.ireturn, 1) := by decide +kernel
theorem dX10_item_0 : decode cX10_item 0 = .ok (.aload_n 0, 1) := by decide +kernel
theorem dX10_item_1 : decode cX10_item 1 = .ok (.getfield 10, 3) := by decide +kernel
theorem dX10_item_4 : decode cX10_item 4 = .ok (.iload_n 1, 1) := by decide +kernel
theorem dX10_item_5 : decode cX10_item 5 = .ok (.invokevirtual 66, 3) := by decide +kernel
theorem dX10_item_8 : decode cX10_item 8 = .ok (.ifCond .eq 7, 3) := by decide +kernel
theorem dX10_item_11 : decode cX10_item 11 = .ok (.iload_n 2, 1) := by decide +kernel
theorem dX10_item_12 : decode cX10_item 12 = .ok (.ifCond .ge 8, 3) := by decide +kernel
theorem dX10_item_15 : decode cX10_item 15 = .ok (.aload_n 0, 1) := by decide +kernel
theorem dX10_item_16 : decode cX10_item 16 = .ok (.invokevirtual 50, 3) := by decide +kernel
theorem dX10_item_19 : decode cX10_item 19 = .ok (.ireturn, 1) := by decide +kernel
theorem dX10_item_20 : decode cX10_item 20 = .ok (.aload_n 0, 1) := by decide +kernel
theorem dX10_item_21 : decode cX10_item 21 = .ok (.getfield 10, 3) := by decide +kernel
theorem dX10_item_24 : decode cX10_item 24 = .ok (.getfield 70, 3) := by decide +kernel
theorem dX10_item_27 : decode cX10_item 27 = .ok (.iload_n 1, 1) := by decide +kernel
theorem dX10_item_28 : decode cX10_item 28 = .ok (.aaload, 1) := by decide +kernel
theorem dX10_item_29 : decode cX10_item 29 = .ok (.getfield 114, 3) := by decide +kernel
theorem dX10_item_32 : decode cX10_item 32 = .ok (.iload_n 2, 1) := by decide +kernel
theorem dX10_item_33 : decode cX10_item 33 = .ok (.invokevirtual 191, 3) := by decide +kernel
theorem dX10_item_36 : decode cX10_item 36 = .ok (.ireturn, 1) := by decide +kernel
theorem dX10_of_0 : decode cX10_of 0 = .ok (.aload_n 0, 1) := by decide +kernel
theorem dX10_of_1 : decode cX10_of 1 = .ok (.getfield 10, 3) := by decide +kernel
theorem dX10_of_4 : decode cX10_of 4 = .ok (.iload_n 1, 1) := by decide +kernel
theorem dX10_of_5 : decode cX10_of 5 = .ok (.invokevirtual 101, 3) := by decide +kernel
theorem dX10_of_8 : decode cX10_of 8 = .ok (.ifCond .eq 13, 3) := by decide +kernel
theorem dX10_of_11 : decode cX10_of 11 = .ok (.iload_n 2, 1) := by decide +kernel
theorem dX10_of_12 : decode cX10_of 12 = .ok (.iconst 0, 1) := by decide +kernel
theorem dX10_of_13 : decode cX10_of 13 = .ok (.bipush 6, 2) := by decide +kernel
theorem dX10_of_15 : decode cX10_of 15 = .ok (.invokestatic 46, 3) := by decide +kernel
theorem dX10_of_18 : decode cX10_of 18 = .ok (.ifCond .ne 8, 3) := by decide +kernel
theorem dX10_of_21 : decode cX10_of 21 = .ok (.aload_n 0, 1) := by decide +kernel
theorem dX10_of_22 : decode cX10_of 22 = .ok (.invokevirtual 50, 3) := by decide +kernel
theorem dX10_of_25 : decode cX10_of 25 = .ok (.ireturn, 1) := by decide +kernel
theorem dX10_of_26 : decode cX10_of 26 = .ok (.aload_n 0, 1) := by decide +kernel
theorem dX10_of_27 : decode cX10_of 27 = .ok (.getfield 10, 3) := by decide +kernel
theorem dX10_of_30 : decode cX10_of 30 = .ok (.getfield 91, 3) := by decide +kernel
theorem dX10_of_33 : decode cX10_of 33 = .ok (.iload_n 1, 1) := by decide +kernel
theorem dX10_of_34 : decode cX10_of 34 = .ok (.aaload, 1) := by decide +kernel
theorem dX10_of_35 : decode cX10_of 35 = .ok (.iload_n 2, 1) := by decide +kernel
theorem dX10_of_36 : decode cX10_of 36 = .ok (.invokevirtual 200, 3) := by decide +kernel
theorem dX10_of_39 : decode cX10_of 39 = .ok (.ireturn, 1) := by decide +kernel
theorem dX10_worker_0 : decode cX10_worker 0 = .ok (.iload_n 1, 1) := by decide +kernel
theorem dX10_worker_1 : decode cX10_worker 1 = .ok (.invokestatic 135, 3) := by decide +kernel
theorem dX10_worker_4 : decode cX10_worker 4 = .ok (.ifCond .eq 12, 3) := by decide +kernel
theorem dX10_worker_7 : decode cX10_worker 7 = .ok (.iload_n 2, 1) := by decide +kernel
theorem dX10_worker_8 : decode cX10_worker 8 = .ok (.iconst 0, 1) := by decide +kernel
theorem dX10_worker_9 : decode cX10_worker 9 = .ok (.iconst 4, 1) := by decide +kernel
theorem dX10_worker_10 : decode cX10_worker 10 = .ok (.invokestatic 46, 3) := by decide +kernel
theorem dX10_worker_13 : decode cX10_worker 13 = .ok (.ifCond .ne 8, 3) := by decide +kernel
theorem dX10_worker_16 : decode cX10_worker 16 = .ok (.aload_n 0, 1) := by decide +kernel
theorem dX10_worker_17 : decode cX10_worker 17 = .ok (.invokevirtual 50, 3) := by decide +kernel
theorem dX10_worker_20 : decode cX10_worker 20 = .ok (.ireturn, 1) := by decide +kernel
theorem dX10_worker_21 : decode cX10_worker 21 = .ok (.aload_n 0, 1) := by decide +kernel
theorem dX10_worker_22 : decode cX10_worker 22 = .ok (.getfield 10, 3) := by decide +kernel
theorem dX10_worker_25 : decode cX10_worker 25 = .ok (.getfield 138, 3) := by decide +kernel
theorem dX10_worker_28 : decode cX10_worker 28 = .ok (.iload_n 1, 1) := by decide +kernel
theorem dX10_worker_29 : decode cX10_worker 29 = .ok (.aaload, 1) := by decide +kernel
theorem dX10_worker_30 : decode cX10_worker 30 = .ok (.iload_n 2, 1) := by decide +kernel
theorem dX10_worker_31 : decode cX10_worker 31 = .ok (.invokevirtual 203, 3) := by decide +kernel
theorem dX10_worker_34 : decode cX10_worker 34 = .ok (.ireturn, 1) := by decide +kernel
theorem dX10_line_0 : decode cX10_line 0 = .ok (.iload_n 1, 1) := by decide +kernel
theorem dX10_line_1 : decode cX10_line 1 = .ok (.ifCond .ge 8, 3) := by decide +kernel
theorem dX10_line_4 : decode cX10_line 4 = .ok (.aload_n 0, 1) := by decide +kernel
theorem dX10_line_5 : decode cX10_line 5 = .ok (.invokevirtual 50, 3) := by decide +kernel
theorem dX10_line_8 : decode cX10_line 8 = .ok (.ireturn, 1) := by decide +kernel
theorem dX10_line_9 : decode cX10_line 9 = .ok (.aload_n 0, 1) := by decide +kernel
theorem dX10_line_10 : decode cX10_line 10 = .ok (.getfield 10, 3) := by decide +kernel
theorem dX10_line_13 : decode cX10_line 13 = .ok (.getfield 158, 3) := by decide +kernel
theorem dX10_line_16 : decode cX10_line 16 = .ok (.iload_n 1, 1) := by decide +kernel
theorem dX10_line_17 : decode cX10_line 17 = .ok (.invokevirtual 191, 3) := by decide +kernel
theorem dX10_line_20 : decode cX10_line 20 = .ok (.ireturn, 1) := by decide +kernel
theorem dX10_works_0 : decode cX10_works 0 = .ok (.iload_n 1, 1) := by decide +kernel
theorem dX10_works_1 : decode cX10_works 1 = .ok (.iconst 0, 1) := by decide +kernel
theorem dX10_works_2 : decode cX10_works 2 = .ok (.bipush 9, 2) := by decide +kernel
theorem dX10_works_4 : decode cX10_works 4 = .ok (.invokestatic 46, 3) := by decide +kernel
theorem dX10_works_7 : decode cX10_works 7 = .ok (.ifCond .ne 8, 3) := by decide +kernel
theorem dX10_works_10 : decode cX10_works 10 = .ok (.aload_n 0, 1) := by decide +kernel
theorem dX10_works_11 : decode cX10_works 11 = .ok (.invokevirtual 50, 3) := by decide +kernel
theorem dX10_works_14 : decode cX10_works 14 = .ok (.ireturn, 1) := by decide +kernel
theorem dX10_works_15 : decode cX10_works 15 = .ok (.aload_n 0, 1) := by decide +kernel
theorem dX10_works_16 : decode cX10_works 16 = .ok (.getfield 10, 3) := by decide +kernel
theorem dX10_works_19 : decode cX10_works 19 = .ok (.iload_n 1, 1) := by decide +kernel
theorem dX10_works_20 : decode cX10_works 20 = .ok (.invokevirtual 206, 3) := by decide +kernel
theorem dX10_works_23 : decode cX10_works 23 = .ok (.ireturn, 1) := by decide +kernel
theorem dX10_type_0 : decode cX10_type 0 = .ok (.iload_n 1, 1) := by decide +kernel
theorem dX10_type_1 : decode cX10_type 1 = .ok (.iconst 0, 1) := by decide +kernel
theorem dX10_type_2 : decode cX10_type 2 = .ok (.bipush 127, 2) := by decide +kernel
theorem dX10_type_4 : decode cX10_type 4 = .ok (.invokestatic 46, 3) := by decide +kernel
theorem dX10_type_7 : decode cX10_type 7 = .ok (.ifCond .ne 8, 3) := by decide +kernel
theorem dX10_type_10 : decode cX10_type 10 = .ok (.aload_n 0, 1) := by decide +kernel
theorem dX10_type_11 : decode cX10_type 11 = .ok (.invokevirtual 50, 3) := by decide +kernel
theorem dX10_type_14 : decode cX10_type 14 = .ok (.ireturn, 1) := by decide +kernel
theorem dX10_type_15 : decode cX10_type 15 = .ok (.aload_n 0, 1) := by decide +kernel
theorem dX10_type_16 : decode cX10_type 16 = .ok (.getfield 26, 3) := by decide +kernel
theorem dX10_type_19 : decode cX10_type 19 = .ok (.invokevirtual 209, 3) := by decide +kernel
theorem dX10_type_22 : decode cX10_type 22 = .ok (.ifCond .eq 8, 3) := by decide +kernel
theorem dX10_type_25 : decode cX10_type 25 = .ok (.aload_n 0, 1) := by decide +kernel
theorem dX10_type_26 : decode cX10_type 26 = .ok (.invokevirtual 88, 3) := by decide +kernel
theorem dX10_type_29 : decode cX10_type 29 = .ok (.ireturn, 1) := by decide +kernel
theorem dX10_type_30 : decode cX10_type 30 = .ok (.aload_n 0, 1) := by decide +kernel
theorem dX10_type_31 : decode cX10_type 31 = .ok (.getfield 26, 3) := by decide +kernel
theorem dX10_type_34 : decode cX10_type 34 = .ok (.iload_n 1, 1) := by decide +kernel
theorem dX10_type_35 : decode cX10_type 35 = .ok (.invokevirtual 212, 3) := by decide +kernel
theorem dX10_type_38 : decode cX10_type 38 = .ok (.aload_n 0, 1) := by decide +kernel
theorem dX10_type_39 : decode cX10_type 39 = .ok (.getfield 26, 3) := by decide +kernel
theorem dX10_type_42 : decode cX10_type 42 = .ok (.getfield 215, 3) := by decide +kernel
theorem dX10_type_45 : decode cX10_type 45 = .ok (.ireturn, 1) := by decide +kernel
theorem dX10_clear_0 : decode cX10_clear 0 = .ok (.aload_n 0, 1) := by decide +kernel
theorem dX10_clear_1 : decode cX10_clear 1 = .ok (.getfield 26, 3) := by decide +kernel
theorem dX10_clear_4 : decode cX10_clear 4 = .ok (.getfield 215, 3) := by decide +kernel
theorem dX10_clear_7 : decode cX10_clear 7 = .ok (.istore_n 1, 1) := by decide +kernel
theorem dX10_clear_8 : decode cX10_clear 8 = .ok (.aload_n 0, 1) := by decide +kernel
theorem dX10_clear_9 : decode cX10_clear 9 = .ok (.getfield 26, 3) := by decide +kernel
theorem dX10_clear_12 : decode cX10_clear 12 = .ok (.iconst 0, 1) := by decide +kernel
theorem dX10_clear_13 : decode cX10_clear 13 = .ok (.putfield 215, 3) := by decide +kernel
theorem dX10_clear_16 : decode cX10_clear 16 = .ok (.iload_n 1, 1) := by decide +kernel
theorem dX10_clear_17 : decode cX10_clear 17 = .ok (.ireturn, 1) := by decide +kernel
theorem dX10_does_0 : decode cX10_does 0 = .ok (.aload_n 0, 1) := by decide +kernel
theorem dX10_does_1 : decode cX10_does 1 = .ok (.getfield 26, 3) := by decide +kernel
theorem dX10_does_4 : decode cX10_does 4 = .ok (.invokevirtual 218, 3) := by decide +kernel
theorem dX10_does_7 : decode cX10_does 7 = .ok (.istore_n 1, 1) := by decide +kernel
theorem dX10_does_8 : decode cX10_does 8 = .ok (.iload_n 1, 1) := by decide +kernel
theorem dX10_does_9 : decode cX10_does 9 = .ok (.iconst (-1), 1) := by decide +kernel
theorem dX10_does_10 : decode cX10_does 10 = .ok (.if_icmp .eq 8, 3) := by decide +kernel
theorem dX10_does_13 : decode cX10_does 13 = .ok (.bipush (-10), 2) := by decide +kernel
theorem dX10_does_15 : decode cX10_does 15 = .ok (.iload_n 1, 1) := by decide +kernel
theorem dX10_does_16 : decode cX10_does 16 = .ok (.isub, 1) := by decide +kernel
theorem dX10_does_17 : decode cX10_does 17 = .ok (.ireturn, 1) := by decide +kernel
theorem dX10_does_18 : decode cX10_does 18 = .ok (.aload_n 0, 1) := by decide +kernel
theorem dX10_does_19 : decode cX10_does 19 = .ok (.getfield 19, 3) := by decide +kernel
theorem dX10_does_22 : decode cX10_does 22 = .ok (.aload_n 0, 1) := by decide +kernel
theorem dX10_does_23 : decode cX10_does 23 = .ok (.getfield 10, 3) := by decide +kernel
theorem dX10_does_26 : decode cX10_does 26 = .ok (.invokevirtual 54, 3) := by decide +kernel
theorem dX10_does_29 : decode cX10_does 29 = .ok (.aload_n 0, 1) := by decide +kernel
theorem dX10_does_30 : decode cX10_does 30 = .ok (.getfield 35, 3) := by decide +kernel
theorem dX10_does_33 : decode cX10_does 33 = .ok (.invokevirtual 221, 3) := by decide +kernel
theorem dX10_does_36 : decode cX10_does 36 = .ok (.istore_n 2, 1) := by decide +kernel
theorem dX10_does_37 : decode cX10_does 37 = .ok (.aload_n 0, 1) := by decide +kernel
theorem dX10_does_38 : decode cX10_does 38 = .ok (.getfield 10, 3) := by decide +kernel
theorem dX10_does_41 : decode cX10_does 41 = .ok (.invokevirtual 79, 3) := by decide +kernel
theorem dX10_does_44 : decode cX10_does 44 = .ok (.iload_n 2, 1) := by decide +kernel
theorem dX10_does_45 : decode cX10_does 45 = .ok (.ireturn, 1) := by decide +kernel
theorem dX10_back_0 : decode cX10_back 0 = .ok (.aload_n 0, 1) := by decide +kernel
theorem dX10_back_1 : decode cX10_back 1 = .ok (.getfield 19, 3) := by decide +kernel
theorem dX10_back_4 : decode cX10_back 4 = .ok (.getfield 224, 3) := by decide +kernel
theorem dX10_back_7 : decode cX10_back 7 = .ok (.ifCond .ne 8, 3) := by decide +kernel
theorem dX10_back_10 : decode cX10_back 10 = .ok (.aload_n 0, 1) := by decide +kernel
theorem dX10_back_11 : decode cX10_back 11 = .ok (.invokevirtual 148, 3) := by decide +kernel
theorem dX10_back_14 : decode cX10_back 14 = .ok (.ireturn, 1) := by decide +kernel
theorem dX10_back_15 : decode cX10_back 15 = .ok (.aload_n 0, 1) := by decide +kernel
theorem dX10_back_16 : decode cX10_back 16 = .ok (.getfield 19, 3) := by decide +kernel
theorem dX10_back_19 : decode cX10_back 19 = .ok (.aload_n 0, 1) := by decide +kernel
theorem dX10_back_20 : decode cX10_back 20 = .ok (.getfield 10, 3) := by decide +kernel
theorem dX10_back_23 : decode cX10_back 23 = .ok (.invokevirtual 225, 3) := by decide +kernel
theorem dX10_back_26 : decode cX10_back 26 = .ok (.aload_n 0, 1) := by decide +kernel
theorem dX10_back_27 : decode cX10_back 27 = .ok (.getfield 19, 3) := by decide +kernel
theorem dX10_back_30 : decode cX10_back 30 = .ok (.getfield 224, 3) := by decide +kernel
theorem dX10_back_33 : decode cX10_back 33 = .ok (.ireturn, 1) := by decide +kernel
theorem dX10_told_0 : decode cX10_told 0 = .ok (.iload_n 1, 1) := by decide +kernel
theorem dX10_told_1 : decode cX10_told 1 = .ok (.iconst 0, 1) := by decide +kernel
theorem dX10_told_2 : decode cX10_told 2 = .ok (.iconst 4, 1) := by decide +kernel
theorem dX10_told_3 : decode cX10_told 3 = .ok (.invokestatic 46, 3) := by decide +kernel
theorem dX10_told_6 : decode cX10_told 6 = .ok (.ifCond .ne 8, 3) := by decide +kernel
theorem dX10_told_9 : decode cX10_told 9 = .ok (.aload_n 0, 1) := by decide +kernel
theorem dX10_told_10 : decode cX10_told 10 = .ok (.invokevirtual 50, 3) := by decide +kernel
theorem dX10_told_13 : decode cX10_told 13 = .ok (.ireturn, 1) := by decide +kernel
theorem dX10_told_14 : decode cX10_told 14 = .ok (.aload_n 0, 1) := by decide +kernel
theorem dX10_told_15 : decode cX10_told 15 = .ok (.iload_n 1, 1) := by decide +kernel
theorem dX10_told_16 : decode cX10_told 16 = .ok (.invokevirtual 226, 3) := by decide +kernel
theorem dX10_told_19 : decode cX10_told 19 = .ok (.ireturn, 1) := by decide +kernel
theorem dX10_digest_0 : decode cX10_digest 0 = .ok (.ldc2_w 229, 3) := by decide +kernel
theorem dX10_digest_3 : decode cX10_digest 3 = .ok (.lstore_n 1, 1) := by decide +kernel
theorem dX10_digest_4 : decode cX10_digest 4 = .ok (.iconst 0, 1) := by decide +kernel
theorem dX10_digest_5 : decode cX10_digest 5 = .ok (.istore_n 3, 1) := by decide +kernel
theorem dX10_digest_6 : decode cX10_digest 6 = .ok (.iload_n 3, 1) := by decide +kernel
theorem dX10_digest_7 : decode cX10_digest 7 = .ok (.iconst 5, 1) := by decide +kernel
theorem dX10_digest_8 : decode cX10_digest 8 = .ok (.if_icmp .ge 19, 3) := by decide +kernel
theorem dX10_digest_11 : decode cX10_digest 11 = .ok (.lload_n 1, 1) := by decide +kernel
theorem dX10_digest_12 : decode cX10_digest 12 = .ok (.aload_n 0, 1) := by decide +kernel
theorem dX10_digest_13 : decode cX10_digest 13 = .ok (.iload_n 3, 1) := by decide +kernel
theorem dX10_digest_14 : decode cX10_digest 14 = .ok (.invokevirtual 226, 3) := by decide +kernel
theorem dX10_digest_17 : decode cX10_digest 17 = .ok (.invokestatic 231, 3) := by decide +kernel
theorem dX10_digest_20 : decode cX10_digest 20 = .ok (.lstore_n 1, 1) := by decide +kernel
theorem dX10_digest_21 : decode cX10_digest 21 = .ok (.iinc 3 1, 3) := by decide +kernel
theorem dX10_digest_24 : decode cX10_digest 24 = .ok (.goto (-18), 3) := by decide +kernel
theorem dX10_digest_27 : decode cX10_digest 27 = .ok (.iconst 0, 1) := by decide +kernel
theorem dX10_digest_28 : decode cX10_digest 28 = .ok (.istore_n 3, 1) := by decide +kernel
theorem dX10_digest_29 : decode cX10_digest 29 = .ok (.iload_n 3, 1) := by decide +kernel
theorem dX10_digest_30 : decode cX10_digest 30 = .ok (.bipush 10, 2) := by decide +kernel
theorem dX10_digest_32 : decode cX10_digest 32 = .ok (.if_icmp .ge 22, 3) := by decide +kernel
theorem dX10_digest_35 : decode cX10_digest 35 = .ok (.lload_n 1, 1) := by decide +kernel
theorem dX10_digest_36 : decode cX10_digest 36 = .ok (.aload_n 0, 1) := by decide +kernel
theorem dX10_digest_37 : decode cX10_digest 37 = .ok (.getfield 10, 3) := by decide +kernel
theorem dX10_digest_40 : decode cX10_digest 40 = .ok (.iload_n 3, 1) := by decide +kernel
theorem dX10_digest_41 : decode cX10_digest 41 = .ok (.invokevirtual 206, 3) := by decide +kernel
theorem dX10_digest_44 : decode cX10_digest 44 = .ok (.invokestatic 231, 3) := by decide +kernel
theorem dX10_digest_47 : decode cX10_digest 47 = .ok (.lstore_n 1, 1) := by decide +kernel
theorem dX10_digest_48 : decode cX10_digest 48 = .ok (.iinc 3 1, 3) := by decide +kernel
theorem dX10_digest_51 : decode cX10_digest 51 = .ok (.goto (-22), 3) := by decide +kernel
theorem dX10_digest_54 : decode cX10_digest 54 = .ok (.iconst 0, 1) := by decide +kernel
theorem dX10_digest_55 : decode cX10_digest 55 = .ok (.istore_n 3, 1) := by decide +kernel
theorem dX10_digest_56 : decode cX10_digest 56 = .ok (.iload_n 3, 1) := by decide +kernel
theorem dX10_digest_57 : decode cX10_digest 57 = .ok (.aload_n 0, 1) := by decide +kernel
theorem dX10_digest_58 : decode cX10_digest 58 = .ok (.getfield 10, 3) := by decide +kernel
theorem dX10_digest_61 : decode cX10_digest 61 = .ok (.getfield 58, 3) := by decide +kernel
theorem dX10_digest_64 : decode cX10_digest 64 = .ok (.if_icmp .ge 23, 3) := by decide +kernel
theorem dX10_digest_67 : decode cX10_digest 67 = .ok (.lload_n 1, 1) := by decide +kernel
theorem dX10_digest_68 : decode cX10_digest 68 = .ok (.aload_n 0, 1) := by decide +kernel
theorem dX10_digest_69 : decode cX10_digest 69 = .ok (.getfield 10, 3) := by decide +kernel
theorem dX10_digest_72 : decode cX10_digest 72 = .ok (.getfield 70, 3) := by decide +kernel
theorem dX10_digest_75 : decode cX10_digest 75 = .ok (.iload_n 3, 1) := by decide +kernel
theorem dX10_digest_76 : decode cX10_digest 76 = .ok (.aaload, 1) := by decide +kernel
theorem dX10_digest_77 : decode cX10_digest 77 = .ok (.invokestatic 235, 3) := by decide +kernel
theorem dX10_digest_80 : decode cX10_digest 80 = .ok (.lstore_n 1, 1) := by decide +kernel
theorem dX10_digest_81 : decode cX10_digest 81 = .ok (.iinc 3 1, 3) := by decide +kernel
theorem dX10_digest_84 : decode cX10_digest 84 = .ok (.goto (-28), 3) := by decide +kernel
theorem dX10_digest_87 : decode cX10_digest 87 = .ok (.iconst 0, 1) := by decide +kernel
theorem dX10_digest_88 : decode cX10_digest 88 = .ok (.istore_n 3, 1) := by decide +kernel
theorem dX10_digest_89 : decode cX10_digest 89 = .ok (.iload_n 3, 1) := by decide +kernel
theorem dX10_digest_90 : decode cX10_digest 90 = .ok (.aload_n 0, 1) := by decide +kernel
theorem dX10_digest_91 : decode cX10_digest 91 = .ok (.getfield 10, 3) := by decide +kernel
theorem dX10_digest_94 : decode cX10_digest 94 = .ok (.getfield 85, 3) := by decide +kernel
theorem dX10_digest_97 : decode cX10_digest 97 = .ok (.if_icmp .ge 23, 3) := by decide +kernel
theorem dX10_digest_100 : decode cX10_digest 100 = .ok (.lload_n 1, 1) := by decide +kernel
theorem dX10_digest_101 : decode cX10_digest 101 = .ok (.aload_n 0, 1) := by decide +kernel
theorem dX10_digest_102 : decode cX10_digest 102 = .ok (.getfield 10, 3) := by decide +kernel
theorem dX10_digest_105 : decode cX10_digest 105 = .ok (.getfield 91, 3) := by decide +kernel
theorem dX10_digest_108 : decode cX10_digest 108 = .ok (.iload_n 3, 1) := by decide +kernel
theorem dX10_digest_109 : decode cX10_digest 109 = .ok (.aaload, 1) := by decide +kernel
theorem dX10_digest_110 : decode cX10_digest 110 = .ok (.invokestatic 239, 3) := by decide +kernel
theorem dX10_digest_113 : decode cX10_digest 113 = .ok (.lstore_n 1, 1) := by decide +kernel
theorem dX10_digest_114 : decode cX10_digest 114 = .ok (.iinc 3 1, 3) := by decide +kernel
theorem dX10_digest_117 : decode cX10_digest 117 = .ok (.goto (-28), 3) := by decide +kernel
theorem dX10_digest_120 : decode cX10_digest 120 = .ok (.iconst 0, 1) := by decide +kernel
theorem dX10_digest_121 : decode cX10_digest 121 = .ok (.istore_n 3, 1) := by decide +kernel
theorem dX10_digest_122 : decode cX10_digest 122 = .ok (.iload_n 3, 1) := by decide +kernel
theorem dX10_digest_123 : decode cX10_digest 123 = .ok (.bipush 6, 2) := by decide +kernel
theorem dX10_digest_125 : decode cX10_digest 125 = .ok (.if_icmp .ge 23, 3) := by decide +kernel
theorem dX10_digest_128 : decode cX10_digest 128 = .ok (.lload_n 1, 1) := by decide +kernel
theorem dX10_digest_129 : decode cX10_digest 129 = .ok (.aload_n 0, 1) := by decide +kernel
theorem dX10_digest_130 : decode cX10_digest 130 = .ok (.getfield 10, 3) := by decide +kernel
theorem dX10_digest_133 : decode cX10_digest 133 = .ok (.getfield 138, 3) := by decide +kernel
theorem dX10_digest_136 : decode cX10_digest 136 = .ok (.iload_n 3, 1) := by decide +kernel
theorem dX10_digest_137 : decode cX10_digest 137 = .ok (.aaload, 1) := by decide +kernel
theorem dX10_digest_138 : decode cX10_digest 138 = .ok (.invokestatic 243, 3) := by decide +kernel
theorem dX10_digest_141 : decode cX10_digest 141 = .ok (.lstore_n 1, 1) := by decide +kernel
theorem dX10_digest_142 : decode cX10_digest 142 = .ok (.iinc 3 1, 3) := by decide +kernel
theorem dX10_digest_145 : decode cX10_digest 145 = .ok (.goto (-23), 3) := by decide +kernel
theorem dX10_digest_148 : decode cX10_digest 148 = .ok (.lload_n 1, 1) := by decide +kernel
theorem dX10_digest_149 : decode cX10_digest 149 = .ok (.aload_n 0, 1) := by decide +kernel
theorem dX10_digest_150 : decode cX10_digest 150 = .ok (.getfield 10, 3) := by decide +kernel
theorem dX10_digest_153 : decode cX10_digest 153 = .ok (.getfield 158, 3) := by decide +kernel
theorem dX10_digest_156 : decode cX10_digest 156 = .ok (.invokestatic 247, 3) := by decide +kernel
theorem dX10_digest_159 : decode cX10_digest 159 = .ok (.lstore_n 1, 1) := by decide +kernel
theorem dX10_digest_160 : decode cX10_digest 160 = .ok (.lload_n 1, 1) := by decide +kernel
theorem dX10_digest_161 : decode cX10_digest 161 = .ok (.aload_n 0, 1) := by decide +kernel
theorem dX10_digest_162 : decode cX10_digest 162 = .ok (.getfield 10, 3) := by decide +kernel
theorem dX10_digest_165 : decode cX10_digest 165 = .ok (.invokevirtual 194, 3) := by decide +kernel
theorem dX10_digest_168 : decode cX10_digest 168 = .ok (.invokestatic 231, 3) := by decide +kernel
theorem dX10_digest_171 : decode cX10_digest 171 = .ok (.lreturn, 1) := by decide +kernel
theorem dX10_toldOf_0 : decode cX10_toldOf 0 = .ok (.iload_n 1, 1) := by decide +kernel
theorem dX10_toldOf_1 : decode cX10_toldOf 1 = .ok (.tableswitch 54 0 3 #[31, 36, 41, 46], 31) := by decide +kernel
theorem dX10_toldOf_32 : decode cX10_toldOf 32 = .ok (.aload_n 0, 1) := by decide +kernel
theorem dX10_toldOf_33 : decode cX10_toldOf 33 = .ok (.getfield 251, 3) := by decide +kernel
theorem dX10_toldOf_36 : decode cX10_toldOf 36 = .ok (.ireturn, 1) := by decide +kernel
theorem dX10_toldOf_37 : decode cX10_toldOf 37 = .ok (.aload_n 0, 1) := by decide +kernel
theorem dX10_toldOf_38 : decode cX10_toldOf 38 = .ok (.getfield 254, 3) := by decide +kernel
theorem dX10_toldOf_41 : decode cX10_toldOf 41 = .ok (.ireturn, 1) := by decide +kernel
theorem dX10_toldOf_42 : decode cX10_toldOf 42 = .ok (.aload_n 0, 1) := by decide +kernel
theorem dX10_toldOf_43 : decode cX10_toldOf 43 = .ok (.getfield 257, 3) := by decide +kernel
theorem dX10_toldOf_46 : decode cX10_toldOf 46 = .ok (.ireturn, 1) := by decide +kernel
theorem dX10_toldOf_47 : decode cX10_toldOf 47 = .ok (.aload_n 0, 1) := by decide +kernel
theorem dX10_toldOf_48 : decode cX10_toldOf 48 = .ok (.getfield 26, 3) := by decide +kernel
theorem dX10_toldOf_51 : decode cX10_toldOf 51 = .ok (.getfield 215, 3) := by decide +kernel
theorem dX10_toldOf_54 : decode cX10_toldOf 54 = .ok (.ireturn, 1) := by decide +kernel
theorem dX10_toldOf_55 : decode cX10_toldOf 55 = .ok (.aload_n 0, 1) := by decide +kernel
theorem dX10_toldOf_56 : decode cX10_toldOf 56 = .ok (.getfield 19, 3) := by decide +kernel
theorem dX10_toldOf_59 : decode cX10_toldOf 59 = .ok (.getfield 224, 3) := by decide +kernel
theorem dX10_toldOf_62 : decode cX10_toldOf 62 = .ok (.ireturn, 1) := by decide +kernel
theorem dX10_refuseBad_0 : decode cX10_refuseBad 0 = .ok (.aload_n 0, 1) := by decide +kernel
theorem dX10_refuseBad_1 : decode cX10_refuseBad 1 = .ok (.dup, 1) := by decide +kernel
theorem dX10_refuseBad_2 : decode cX10_refuseBad 2 = .ok (.getfield 251, 3) := by decide +kernel
theorem dX10_refuseBad_5 : decode cX10_refuseBad 5 = .ok (.iconst 1, 1) := by decide +kernel
theorem dX10_refuseBad_6 : decode cX10_refuseBad 6 = .ok (.iadd, 1) := by decide +kernel
theorem dX10_refuseBad_7 : decode cX10_refuseBad 7 = .ok (.putfield 251, 3) := by decide +kernel
theorem dX10_refuseBad_10 : decode cX10_refuseBad 10 = .ok (.bipush (-2), 2) := by decide +kernel
theorem dX10_refuseBad_12 : decode cX10_refuseBad 12 = .ok (.ireturn, 1) := by decide +kernel
theorem dX10_refuseNo_0 : decode cX10_refuseNo 0 = .ok (.aload_n 0, 1) := by decide +kernel
theorem dX10_refuseNo_1 : decode cX10_refuseNo 1 = .ok (.dup, 1) := by decide +kernel
theorem dX10_refuseNo_2 : decode cX10_refuseNo 2 = .ok (.getfield 254, 3) := by decide +kernel
theorem dX10_refuseNo_5 : decode cX10_refuseNo 5 = .ok (.iconst 1, 1) := by decide +kernel
theorem dX10_refuseNo_6 : decode cX10_refuseNo 6 = .ok (.iadd, 1) := by decide +kernel
theorem dX10_refuseNo_7 : decode cX10_refuseNo 7 = .ok (.putfield 254, 3) := by decide +kernel
theorem dX10_refuseNo_10 : decode cX10_refuseNo 10 = .ok (.bipush (-3), 2) := by decide +kernel
theorem dX10_refuseNo_12 : decode cX10_refuseNo 12 = .ok (.ireturn, 1) := by decide +kernel
theorem dX10_refuseFull_0 : decode cX10_refuseFull 0 = .ok (.aload_n 0, 1) := by decide +kernel
theorem dX10_refuseFull_1 : decode cX10_refuseFull 1 = .ok (.dup, 1) := by decide +kernel
theorem dX10_refuseFull_2 : decode cX10_refuseFull 2 = .ok (.getfield 257, 3) := by decide +kernel
theorem dX10_refuseFull_5 : decode cX10_refuseFull 5 = .ok (.iconst 1, 1) := by decide +kernel
theorem dX10_refuseFull_6 : decode cX10_refuseFull 6 = .ok (.iadd, 1) := by decide +kernel
theorem dX10_refuseFull_7 : decode cX10_refuseFull 7 = .ok (.putfield 257, 3) := by decide +kernel
theorem dX10_refuseFull_10 : decode cX10_refuseFull 10 = .ok (.bipush (-4), 2) := by decide +kernel
theorem dX10_refuseFull_12 : decode cX10_refuseFull 12 = .ok (.ireturn, 1) := by decide +kernel
theorem dX10_within_0 : decode cX10_within 0 = .ok (.iload_n 0, 1) := by decide +kernel
theorem dX10_within_1 : decode cX10_within 1 = .ok (.iload_n 1, 1) := by decide +kernel
theorem dX10_within_2 : decode cX10_within 2 = .ok (.if_icmp .lt 12, 3) := by decide +kernel
theorem dX10_within_5 : decode cX10_within 5 = .ok (.iload_n 0, 1) := by decide +kernel
theorem dX10_within_6 : decode cX10_within 6 = .ok (.iload_n 2, 1) := by decide +kernel
theorem dX10_within_7 : decode cX10_within 7 = .ok (.if_icmp .gt 7, 3) := by decide +kernel
theorem dX10_within_10 : decode cX10_within 10 = .ok (.iconst 1, 1) := by decide +kernel
theorem dX10_within_11 : decode cX10_within 11 = .ok (.goto 4, 3) := by decide +kernel
theorem dX10_within_14 : decode cX10_within 14 = .ok (.iconst 0, 1) := by decide +kernel
theorem dX10_within_15 : decode cX10_within 15 = .ok (.ireturn, 1) := by decide +kernel
theorem dX10_isWorker_0 : decode cX10_isWorker 0 = .ok (.iload_n 0, 1) := by decide +kernel
theorem dX10_isWorker_1 : decode cX10_isWorker 1 = .ok (.iconst 0, 1) := by decide +kernel
theorem dX10_isWorker_2 : decode cX10_isWorker 2 = .ok (.iconst 5, 1) := by decide +kernel
theorem dX10_isWorker_3 : decode cX10_isWorker 3 = .ok (.invokestatic 46, 3) := by decide +kernel
theorem dX10_isWorker_6 : decode cX10_isWorker 6 = .ok (.ireturn, 1) := by decide +kernel
theorem dX10_mixed_0 : decode cX10_mixed 0 = .ok (.ldc2_w 260, 3) := by decide +kernel
theorem dX10_mixed_3 : decode cX10_mixed 3 = .ok (.lload_n 0, 1) := by decide +kernel
theorem dX10_mixed_4 : decode cX10_mixed 4 = .ok (.lmul, 1) := by decide +kernel
theorem dX10_mixed_5 : decode cX10_mixed 5 = .ok (.iload_n 2, 1) := by decide +kernel
theorem dX10_mixed_6 : decode cX10_mixed 6 = .ok (.i2l, 1) := by decide +kernel
theorem dX10_mixed_7 : decode cX10_mixed 7 = .ok (.ladd, 1) := by decide +kernel
theorem dX10_mixed_8 : decode cX10_mixed 8 = .ok (.lreturn, 1) := by decide +kernel
theorem dX10_mixedRow_0 : decode cX10_mixedRow 0 = .ok (.lload_n 0, 1) := by decide +kernel
theorem dX10_mixedRow_1 : decode cX10_mixedRow 1 = .ok (.lstore_n 3, 1) := by decide +kernel
theorem dX10_mixedRow_2 : decode cX10_mixedRow 2 = .ok (.iconst 0, 1) := by decide +kernel
theorem dX10_mixedRow_3 : decode cX10_mixedRow 3 = .ok (.istore 5, 2) := by decide +kernel
theorem dX10_mixedRow_5 : decode cX10_mixedRow 5 = .ok (.iload 5, 2) := by decide +kernel
theorem dX10_mixedRow_7 : decode cX10_mixedRow 7 = .ok (.aload_n 2, 1) := by decide +kernel
theorem dX10_mixedRow_8 : decode cX10_mixedRow 8 = .ok (.getfield 118, 3) := by decide +kernel
theorem dX10_mixedRow_11 : decode cX10_mixedRow 11 = .ok (.if_icmp .ge 20, 3) := by decide +kernel
theorem dX10_mixedRow_14 : decode cX10_mixedRow 14 = .ok (.lload_n 3, 1) := by decide +kernel
theorem dX10_mixedRow_15 : decode cX10_mixedRow 15 = .ok (.aload_n 2, 1) := by decide +kernel
theorem dX10_mixedRow_16 : decode cX10_mixedRow 16 = .ok (.iload 5, 2) := by decide +kernel
theorem dX10_mixedRow_18 : decode cX10_mixedRow 18 = .ok (.invokevirtual 191, 3) := by decide +kernel
theorem dX10_mixedRow_21 : decode cX10_mixedRow 21 = .ok (.invokestatic 231, 3) := by decide +kernel
theorem dX10_mixedRow_24 : decode cX10_mixedRow 24 = .ok (.lstore_n 3, 1) := by decide +kernel
theorem dX10_mixedRow_25 : decode cX10_mixedRow 25 = .ok (.iinc 5 1, 3) := by decide +kernel
theorem dX10_mixedRow_28 : decode cX10_mixedRow 28 = .ok (.goto (-23), 3) := by decide +kernel
theorem dX10_mixedRow_31 : decode cX10_mixedRow 31 = .ok (.lload_n 3, 1) := by decide +kernel
theorem dX10_mixedRow_32 : decode cX10_mixedRow 32 = .ok (.lreturn, 1) := by decide +kernel
theorem dX10_mixedBuffer_0 : decode cX10_mixedBuffer 0 = .ok (.lload_n 0, 1) := by decide +kernel
theorem dX10_mixedBuffer_1 : decode cX10_mixedBuffer 1 = .ok (.lstore_n 3, 1) := by decide +kernel
theorem dX10_mixedBuffer_2 : decode cX10_mixedBuffer 2 = .ok (.iconst 0, 1) := by decide +kernel
theorem dX10_mixedBuffer_3 : decode cX10_mixedBuffer 3 = .ok (.istore 5, 2) := by decide +kernel
theorem dX10_mixedBuffer_5 : decode cX10_mixedBuffer 5 = .ok (.iload 5, 2) := by decide +kernel
theorem dX10_mixedBuffer_7 : decode cX10_mixedBuffer 7 = .ok (.bipush 8, 2) := by decide +kernel
theorem dX10_mixedBuffer_9 : decode cX10_mixedBuffer 9 = .ok (.if_icmp .ge 20, 3) := by decide +kernel
theorem dX10_mixedBuffer_12 : decode cX10_mixedBuffer 12 = .ok (.lload_n 3, 1) := by decide +kernel
theorem dX10_mixedBuffer_13 : decode cX10_mixedBuffer 13 = .ok (.aload_n 2, 1) := by decide +kernel
theorem dX10_mixedBuffer_14 : decode cX10_mixedBuffer 14 = .ok (.iload 5, 2) := by decide +kernel
theorem dX10_mixedBuffer_16 : decode cX10_mixedBuffer 16 = .ok (.invokevirtual 197, 3) := by decide +kernel
theorem dX10_mixedBuffer_19 : decode cX10_mixedBuffer 19 = .ok (.invokestatic 231, 3) := by decide +kernel
theorem dX10_mixedBuffer_22 : decode cX10_mixedBuffer 22 = .ok (.lstore_n 3, 1) := by decide +kernel
theorem dX10_mixedBuffer_23 : decode cX10_mixedBuffer 23 = .ok (.iinc 5 1, 3) := by decide +kernel
theorem dX10_mixedBuffer_26 : decode cX10_mixedBuffer 26 = .ok (.goto (-21), 3) := by decide +kernel
theorem dX10_mixedBuffer_29 : decode cX10_mixedBuffer 29 = .ok (.lload_n 3, 1) := by decide +kernel
theorem dX10_mixedBuffer_30 : decode cX10_mixedBuffer 30 = .ok (.aload_n 2, 1) := by decide +kernel
theorem dX10_mixedBuffer_31 : decode cX10_mixedBuffer 31 = .ok (.getfield 114, 3) := by decide +kernel
theorem dX10_mixedBuffer_34 : decode cX10_mixedBuffer 34 = .ok (.invokestatic 247, 3) := by decide +kernel
theorem dX10_mixedBuffer_37 : decode cX10_mixedBuffer 37 = .ok (.lstore_n 3, 1) := by decide +kernel
theorem dX10_mixedBuffer_38 : decode cX10_mixedBuffer 38 = .ok (.iconst 0, 1) := by decide +kernel
theorem dX10_mixedBuffer_39 : decode cX10_mixedBuffer 39 = .ok (.istore 5, 2) := by decide +kernel
theorem dX10_mixedBuffer_41 : decode cX10_mixedBuffer 41 = .ok (.iload 5, 2) := by decide +kernel
theorem dX10_mixedBuffer_43 : decode cX10_mixedBuffer 43 = .ok (.iconst 3, 1) := by decide +kernel
theorem dX10_mixedBuffer_44 : decode cX10_mixedBuffer 44 = .ok (.if_icmp .ge 20, 3) := by decide +kernel
theorem dX10_mixedBuffer_47 : decode cX10_mixedBuffer 47 = .ok (.lload_n 3, 1) := by decide +kernel
theorem dX10_mixedBuffer_48 : decode cX10_mixedBuffer 48 = .ok (.aload_n 2, 1) := by decide +kernel
theorem dX10_mixedBuffer_49 : decode cX10_mixedBuffer 49 = .ok (.iload 5, 2) := by decide +kernel
theorem dX10_mixedBuffer_51 : decode cX10_mixedBuffer 51 = .ok (.invokevirtual 188, 3) := by decide +kernel
theorem dX10_mixedBuffer_54 : decode cX10_mixedBuffer 54 = .ok (.invokestatic 231, 3) := by decide +kernel
theorem dX10_mixedBuffer_57 : decode cX10_mixedBuffer 57 = .ok (.lstore_n 3, 1) := by decide +kernel
theorem dX10_mixedBuffer_58 : decode cX10_mixedBuffer 58 = .ok (.iinc 5 1, 3) := by decide +kernel
theorem dX10_mixedBuffer_61 : decode cX10_mixedBuffer 61 = .ok (.goto (-20), 3) := by decide +kernel
theorem dX10_mixedBuffer_64 : decode cX10_mixedBuffer 64 = .ok (.lload_n 3, 1) := by decide +kernel
theorem dX10_mixedBuffer_65 : decode cX10_mixedBuffer 65 = .ok (.aload_n 2, 1) := by decide +kernel
theorem dX10_mixedBuffer_66 : decode cX10_mixedBuffer 66 = .ok (.getfield 185, 3) := by decide +kernel
theorem dX10_mixedBuffer_69 : decode cX10_mixedBuffer 69 = .ok (.invokestatic 247, 3) := by decide +kernel
theorem dX10_mixedBuffer_72 : decode cX10_mixedBuffer 72 = .ok (.lreturn, 1) := by decide +kernel
theorem dX10_mixedStation_0 : decode cX10_mixedStation 0 = .ok (.lload_n 0, 1) := by decide +kernel
theorem dX10_mixedStation_1 : decode cX10_mixedStation 1 = .ok (.lstore_n 3, 1) := by decide +kernel
theorem dX10_mixedStation_2 : decode cX10_mixedStation 2 = .ok (.iconst 0, 1) := by decide +kernel
theorem dX10_mixedStation_3 : decode cX10_mixedStation 3 = .ok (.istore 5, 2) := by decide +kernel
theorem dX10_mixedStation_5 : decode cX10_mixedStation 5 = .ok (.iload 5, 2) := by decide +kernel
theorem dX10_mixedStation_7 : decode cX10_mixedStation 7 = .ok (.bipush 7, 2) := by decide +kernel
theorem dX10_mixedStation_9 : decode cX10_mixedStation 9 = .ok (.if_icmp .ge 20, 3) := by decide +kernel
theorem dX10_mixedStation_12 : decode cX10_mixedStation 12 = .ok (.lload_n 3, 1) := by decide +kernel
theorem dX10_mixedStation_13 : decode cX10_mixedStation 13 = .ok (.aload_n 2, 1) := by decide +kernel
theorem dX10_mixedStation_14 : decode cX10_mixedStation 14 = .ok (.iload 5, 2) := by decide +kernel
theorem dX10_mixedStation_16 : decode cX10_mixedStation 16 = .ok (.invokevirtual 200, 3) := by decide +kernel
theorem dX10_mixedStation_19 : decode cX10_mixedStation 19 = .ok (.invokestatic 231, 3) := by decide +kernel
theorem dX10_mixedStation_22 : decode cX10_mixedStation 22 = .ok (.lstore_n 3, 1) := by decide +kernel
theorem dX10_mixedStation_23 : decode cX10_mixedStation 23 = .ok (.iinc 5 1, 3) := by decide +kernel
theorem dX10_mixedStation_26 : decode cX10_mixedStation 26 = .ok (.goto (-21), 3) := by decide +kernel
theorem dX10_mixedStation_29 : decode cX10_mixedStation 29 = .ok (.lload_n 3, 1) := by decide +kernel
theorem dX10_mixedStation_30 : decode cX10_mixedStation 30 = .ok (.lreturn, 1) := by decide +kernel
theorem dX10_mixedWorker_0 : decode cX10_mixedWorker 0 = .ok (.lload_n 0, 1) := by decide +kernel
theorem dX10_mixedWorker_1 : decode cX10_mixedWorker 1 = .ok (.lstore_n 3, 1) := by decide +kernel
theorem dX10_mixedWorker_2 : decode cX10_mixedWorker 2 = .ok (.iconst 0, 1) := by decide +kernel
theorem dX10_mixedWorker_3 : decode cX10_mixedWorker 3 = .ok (.istore 5, 2) := by decide +kernel
theorem dX10_mixedWorker_5 : decode cX10_mixedWorker 5 = .ok (.iload 5, 2) := by decide +kernel
theorem dX10_mixedWorker_7 : decode cX10_mixedWorker 7 = .ok (.iconst 5, 1) := by decide +kernel
theorem dX10_mixedWorker_8 : decode cX10_mixedWorker 8 = .ok (.if_icmp .ge 20, 3) := by decide +kernel
theorem dX10_mixedWorker_11 : decode cX10_mixedWorker 11 = .ok (.lload_n 3, 1) := by decide +kernel
theorem dX10_mixedWorker_12 : decode cX10_mixedWorker 12 = .ok (.aload_n 2, 1) := by decide +kernel
theorem dX10_mixedWorker_13 : decode cX10_mixedWorker 13 = .ok (.iload 5, 2) := by decide +kernel
theorem dX10_mixedWorker_15 : decode cX10_mixedWorker 15 = .ok (.invokevirtual 203, 3) := by decide +kernel
theorem dX10_mixedWorker_18 : decode cX10_mixedWorker 18 = .ok (.invokestatic 231, 3) := by decide +kernel
theorem dX10_mixedWorker_21 : decode cX10_mixedWorker 21 = .ok (.lstore_n 3, 1) := by decide +kernel
theorem dX10_mixedWorker_22 : decode cX10_mixedWorker 22 = .ok (.iinc 5 1, 3) := by decide +kernel
theorem dX10_mixedWorker_25 : decode cX10_mixedWorker 25 = .ok (.goto (-20), 3) := by decide +kernel
theorem dX10_mixedWorker_28 : decode cX10_mixedWorker 28 = .ok (.lload_n 3, 1) := by decide +kernel
theorem dX10_mixedWorker_29 : decode cX10_mixedWorker 29 = .ok (.lreturn, 1) := by decide +kernel
theorem dX11_init_0 : decode cX11_init 0 = .ok (.aload_n 0, 1) := by decide +kernel
theorem dX11_init_1 : decode cX11_init 1 = .ok (.invokespecial 1, 3) := by decide +kernel
theorem dX11_init_4 : decode cX11_init 4 = .ok (.aload_n 0, 1) := by decide +kernel
theorem dX11_init_5 : decode cX11_init 5 = .ok (.iconst 3, 1) := by decide +kernel
theorem dX11_init_6 : decode cX11_init 6 = .ok (.newarray .int, 2) := by decide +kernel
theorem dX11_init_8 : decode cX11_init 8 = .ok (.putfield 7, 3) := by decide +kernel
theorem dX11_init_11 : decode cX11_init 11 = .ok (.aload_n 0, 1) := by decide +kernel
theorem dX11_init_12 : decode cX11_init 12 = .ok (.sipush 320, 3) := by decide +kernel
theorem dX11_init_15 : decode cX11_init 15 = .ok (.newarray .int, 2) := by decide +kernel
theorem dX11_init_17 : decode cX11_init 17 = .ok (.putfield 13, 3) := by decide +kernel
theorem dX11_init_20 : decode cX11_init 20 = .ok (.aload_n 0, 1) := by decide +kernel
theorem dX11_init_21 : decode cX11_init 21 = .ok (.sipush 1920, 3) := by decide +kernel
theorem dX11_init_24 : decode cX11_init 24 = .ok (.newarray .int, 2) := by decide +kernel
theorem dX11_init_26 : decode cX11_init 26 = .ok (.putfield 16, 3) := by decide +kernel
theorem dX11_init_29 : decode cX11_init 29 = .ok (.aload_n 0, 1) := by decide +kernel
theorem dX11_init_30 : decode cX11_init 30 = .ok (.sipush 324, 3) := by decide +kernel
theorem dX11_init_33 : decode cX11_init 33 = .ok (.newarray .int, 2) := by decide +kernel
theorem dX11_init_35 : decode cX11_init 35 = .ok (.putfield 19, 3) := by decide +kernel
theorem dX11_init_38 : decode cX11_init 38 = .ok (.aload_n 0, 1) := by decide +kernel
theorem dX11_init_39 : decode cX11_init 39 = .ok (.bipush 120, 2) := by decide +kernel
theorem dX11_init_41 : decode cX11_init 41 = .ok (.newarray .int, 2) := by decide +kernel
theorem dX11_init_43 : decode cX11_init 43 = .ok (.putfield 22, 3) := by decide +kernel
theorem dX11_init_46 : decode cX11_init 46 = .ok (.aload_n 0, 1) := by decide +kernel
theorem dX11_init_47 : decode cX11_init 47 = .ok (.bipush 120, 2) := by decide +kernel
theorem dX11_init_49 : decode cX11_init 49 = .ok (.newarray .int, 2) := by decide +kernel
theorem dX11_init_51 : decode cX11_init 51 = .ok (.putfield 25, 3) := by decide +kernel
theorem dX11_init_54 : decode cX11_init 54 = .ok (.aload_n 0, 1) := by decide +kernel
theorem dX11_init_55 : decode cX11_init 55 = .ok (.bipush 120, 2) := by decide +kernel
theorem dX11_init_57 : decode cX11_init 57 = .ok (.newarray .int, 2) := by decide +kernel
theorem dX11_init_59 : decode cX11_init 59 = .ok (.putfield 28, 3) := by decide +kernel
theorem dX11_init_62 : decode cX11_init 62 = .ok (.aload_n 0, 1) := by decide +kernel
theorem dX11_init_63 : decode cX11_init 63 = .ok (.bipush 120, 2) := by decide +kernel
theorem dX11_init_65 : decode cX11_init 65 = .ok (.newarray .int, 2) := by decide +kernel
theorem dX11_init_67 : decode cX11_init 67 = .ok (.putfield 31, 3) := by decide +kernel
theorem dX11_init_70 : decode cX11_init 70 = .ok (.aload_n 0, 1) := by decide +kernel
theorem dX11_init_71 : decode cX11_init 71 = .ok (.bipush 120, 2) := by decide +kernel
theorem dX11_init_73 : decode cX11_init 73 = .ok (.newarray .int, 2) := by decide +kernel
theorem dX11_init_75 : decode cX11_init 75 = .ok (.putfield 34, 3) := by decide +kernel
theorem dX11_init_78 : decode cX11_init 78 = .ok (.aload_n 0, 1) := by decide +kernel
theorem dX11_init_79 : decode cX11_init 79 = .ok (.bipush 120, 2) := by decide +kernel
theorem dX11_init_81 : decode cX11_init 81 = .ok (.newarray .int, 2) := by decide +kernel
theorem dX11_init_83 : decode cX11_init 83 = .ok (.putfield 37, 3) := by decide +kernel
theorem dX11_init_86 : decode cX11_init 86 = .ok (.aload_n 0, 1) := by decide +kernel
theorem dX11_init_87 : decode cX11_init 87 = .ok (.iconst 5, 1) := by decide +kernel
theorem dX11_init_88 : decode cX11_init 88 = .ok (.newarray .int, 2) := by decide +kernel
theorem dX11_init_90 : decode cX11_init 90 = .ok (.putfield 40, 3) := by decide +kernel
theorem dX11_init_93 : decode cX11_init 93 = .ok (.aload_n 0, 1) := by decide +kernel
theorem dX11_init_94 : decode cX11_init 94 = .ok (.iconst 5, 1) := by decide +kernel
theorem dX11_init_95 : decode cX11_init 95 = .ok (.newarray .int, 2) := by decide +kernel
theorem dX11_init_97 : decode cX11_init 97 = .ok (.putfield 43, 3) := by decide +kernel
theorem dX11_init_100 : decode cX11_init 100 = .ok (.aload_n 0, 1) := by decide +kernel
theorem dX11_init_101 : decode cX11_init 101 = .ok (.iconst 3, 1) := by decide +kernel
theorem dX11_init_102 : decode cX11_init 102 = .ok (.invokevirtual 46, 3) := by decide +kernel
theorem dX11_init_105 : decode cX11_init 105 = .ok (.return_, 1) := by decide +kernel
theorem dX11_bad_0 : decode cX11_bad 0 = .ok (.aload_n 0, 1) := by decide +kernel
theorem dX11_bad_1 : decode cX11_bad 1 = .ok (.getfield 7, 3) := by decide +kernel
theorem dX11_bad_4 : decode cX11_bad 4 = .ok (.iconst 0, 1) := by decide +kernel
theorem dX11_bad_5 : decode cX11_bad 5 = .ok (.dup2, 1) := by decide +kernel
theorem dX11_bad_6 : decode cX11_bad 6 = .ok (.iaload, 1) := by decide +kernel
theorem dX11_bad_7 : decode cX11_bad 7 = .ok (.iconst 1, 1) := by decide +kernel
theorem dX11_bad_8 : decode cX11_bad 8 = .ok (.iadd, 1) := by decide +kernel
theorem dX11_bad_9 : decode cX11_bad 9 = .ok (.iastore, 1) := by decide +kernel
theorem dX11_bad_10 : decode cX11_bad 10 = .ok (.bipush (-2), 2) := by decide +kernel
theorem dX11_bad_12 : decode cX11_bad 12 = .ok (.ireturn, 1) := by decide +kernel
theorem dX11_no_0 : decode cX11_no 0 = .ok (.aload_n 0, 1) := by decide +kernel
theorem dX11_no_1 : decode cX11_no 1 = .ok (.getfield 7, 3) := by decide +kernel
theorem dX11_no_4 : decode cX11_no 4 = .ok (.iconst 1, 1) := by decide +kernel
theorem dX11_no_5 : decode cX11_no 5 = .ok (.dup2, 1) := by decide +kernel
theorem dX11_no_6 : decode cX11_no 6 = .ok (.iaload, 1) := by decide +kernel
theorem dX11_no_7 : decode cX11_no 7 = .ok (.iconst 1, 1) := by decide +kernel
theorem dX11_no_8 : decode cX11_no 8 = .ok (.iadd, 1) := by decide +kernel
theorem dX11_no_9 : decode cX11_no 9 = .ok (.iastore, 1) := by decide +kernel
theorem dX11_no_10 : decode cX11_no 10 = .ok (.bipush (-3), 2) := by decide +kernel
theorem dX11_no_12 : decode cX11_no 12 = .ok (.ireturn, 1) := by decide +kernel
theorem dX11_full_0 : decode cX11_full 0 = .ok (.aload_n 0, 1) := by decide +kernel
theorem dX11_full_1 : decode cX11_full 1 = .ok (.getfield 7, 3) := by decide +kernel
theorem dX11_full_4 : decode cX11_full 4 = .ok (.iconst 2, 1) := by decide +kernel
theorem dX11_full_5 : decode cX11_full 5 = .ok (.dup2, 1) := by decide +kernel
theorem dX11_full_6 : decode cX11_full 6 = .ok (.iaload, 1) := by decide +kernel
theorem dX11_full_7 : decode cX11_full 7 = .ok (.iconst 1, 1) := by decide +kernel
theorem dX11_full_8 : decode cX11_full 8 = .ok (.iadd, 1) := by decide +kernel
theorem dX11_full_9 : decode cX11_full 9 = .ok (.iastore, 1) := by decide +kernel
theorem dX11_full_10 : decode cX11_full 10 = .ok (.bipush (-4), 2) := by decide +kernel
theorem dX11_full_12 : decode cX11_full 12 = .ok (.ireturn, 1) := by decide +kernel
theorem dX11_in_0 : decode cX11_in 0 = .ok (.iload_n 0, 1) := by decide +kernel
theorem dX11_in_1 : decode cX11_in 1 = .ok (.iload_n 1, 1) := by decide +kernel
theorem dX11_in_2 : decode cX11_in 2 = .ok (.if_icmp .lt 12, 3) := by decide +kernel
theorem dX11_in_5 : decode cX11_in 5 = .ok (.iload_n 0, 1) := by decide +kernel
theorem dX11_in_6 : decode cX11_in 6 = .ok (.iload_n 2, 1) := by decide +kernel
theorem dX11_in_7 : decode cX11_in 7 = .ok (.if_icmp .gt 7, 3) := by decide +kernel
theorem dX11_in_10 : decode cX11_in 10 = .ok (.iconst 1, 1) := by decide +kernel
theorem dX11_in_11 : decode cX11_in 11 = .ok (.goto 4, 3) := by decide +kernel
theorem dX11_in_14 : decode cX11_in 14 = .ok (.iconst 0, 1) := by decide +kernel
theorem dX11_in_15 : decode cX11_in 15 = .ok (.ireturn, 1) := by decide +kernel
theorem dX11_atBuffer_0 : decode cX11_atBuffer 0 = .ok (.bipush 10, 2) := by decide +kernel
theorem dX11_atBuffer_2 : decode cX11_atBuffer 2 = .ok (.bipush 24, 2) := by decide +kernel
theorem dX11_atBuffer_4 : decode cX11_atBuffer 4 = .ok (.iload_n 0, 1) := by decide +kernel
theorem dX11_atBuffer_5 : decode cX11_atBuffer 5 = .ok (.imul, 1) := by decide +kernel
theorem dX11_atBuffer_6 : decode cX11_atBuffer 6 = .ok (.iadd, 1) := by decide +kernel
theorem dX11_atBuffer_7 : decode cX11_atBuffer 7 = .ok (.ireturn, 1) := by decide +kernel
theorem dX11_gate_0 : decode cX11_gate 0 = .ok (.sipush 160, 3) := by decide +kernel
theorem dX11_gate_3 : decode cX11_gate 3 = .ok (.iconst 4, 1) := by decide +kernel
theorem dX11_gate_4 : decode cX11_gate 4 = .ok (.iload_n 0, 1) := by decide +kernel
theorem dX11_gate_5 : decode cX11_gate 5 = .ok (.imul, 1) := by decide +kernel
theorem dX11_gate_6 : decode cX11_gate 6 = .ok (.iadd, 1) := by decide +kernel
theorem dX11_gate_7 : decode cX11_gate 7 = .ok (.ireturn, 1) := by decide +kernel
theorem dX11_stationAt_0 : decode cX11_stationAt 0 = .ok (.sipush 190, 3) := by decide +kernel
theorem dX11_stationAt_3 : decode cX11_stationAt 3 = .ok (.bipush 12, 2) := by decide +kernel
theorem dX11_stationAt_5 : decode cX11_stationAt 5 = .ok (.iload_n 0, 1) := by decide +kernel
theorem dX11_stationAt_6 : decode cX11_stationAt 6 = .ok (.imul, 1) := by decide +kernel
theorem dX11_stationAt_7 : decode cX11_stationAt 7 = .ok (.iadd, 1) := by decide +kernel
theorem dX11_stationAt_8 : decode cX11_stationAt 8 = .ok (.ireturn, 1) := by decide +kernel
theorem dX11_workerAt_0 : decode cX11_workerAt 0 = .ok (.sipush 270, 3) := by decide +kernel
theorem dX11_workerAt_3 : decode cX11_workerAt 3 = .ok (.iconst 5, 1) := by decide +kernel
theorem dX11_workerAt_4 : decode cX11_workerAt 4 = .ok (.iload_n 0, 1) := by decide +kernel
theorem dX11_workerAt_5 : decode cX11_workerAt 5 = .ok (.imul, 1) := by decide +kernel
theorem dX11_workerAt_6 : decode cX11_workerAt 6 = .ok (.iadd, 1) := by decide +kernel
theorem dX11_workerAt_7 : decode cX11_workerAt 7 = .ok (.ireturn, 1) := by decide +kernel
theorem dX11_isBuffer_0 : decode cX11_isBuffer 0 = .ok (.iload_n 1, 1) := by decide +kernel
theorem dX11_isBuffer_1 : decode cX11_isBuffer 1 = .ok (.iconst 0, 1) := by decide +kernel
theorem dX11_isBuffer_2 : decode cX11_isBuffer 2 = .ok (.aload_n 0, 1) := by decide +kernel
theorem dX11_isBuffer_3 : decode cX11_isBuffer 3 = .ok (.getfield 13, 3) := by decide +kernel
theorem dX11_isBuffer_6 : decode cX11_isBuffer 6 = .ok (.iconst 0, 1) := by decide +kernel
theorem dX11_isBuffer_7 : decode cX11_isBuffer 7 = .ok (.iaload, 1) := by decide +kernel
theorem dX11_isBuffer_8 : decode cX11_isBuffer 8 = .ok (.iconst 1, 1) := by decide +kernel
theorem dX11_isBuffer_9 : decode cX11_isBuffer 9 = .ok (.isub, 1) := by decide +kernel
theorem dX11_isBuffer_10 : decode cX11_isBuffer 10 = .ok (.invokestatic 50, 3) := by decide +kernel
theorem dX11_isBuffer_13 : decode cX11_isBuffer 13 = .ok (.ireturn, 1) := by decide +kernel
theorem dX11_isWorker_0 : decode cX11_isWorker 0 = .ok (.iload_n 0, 1) := by decide +kernel
theorem dX11_isWorker_1 : decode cX11_isWorker 1 = .ok (.iconst 0, 1) := by decide +kernel
theorem dX11_isWorker_2 : decode cX11_isWorker 2 = .ok (.iconst 5, 1) := by decide +kernel
theorem dX11_isWorker_3 : decode cX11_isWorker 3 = .ok (.invokestatic 50, 3) := by decide +kernel
theorem dX11_isWorker_6 : decode cX11_isWorker 6 = .ok (.ireturn, 1) := by decide +kernel
theorem dX11_lays_0 : decode cX11_lays 0 = .ok (.iconst 0, 1) := by decide +kernel
theorem dX11_lays_1 : decode cX11_lays 1 = .ok (.istore_n 2, 1) := by decide +kernel
theorem dX11_lays_2 : decode cX11_lays 2 = .ok (.iload_n 2, 1) := by decide +kernel
theorem dX11_lays_3 : decode cX11_lays 3 = .ok (.sipush 320, 3) := by decide +kernel
theorem dX11_lays_6 : decode cX11_lays 6 = .ok (.if_icmp .ge 16, 3) := by decide +kernel
theorem dX11_lays_9 : decode cX11_lays 9 = .ok (.aload_n 0, 1) := by decide +kernel
theorem dX11_lays_10 : decode cX11_lays 10 = .ok (.getfield 13, 3) := by decide +kernel
theorem dX11_lays_13 : decode cX11_lays 13 = .ok (.iload_n 2, 1) := by decide +kernel
theorem dX11_lays_14 : decode cX11_lays 14 = .ok (.iconst 0, 1) := by decide +kernel
theorem dX11_lays_15 : decode cX11_lays 15 = .ok (.iastore, 1) := by decide +kernel
theorem dX11_lays_16 : decode cX11_lays 16 = .ok (.iinc 2 1, 3) := by decide +kernel
theorem dX11_lays_19 : decode cX11_lays 19 = .ok (.goto (-17), 3) := by decide +kernel
theorem dX11_lays_22 : decode cX11_lays 22 = .ok (.aload_n 0, 1) := by decide +kernel
theorem dX11_lays_23 : decode cX11_lays 23 = .ok (.getfield 13, 3) := by decide +kernel
theorem dX11_lays_26 : decode cX11_lays 26 = .ok (.iconst 0, 1) := by decide +kernel
theorem dX11_lays_27 : decode cX11_lays 27 = .ok (.iload_n 1, 1) := by decide +kernel
theorem dX11_lays_28 : decode cX11_lays 28 = .ok (.iastore, 1) := by decide +kernel
theorem dX11_lays_29 : decode cX11_lays 29 = .ok (.iconst 0, 1) := by decide +kernel
theorem dX11_lays_30 : decode cX11_lays 30 = .ok (.istore_n 2, 1) := by decide +kernel
theorem dX11_lays_31 : decode cX11_lays 31 = .ok (.iload_n 2, 1) := by decide +kernel
theorem dX11_lays_32 : decode cX11_lays 32 = .ok (.bipush 6, 2) := by decide +kernel
theorem dX11_lays_34 : decode cX11_lays 34 = .ok (.if_icmp .ge 33, 3) := by decide +kernel
theorem dX11_lays_37 : decode cX11_lays 37 = .ok (.aload_n 0, 1) := by decide +kernel
theorem dX11_lays_38 : decode cX11_lays 38 = .ok (.getfield 13, 3) := by decide +kernel
theorem dX11_lays_41 : decode cX11_lays 41 = .ok (.iload_n 2, 1) := by decide +kernel
theorem dX11_lays_42 : decode cX11_lays 42 = .ok (.invokestatic 54, 3) := by decide +kernel
theorem dX11_lays_45 : decode cX11_lays 45 = .ok (.iconst 1, 1) := by decide +kernel
theorem dX11_lays_46 : decode cX11_lays 46 = .ok (.iadd, 1) := by decide +kernel
theorem dX11_lays_47 : decode cX11_lays 47 = .ok (.iconst 2, 1) := by decide +kernel
theorem dX11_lays_48 : decode cX11_lays 48 = .ok (.iastore, 1) := by decide +kernel
theorem dX11_lays_49 : decode cX11_lays 49 = .ok (.aload_n 0, 1) := by decide +kernel
theorem dX11_lays_50 : decode cX11_lays 50 = .ok (.getfield 13, 3) := by decide +kernel
theorem dX11_lays_53 : decode cX11_lays 53 = .ok (.iload_n 2, 1) := by decide +kernel
theorem dX11_lays_54 : decode cX11_lays 54 = .ok (.invokestatic 54, 3) := by decide +kernel
theorem dX11_lays_57 : decode cX11_lays 57 = .ok (.iconst 5, 1) := by decide +kernel
theorem dX11_lays_58 : decode cX11_lays 58 = .ok (.iadd, 1) := by decide +kernel
theorem dX11_lays_59 : decode cX11_lays 59 = .ok (.iconst (-1), 1) := by decide +kernel
theorem dX11_lays_60 : decode cX11_lays 60 = .ok (.iastore, 1) := by decide +kernel
theorem dX11_lays_61 : decode cX11_lays 61 = .ok (.iinc 2 1, 3) := by decide +kernel
theorem dX11_lays_64 : decode cX11_lays 64 = .ok (.goto (-33), 3) := by decide +kernel
theorem dX11_lays_67 : decode cX11_lays 67 = .ok (.iconst 0, 1) := by decide +kernel
theorem dX11_lays_68 : decode cX11_lays 68 = .ok (.istore_n 2, 1) := by decide +kernel
theorem dX11_lays_69 : decode cX11_lays 69 = .ok (.iload_n 2, 1) := by decide +kernel
theorem dX11_lays_70 : decode cX11_lays 70 = .ok (.bipush 6, 2) := by decide +kernel
theorem dX11_lays_72 : decode cX11_lays 72 = .ok (.if_icmp .ge 57, 3) := by decide +kernel
theorem dX11_lays_75 : decode cX11_lays 75 = .ok (.aload_n 0, 1) := by decide +kernel
theorem dX11_lays_76 : decode cX11_lays 76 = .ok (.getfield 13, 3) := by decide +kernel
theorem dX11_lays_79 : decode cX11_lays 79 = .ok (.iload_n 2, 1) := by decide +kernel
theorem dX11_lays_80 : decode cX11_lays 80 = .ok (.invokestatic 58, 3) := by decide +kernel
theorem dX11_lays_83 : decode cX11_lays 83 = .ok (.iconst 1, 1) := by decide +kernel
theorem dX11_lays_84 : decode cX11_lays 84 = .ok (.iadd, 1) := by decide +kernel
theorem dX11_lays_85 : decode cX11_lays 85 = .ok (.iconst (-1), 1) := by decide +kernel
theorem dX11_lays_86 : decode cX11_lays 86 = .ok (.iastore, 1) := by decide +kernel
theorem dX11_lays_87 : decode cX11_lays 87 = .ok (.aload_n 0, 1) := by decide +kernel
theorem dX11_lays_88 : decode cX11_lays 88 = .ok (.getfield 13, 3) := by decide +kernel
theorem dX11_lays_91 : decode cX11_lays 91 = .ok (.iload_n 2, 1) := by decide +kernel
theorem dX11_lays_92 : decode cX11_lays 92 = .ok (.invokestatic 58, 3) := by decide +kernel
theorem dX11_lays_95 : decode cX11_lays 95 = .ok (.iconst 2, 1) := by decide +kernel
theorem dX11_lays_96 : decode cX11_lays 96 = .ok (.iadd, 1) := by decide +kernel
theorem dX11_lays_97 : decode cX11_lays 97 = .ok (.iconst (-1), 1) := by decide +kernel
theorem dX11_lays_98 : decode cX11_lays 98 = .ok (.iastore, 1) := by decide +kernel
theorem dX11_lays_99 : decode cX11_lays 99 = .ok (.aload_n 0, 1) := by decide +kernel
theorem dX11_lays_100 : decode cX11_lays 100 = .ok (.getfield 13, 3) := by decide +kernel
theorem dX11_lays_103 : decode cX11_lays 103 = .ok (.iload_n 2, 1) := by decide +kernel
theorem dX11_lays_104 : decode cX11_lays 104 = .ok (.invokestatic 58, 3) := by decide +kernel
theorem dX11_lays_107 : decode cX11_lays 107 = .ok (.iconst 3, 1) := by decide +kernel
theorem dX11_lays_108 : decode cX11_lays 108 = .ok (.iadd, 1) := by decide +kernel
theorem dX11_lays_109 : decode cX11_lays 109 = .ok (.iconst (-1), 1) := by decide +kernel
theorem dX11_lays_110 : decode cX11_lays 110 = .ok (.iastore, 1) := by decide +kernel
theorem dX11_lays_111 : decode cX11_lays 111 = .ok (.aload_n 0, 1) := by decide +kernel
theorem dX11_lays_112 : decode cX11_lays 112 = .ok (.getfield 13, 3) := by decide +kernel
theorem dX11_lays_115 : decode cX11_lays 115 = .ok (.iload_n 2, 1) := by decide +kernel
theorem dX11_lays_116 : decode cX11_lays 116 = .ok (.invokestatic 58, 3) := by decide +kernel
theorem dX11_lays_119 : decode cX11_lays 119 = .ok (.iconst 4, 1) := by decide +kernel
theorem dX11_lays_120 : decode cX11_lays 120 = .ok (.iadd, 1) := by decide +kernel
theorem dX11_lays_121 : decode cX11_lays 121 = .ok (.iconst (-1), 1) := by decide +kernel
theorem dX11_lays_122 : decode cX11_lays 122 = .ok (.iastore, 1) := by decide +kernel
theorem dX11_lays_123 : decode cX11_lays 123 = .ok (.iinc 2 1, 3) := by decide +kernel
theorem dX11_lays_126 : decode cX11_lays 126 = .ok (.goto (-57), 3) := by decide +kernel
theorem dX11_lays_129 : decode cX11_lays 129 = .ok (.return_, 1) := by decide +kernel
theorem dX11_leavesState_0 : decode cX11_leavesState 0 = .ok (.aload_n 0, 1) := by decide +kernel
theorem dX11_leavesState_1 : decode cX11_leavesState 1 = .ok (.getfield 61, 3) := by decide +kernel
theorem dX11_leavesState_4 : decode cX11_leavesState 4 = .ok (.bipush 6, 2) := by decide +kernel
theorem dX11_leavesState_6 : decode cX11_leavesState 6 = .ok (.if_icmp .ne 44, 3) := by decide +kernel
theorem dX11_leavesState_9 : decode cX11_leavesState 9 = .ok (.iconst 0, 1) := by decide +kernel
theorem dX11_leavesState_10 : decode cX11_leavesState 10 = .ok (.istore_n 1, 1) := by decide +kernel
theorem dX11_leavesState_11 : decode cX11_leavesState 11 = .ok (.iload_n 1, 1) := by decide +kernel
theorem dX11_leavesState_12 : decode cX11_leavesState 12 = .ok (.sipush 1600, 3) := by decide +kernel
theorem dX11_leavesState_15 : decode cX11_leavesState 15 = .ok (.if_icmp .ge 25, 3) := by decide +kernel
theorem dX11_leavesState_18 : decode cX11_leavesState 18 = .ok (.aload_n 0, 1) := by decide +kernel
theorem dX11_leavesState_19 : decode cX11_leavesState 19 = .ok (.getfield 16, 3) := by decide +kernel
theorem dX11_leavesState_22 : decode cX11_leavesState 22 = .ok (.iload_n 1, 1) := by decide +kernel
theorem dX11_leavesState_23 : decode cX11_leavesState 23 = .ok (.aload_n 0, 1) := by decide +kernel
theorem dX11_leavesState_24 : decode cX11_leavesState 24 = .ok (.getfield 16, 3) := by decide +kernel
theorem dX11_leavesState_27 : decode cX11_leavesState 27 = .ok (.iload_n 1, 1) := by decide +kernel
theorem dX11_leavesState_28 : decode cX11_leavesState 28 = .ok (.sipush 320, 3) := by decide +kernel
theorem dX11_leavesState_31 : decode cX11_leavesState 31 = .ok (.iadd, 1) := by decide +kernel
theorem dX11_leavesState_32 : decode cX11_leavesState 32 = .ok (.iaload, 1) := by decide +kernel
theorem dX11_leavesState_33 : decode cX11_leavesState 33 = .ok (.iastore, 1) := by decide +kernel
theorem dX11_leavesState_34 : decode cX11_leavesState 34 = .ok (.iinc 1 1, 3) := by decide +kernel
theorem dX11_leavesState_37 : decode cX11_leavesState 37 = .ok (.goto (-26), 3) := by decide +kernel
theorem dX11_leavesState_40 : decode cX11_leavesState 40 = .ok (.aload_n 0, 1) := by decide +kernel
theorem dX11_leavesState_41 : decode cX11_leavesState 41 = .ok (.dup, 1) := by decide +kernel
theorem dX11_leavesState_42 : decode cX11_leavesState 42 = .ok (.getfield 61, 3) := by decide +kernel
theorem dX11_leavesState_45 : decode cX11_leavesState 45 = .ok (.iconst 1, 1) := by decide +kernel
theorem dX11_leavesState_46 : decode cX11_leavesState 46 = .ok (.isub, 1) := by decide +kernel
theorem dX11_leavesState_47 : decode cX11_leavesState 47 = .ok (.putfield 61, 3) := by decide +kernel
theorem dX11_leavesState_50 : decode cX11_leavesState 50 = .ok (.iconst 0, 1) := by decide +kernel
theorem dX11_leavesState_51 : decode cX11_leavesState 51 = .ok (.istore_n 1, 1) := by decide +kernel
theorem dX11_leavesState_52 : decode cX11_leavesState 52 = .ok (.iload_n 1, 1) := by decide +kernel
theorem dX11_leavesState_53 : decode cX11_leavesState 53 = .ok (.sipush 320, 3) := by decide +kernel
theorem dX11_leavesState_56 : decode cX11_leavesState 56 = .ok (.if_icmp .ge 30, 3) := by decide +kernel
theorem dX11_leavesState_59 : decode cX11_leavesState 59 = .ok (.aload_n 0, 1) := by decide +kernel
theorem dX11_leavesState_60 : decode cX11_leavesState 60 = .ok (.getfield 16, 3) := by decide +kernel
theorem dX11_leavesState_63 : decode cX11_leavesState 63 = .ok (.sipush 320, 3) := by decide +kernel
theorem dX11_leavesState_66 : decode cX11_leavesState 66 = .ok (.aload_n 0, 1) := by decide +kernel
theorem dX11_leavesState_67 : decode cX11_leavesState 67 = .ok (.getfield 61, 3) := by decide +kernel
theorem dX11_leavesState_70 : decode cX11_leavesState 70 = .ok (.imul, 1) := by decide +kernel
theorem dX11_leavesState_71 : decode cX11_leavesState 71 = .ok (.iload_n 1, 1) := by decide +kernel
theorem dX11_leavesState_72 : decode cX11_leavesState 72 = .ok (.iadd, 1) := by decide +kernel
theorem dX11_leavesState_73 : decode cX11_leavesState 73 = .ok (.aload_n 0, 1) := by decide +kernel
theorem dX11_leavesState_74 : decode cX11_leavesState 74 = .ok (.getfield 13, 3) := by decide +kernel
theorem dX11_leavesState_77 : decode cX11_leavesState 77 = .ok (.iload_n 1, 1) := by decide +kernel
theorem dX11_leavesState_78 : decode cX11_leavesState 78 = .ok (.iaload, 1) := by decide +kernel
theorem dX11_leavesState_79 : decode cX11_leavesState 79 = .ok (.iastore, 1) := by decide +kernel
theorem dX11_leavesState_80 : decode cX11_leavesState 80 = .ok (.iinc 1 1, 3) := by decide +kernel
theorem dX11_leavesState_83 : decode cX11_leavesState 83 = .ok (.goto (-31), 3) := by decide +kernel
theorem dX11_leavesState_86 : decode cX11_leavesState 86 = .ok (.aload_n 0, 1) := by decide +kernel
theorem dX11_leavesState_87 : decode cX11_leavesState 87 = .ok (.dup, 1) := by decide +kernel
theorem dX11_leavesState_88 : decode cX11_leavesState 88 = .ok (.getfield 61, 3) := by decide +kernel
theorem dX11_leavesState_91 : decode cX11_leavesState 91 = .ok (.iconst 1, 1) := by decide +kernel
theorem dX11_leavesState_92 : decode cX11_leavesState 92 = .ok (.iadd, 1) := by decide +kernel
theorem dX11_leavesState_93 : decode cX11_leavesState 93 = .ok (.putfield 61, 3) := by decide +kernel
theorem dX11_leavesState_96 : decode cX11_leavesState 96 = .ok (.return_, 1) := by decide +kernel
theorem dX11_back_0 : decode cX11_back 0 = .ok (.aload_n 0, 1) := by decide +kernel
theorem dX11_back_1 : decode cX11_back 1 = .ok (.getfield 61, 3) := by decide +kernel
theorem dX11_back_4 : decode cX11_back 4 = .ok (.ifCond .ne 8, 3) := by decide +kernel
theorem dX11_back_7 : decode cX11_back 7 = .ok (.aload_n 0, 1) := by decide +kernel
theorem dX11_back_8 : decode cX11_back 8 = .ok (.invokevirtual 65, 3) := by decide +kernel
theorem dX11_back_11 : decode cX11_back 11 = .ok (.ireturn, 1) := by decide +kernel
theorem dX11_back_12 : decode cX11_back 12 = .ok (.aload_n 0, 1) := by decide +kernel
theorem dX11_back_13 : decode cX11_back 13 = .ok (.dup, 1) := by decide +kernel
theorem dX11_back_14 : decode cX11_back 14 = .ok (.getfield 61, 3) := by decide +kernel
theorem dX11_back_17 : decode cX11_back 17 = .ok (.iconst 1, 1) := by decide +kernel
theorem dX11_back_18 : decode cX11_back 18 = .ok (.isub, 1) := by decide +kernel
theorem dX11_back_19 : decode cX11_back 19 = .ok (.putfield 61, 3) := by decide +kernel
theorem dX11_back_22 : decode cX11_back 22 = .ok (.iconst 0, 1) := by decide +kernel
theorem dX11_back_23 : decode cX11_back 23 = .ok (.istore_n 1, 1) := by decide +kernel
theorem dX11_back_24 : decode cX11_back 24 = .ok (.iload_n 1, 1) := by decide +kernel
theorem dX11_back_25 : decode cX11_back 25 = .ok (.sipush 320, 3) := by decide +kernel
theorem dX11_back_28 : decode cX11_back 28 = .ok (.if_icmp .ge 30, 3) := by decide +kernel
theorem dX11_back_31 : decode cX11_back 31 = .ok (.aload_n 0, 1) := by decide +kernel
theorem dX11_back_32 : decode cX11_back 32 = .ok (.getfield 13, 3) := by decide +kernel
theorem dX11_back_35 : decode cX11_back 35 = .ok (.iload_n 1, 1) := by decide +kernel
theorem dX11_back_36 : decode cX11_back 36 = .ok (.aload_n 0, 1) := by decide +kernel
theorem dX11_back_37 : decode cX11_back 37 = .ok (.getfield 16, 3) := by decide +kernel
theorem dX11_back_40 : decode cX11_back 40 = .ok (.sipush 320, 3) := by decide +kernel
theorem dX11_back_43 : decode cX11_back 43 = .ok (.aload_n 0, 1) := by decide +kernel
theorem dX11_back_44 : decode cX11_back 44 = .ok (.getfield 61, 3) := by decide +kernel
theorem dX11_back_47 : decode cX11_back 47 = .ok (.imul, 1) := by decide +kernel
theorem dX11_back_48 : decode cX11_back 48 = .ok (.iload_n 1, 1) := by decide +kernel
theorem dX11_back_49 : decode cX11_back 49 = .ok (.iadd, 1) := by decide +kernel
theorem dX11_back_50 : decode cX11_back 50 = .ok (.iaload, 1) := by decide +kernel
theorem dX11_back_51 : decode cX11_back 51 = .ok (.iastore, 1) := by decide +kernel
theorem dX11_back_52 : decode cX11_back 52 = .ok (.iinc 1 1, 3) := by decide +kernel
theorem dX11_back_55 : decode cX11_back 55 = .ok (.goto (-31), 3) := by decide +kernel
theorem dX11_back_58 : decode cX11_back 58 = .ok (.aload_n 0, 1) := by decide +kernel
theorem dX11_back_59 : decode cX11_back 59 = .ok (.getfield 61, 3) := by decide +kernel
theorem dX11_back_62 : decode cX11_back 62 = .ok (.ireturn, 1) := by decide +kernel
theorem dX11_enters_0 : decode cX11_enters 0 = .ok (.iload_n 1, 1) := by decide +kernel
theorem dX11_enters_1 : decode cX11_enters 1 = .ok (.invokestatic 69, 3) := by decide +kernel
theorem dX11_enters_4 : decode cX11_enters 4 = .ok (.istore_n 2, 1) := by decide +kernel
theorem dX11_enters_5 : decode cX11_enters 5 = .ok (.aload_n 0, 1) := by decide +kernel
theorem dX11_enters_6 : decode cX11_enters 6 = .ok (.getfield 13, 3) := by decide +kernel
theorem dX11_enters_9 : decode cX11_enters 9 = .ok (.iload_n 2, 1) := by decide +kernel
theorem dX11_enters_10 : decode cX11_enters 10 = .ok (.iconst 0, 1) := by decide +kernel
theorem dX11_enters_11 : decode cX11_enters 11 = .ok (.iadd, 1) := by decide +kernel
theorem dX11_enters_12 : decode cX11_enters 12 = .ok (.dup2, 1) := by decide +kernel
theorem dX11_enters_13 : decode cX11_enters 13 = .ok (.iaload, 1) := by decide +kernel
theorem dX11_enters_14 : decode cX11_enters 14 = .ok (.iconst 1, 1) := by decide +kernel
theorem dX11_enters_15 : decode cX11_enters 15 = .ok (.iadd, 1) := by decide +kernel
theorem dX11_enters_16 : decode cX11_enters 16 = .ok (.iastore, 1) := by decide +kernel
theorem dX11_enters_17 : decode cX11_enters 17 = .ok (.aload_n 0, 1) := by decide +kernel
theorem dX11_enters_18 : decode cX11_enters 18 = .ok (.getfield 13, 3) := by decide +kernel
theorem dX11_enters_21 : decode cX11_enters 21 = .ok (.iload_n 2, 1) := by decide +kernel
theorem dX11_enters_22 : decode cX11_enters 22 = .ok (.iconst 1, 1) := by decide +kernel
theorem dX11_enters_23 : decode cX11_enters 23 = .ok (.iadd, 1) := by decide +kernel
theorem dX11_enters_24 : decode cX11_enters 24 = .ok (.dup2, 1) := by decide +kernel
theorem dX11_enters_25 : decode cX11_enters 25 = .ok (.iaload, 1) := by decide +kernel
theorem dX11_enters_26 : decode cX11_enters 26 = .ok (.iconst 1, 1) := by decide +kernel
theorem dX11_enters_27 : decode cX11_enters 27 = .ok (.iadd, 1) := by decide +kernel
theorem dX11_enters_28 : decode cX11_enters 28 = .ok (.iastore, 1) := by decide +kernel
theorem dX11_enters_29 : decode cX11_enters 29 = .ok (.aload_n 0, 1) := by decide +kernel
theorem dX11_enters_30 : decode cX11_enters 30 = .ok (.getfield 13, 3) := by decide +kernel
theorem dX11_enters_33 : decode cX11_enters 33 = .ok (.iload_n 2, 1) := by decide +kernel
theorem dX11_enters_34 : decode cX11_enters 34 = .ok (.iconst 2, 1) := by decide +kernel
theorem dX11_enters_35 : decode cX11_enters 35 = .ok (.iadd, 1) := by decide +kernel
theorem dX11_enters_36 : decode cX11_enters 36 = .ok (.aload_n 0, 1) := by decide +kernel
theorem dX11_enters_37 : decode cX11_enters 37 = .ok (.getfield 13, 3) := by decide +kernel
theorem dX11_enters_40 : decode cX11_enters 40 = .ok (.iload_n 2, 1) := by decide +kernel
theorem dX11_enters_41 : decode cX11_enters 41 = .ok (.iconst 1, 1) := by decide +kernel
theorem dX11_enters_42 : decode cX11_enters 42 = .ok (.iadd, 1) := by decide +kernel
theorem dX11_enters_43 : decode cX11_enters 43 = .ok (.iaload, 1) := by decide +kernel
theorem dX11_enters_44 : decode cX11_enters 44 = .ok (.aload_n 0, 1) := by decide +kernel
theorem dX11_enters_45 : decode cX11_enters 45 = .ok (.getfield 13, 3) := by decide +kernel
theorem dX11_enters_48 : decode cX11_enters 48 = .ok (.iload_n 2, 1) := by decide +kernel
theorem dX11_enters_49 : decode cX11_enters 49 = .ok (.iconst 2, 1) := by decide +kernel
theorem dX11_enters_50 : decode cX11_enters 50 = .ok (.iadd, 1) := by decide +kernel
theorem dX11_enters_51 : decode cX11_enters 51 = .ok (.iaload, 1) := by decide +kernel
theorem dX11_enters_52 : decode cX11_enters 52 = .ok (.if_icmp .le 14, 3) := by decide +kernel
theorem dX11_enters_55 : decode cX11_enters 55 = .ok (.aload_n 0, 1) := by decide +kernel
theorem dX11_enters_56 : decode cX11_enters 56 = .ok (.getfield 13, 3) := by decide +kernel
theorem dX11_enters_59 : decode cX11_enters 59 = .ok (.iload_n 2, 1) := by decide +kernel
theorem dX11_enters_60 : decode cX11_enters 60 = .ok (.iconst 1, 1) := by decide +kernel
theorem dX11_enters_61 : decode cX11_enters 61 = .ok (.iadd, 1) := by decide +kernel
theorem dX11_enters_62 : decode cX11_enters 62 = .ok (.iaload, 1) := by decide +kernel
theorem dX11_enters_63 : decode cX11_enters 63 = .ok (.goto 11, 3) := by decide +kernel
theorem dX11_enters_66 : decode cX11_enters 66 = .ok (.aload_n 0, 1) := by decide +kernel
theorem dX11_enters_67 : decode cX11_enters 67 = .ok (.getfield 13, 3) := by decide +kernel
theorem dX11_enters_70 : decode cX11_enters 70 = .ok (.iload_n 2, 1) := by decide +kernel
theorem dX11_enters_71 : decode cX11_enters 71 = .ok (.iconst 2, 1) := by decide +kernel
theorem dX11_enters_72 : decode cX11_enters 72 = .ok (.iadd, 1) := by decide +kernel
theorem dX11_enters_73 : decode cX11_enters 73 = .ok (.iaload, 1) := by decide +kernel
theorem dX11_enters_74 : decode cX11_enters 74 = .ok (.iastore, 1) := by decide +kernel
theorem dX11_enters_75 : decode cX11_enters 75 = .ok (.return_, 1) := by decide +kernel
theorem dX11_leaves_0 : decode cX11_leaves 0 = .ok (.aload_n 0, 1) := by decide +kernel
theorem dX11_leaves_1 : decode cX11_leaves 1 = .ok (.getfield 13, 3) := by decide +kernel
theorem dX11_leaves_4 : decode cX11_leaves 4 = .ok (.iload_n 1, 1) := by decide +kernel
theorem dX11_leaves_5 : decode cX11_leaves 5 = .ok (.invokestatic 69, 3) := by decide +kernel
theorem dX11_leaves_8 : decode cX11_leaves 8 = .ok (.iconst 1, 1) := by decide +kernel
theorem dX11_leaves_9 : decode cX11_leaves 9 = .ok (.iadd, 1) := by decide +kernel
theorem dX11_leaves_10 : decode cX11_leaves 10 = .ok (.dup2, 1) := by decide +kernel
theorem dX11_leaves_11 : decode cX11_leaves 11 = .ok (.iaload, 1) := by decide +kernel
theorem dX11_leaves_12 : decode cX11_leaves 12 = .ok (.iconst 1, 1) := by decide +kernel
theorem dX11_leaves_13 : decode cX11_leaves 13 = .ok (.isub, 1) := by decide +kernel
theorem dX11_leaves_14 : decode cX11_leaves 14 = .ok (.iastore, 1) := by decide +kernel
theorem dX11_leaves_15 : decode cX11_leaves 15 = .ok (.return_, 1) := by decide +kernel
theorem dX11_thrownOut_0 : decode cX11_thrownOut 0 = .ok (.aload_n 0, 1) := by decide +kernel
theorem dX11_thrownOut_1 : decode cX11_thrownOut 1 = .ok (.getfield 13, 3) := by decide +kernel
theorem dX11_thrownOut_4 : decode cX11_thrownOut 4 = .ok (.iload_n 1, 1) := by decide +kernel
theorem dX11_thrownOut_5 : decode cX11_thrownOut 5 = .ok (.invokestatic 69, 3) := by decide +kernel
theorem dX11_thrownOut_8 : decode cX11_thrownOut 8 = .ok (.iconst 1, 1) := by decide +kernel
theorem dX11_thrownOut_9 : decode cX11_thrownOut 9 = .ok (.iadd, 1) := by decide +kernel
theorem dX11_thrownOut_10 : decode cX11_thrownOut 10 = .ok (.dup2, 1) := by decide +kernel
theorem dX11_thrownOut_11 : decode cX11_thrownOut 11 = .ok (.iaload, 1) := by decide +kernel
theorem dX11_thrownOut_12 : decode cX11_thrownOut 12 = .ok (.iconst 1, 1) := by decide +kernel
theorem dX11_thrownOut_13 : decode cX11_thrownOut 13 = .ok (.isub, 1) := by decide +kernel
theorem dX11_thrownOut_14 : decode cX11_thrownOut 14 = .ok (.iastore, 1) := by decide +kernel
theorem dX11_thrownOut_15 : decode cX11_thrownOut 15 = .ok (.aload_n 0, 1) := by decide +kernel
theorem dX11_thrownOut_16 : decode cX11_thrownOut 16 = .ok (.getfield 13, 3) := by decide +kernel
theorem dX11_thrownOut_19 : decode cX11_thrownOut 19 = .ok (.iload_n 1, 1) := by decide +kernel
theorem dX11_thrownOut_20 : decode cX11_thrownOut 20 = .ok (.invokestatic 69, 3) := by decide +kernel
theorem dX11_thrownOut_23 : decode cX11_thrownOut 23 = .ok (.iconst 3, 1) := by decide +kernel
theorem dX11_thrownOut_24 : decode cX11_thrownOut 24 = .ok (.iadd, 1) := by decide +kernel
theorem dX11_thrownOut_25 : decode cX11_thrownOut 25 = .ok (.dup2, 1) := by decide +kernel
theorem dX11_thrownOut_26 : decode cX11_thrownOut 26 = .ok (.iaload, 1) := by decide +kernel
theorem dX11_thrownOut_27 : decode cX11_thrownOut 27 = .ok (.iconst 1, 1) := by decide +kernel
theorem dX11_thrownOut_28 : decode cX11_thrownOut 28 = .ok (.iadd, 1) := by decide +kernel
theorem dX11_thrownOut_29 : decode cX11_thrownOut 29 = .ok (.iastore, 1) := by decide +kernel
theorem dX11_thrownOut_30 : decode cX11_thrownOut 30 = .ok (.return_, 1) := by decide +kernel
theorem dX11_isKeptFor_0 : decode cX11_isKeptFor 0 = .ok (.aload_n 0, 1) := by decide +kernel
theorem dX11_isKeptFor_1 : decode cX11_isKeptFor 1 = .ok (.getfield 13, 3) := by decide +kernel
theorem dX11_isKeptFor_4 : decode cX11_isKeptFor 4 = .ok (.iload_n 1, 1) := by decide +kernel
theorem dX11_isKeptFor_5 : decode cX11_isKeptFor 5 = .ok (.invokestatic 54, 3) := by decide +kernel
theorem dX11_isKeptFor_8 : decode cX11_isKeptFor 8 = .ok (.iconst 5, 1) := by decide +kernel
theorem dX11_isKeptFor_9 : decode cX11_isKeptFor 9 = .ok (.iadd, 1) := by decide +kernel
theorem dX11_isKeptFor_10 : decode cX11_isKeptFor 10 = .ok (.iaload, 1) := by decide +kernel
theorem dX11_isKeptFor_11 : decode cX11_isKeptFor 11 = .ok (.iconst (-1), 1) := by decide +kernel
theorem dX11_isKeptFor_12 : decode cX11_isKeptFor 12 = .ok (.if_icmp .eq 22, 3) := by decide +kernel
theorem dX11_isKeptFor_15 : decode cX11_isKeptFor 15 = .ok (.aload_n 0, 1) := by decide +kernel
theorem dX11_isKeptFor_16 : decode cX11_isKeptFor 16 = .ok (.getfield 13, 3) := by decide +kernel
theorem dX11_isKeptFor_19 : decode cX11_isKeptFor 19 = .ok (.iload_n 1, 1) := by decide +kernel
theorem dX11_isKeptFor_20 : decode cX11_isKeptFor 20 = .ok (.invokestatic 54, 3) := by decide +kernel
theorem dX11_isKeptFor_23 : decode cX11_isKeptFor 23 = .ok (.iconst 5, 1) := by decide +kernel
theorem dX11_isKeptFor_24 : decode cX11_isKeptFor 24 = .ok (.iadd, 1) := by decide +kernel
theorem dX11_isKeptFor_25 : decode cX11_isKeptFor 25 = .ok (.iaload, 1) := by decide +kernel
theorem dX11_isKeptFor_26 : decode cX11_isKeptFor 26 = .ok (.iload_n 2, 1) := by decide +kernel
theorem dX11_isKeptFor_27 : decode cX11_isKeptFor 27 = .ok (.if_icmp .eq 7, 3) := by decide +kernel
theorem dX11_isKeptFor_30 : decode cX11_isKeptFor 30 = .ok (.iconst 1, 1) := by decide +kernel
theorem dX11_isKeptFor_31 : decode cX11_isKeptFor 31 = .ok (.goto 4, 3) := by decide +kernel
theorem dX11_isKeptFor_34 : decode cX11_isKeptFor 34 = .ok (.iconst 0, 1) := by decide +kernel
theorem dX11_isKeptFor_35 : decode cX11_isKeptFor 35 = .ok (.ireturn, 1) := by decide +kernel
theorem dX11_put_0 : decode cX11_put 0 = .ok (.iload_n 1, 1) := by decide +kernel
theorem dX11_put_1 : decode cX11_put 1 = .ok (.invokestatic 54, 3) := by decide +kernel
theorem dX11_put_4 : decode cX11_put 4 = .ok (.istore 4, 2) := by decide +kernel
theorem dX11_put_6 : decode cX11_put 6 = .ok (.aload_n 0, 1) := by decide +kernel
theorem dX11_put_7 : decode cX11_put 7 = .ok (.iload_n 1, 1) := by decide +kernel
theorem dX11_put_8 : decode cX11_put 8 = .ok (.invokevirtual 72, 3) := by decide +kernel
theorem dX11_put_11 : decode cX11_put 11 = .ok (.aload_n 0, 1) := by decide +kernel
theorem dX11_put_12 : decode cX11_put 12 = .ok (.getfield 13, 3) := by decide +kernel
theorem dX11_put_15 : decode cX11_put 15 = .ok (.iload 4, 2) := by decide +kernel
theorem dX11_put_17 : decode cX11_put 17 = .ok (.iconst 0, 1) := by decide +kernel
theorem dX11_put_18 : decode cX11_put 18 = .ok (.iadd, 1) := by decide +kernel
theorem dX11_put_19 : decode cX11_put 19 = .ok (.iaload, 1) := by decide +kernel
theorem dX11_put_20 : decode cX11_put 20 = .ok (.aload_n 0, 1) := by decide +kernel
theorem dX11_put_21 : decode cX11_put 21 = .ok (.getfield 13, 3) := by decide +kernel
theorem dX11_put_24 : decode cX11_put 24 = .ok (.iload 4, 2) := by decide +kernel
theorem dX11_put_26 : decode cX11_put 26 = .ok (.iconst 1, 1) := by decide +kernel
theorem dX11_put_27 : decode cX11_put 27 = .ok (.iadd, 1) := by decide +kernel
theorem dX11_put_28 : decode cX11_put 28 = .ok (.iaload, 1) := by decide +kernel
theorem dX11_put_29 : decode cX11_put 29 = .ok (.if_icmp .ge 12, 3) := by decide +kernel
theorem dX11_put_32 : decode cX11_put 32 = .ok (.aload_n 0, 1) := by decide +kernel
theorem dX11_put_33 : decode cX11_put 33 = .ok (.iload_n 1, 1) := by decide +kernel
theorem dX11_put_34 : decode cX11_put 34 = .ok (.iload_n 3, 1) := by decide +kernel
theorem dX11_put_35 : decode cX11_put 35 = .ok (.invokevirtual 75, 3) := by decide +kernel
theorem dX11_put_38 : decode cX11_put 38 = .ok (.ifCond .eq 10, 3) := by decide +kernel
theorem dX11_put_41 : decode cX11_put 41 = .ok (.aload_n 0, 1) := by decide +kernel
theorem dX11_put_42 : decode cX11_put 42 = .ok (.iload_n 1, 1) := by decide +kernel
theorem dX11_put_43 : decode cX11_put 43 = .ok (.invokevirtual 79, 3) := by decide +kernel
theorem dX11_put_46 : decode cX11_put 46 = .ok (.iconst 0, 1) := by decide +kernel
theorem dX11_put_47 : decode cX11_put 47 = .ok (.ireturn, 1) := by decide +kernel
theorem dX11_put_48 : decode cX11_put 48 = .ok (.aload_n 0, 1) := by decide +kernel
theorem dX11_put_49 : decode cX11_put 49 = .ok (.getfield 13, 3) := by decide +kernel
theorem dX11_put_52 : decode cX11_put 52 = .ok (.iload 4, 2) := by decide +kernel
theorem dX11_put_54 : decode cX11_put 54 = .ok (.bipush 14, 2) := by decide +kernel
theorem dX11_put_56 : decode cX11_put 56 = .ok (.iadd, 1) := by decide +kernel
theorem dX11_put_57 : decode cX11_put 57 = .ok (.aload_n 0, 1) := by decide +kernel
theorem dX11_put_58 : decode cX11_put 58 = .ok (.getfield 13, 3) := by decide +kernel
theorem dX11_put_61 : decode cX11_put 61 = .ok (.iload 4, 2) := by decide +kernel
theorem dX11_put_63 : decode cX11_put 63 = .ok (.iconst 0, 1) := by decide +kernel
theorem dX11_put_64 : decode cX11_put 64 = .ok (.iadd, 1) := by decide +kernel
theorem dX11_put_65 : decode cX11_put 65 = .ok (.iaload, 1) := by decide +kernel
theorem dX11_put_66 : decode cX11_put 66 = .ok (.iadd, 1) := by decide +kernel
theorem dX11_put_67 : decode cX11_put 67 = .ok (.iload_n 2, 1) := by decide +kernel
theorem dX11_put_68 : decode cX11_put 68 = .ok (.iastore, 1) := by decide +kernel
theorem dX11_put_69 : decode cX11_put 69 = .ok (.aload_n 0, 1) := by decide +kernel
theorem dX11_put_70 : decode cX11_put 70 = .ok (.getfield 13, 3) := by decide +kernel
theorem dX11_put_73 : decode cX11_put 73 = .ok (.iload 4, 2) := by decide +kernel
theorem dX11_put_75 : decode cX11_put 75 = .ok (.iconst 0, 1) := by decide +kernel
theorem dX11_put_76 : decode cX11_put 76 = .ok (.iadd, 1) := by decide +kernel
theorem dX11_put_77 : decode cX11_put 77 = .ok (.dup2, 1) := by decide +kernel
theorem dX11_put_78 : decode cX11_put 78 = .ok (.iaload, 1) := by decide +kernel
theorem dX11_put_79 : decode cX11_put 79 = .ok (.iconst 1, 1) := by decide +kernel
theorem dX11_put_80 : decode cX11_put 80 = .ok (.iadd, 1) := by decide +kernel
theorem dX11_put_81 : decode cX11_put 81 = .ok (.iastore, 1) := by decide +kernel
theorem dX11_put_82 : decode cX11_put 82 = .ok (.aload_n 0, 1) := by decide +kernel
theorem dX11_put_83 : decode cX11_put 83 = .ok (.getfield 13, 3) := by decide +kernel
theorem dX11_put_86 : decode cX11_put 86 = .ok (.iload 4, 2) := by decide +kernel

theorem dX11_put_88 : decode cX11_put 88 = .ok (.iconst 2, 1) := by decide +kernel
theorem dX11_put_89 : decode cX11_put 89 = .ok (.iadd, 1) := by decide +kernel
theorem dX11_put_90 : decode cX11_put 90 = .ok (.dup2, 1) := by decide +kernel
theorem dX11_put_91 : decode cX11_put 91 = .ok (.iaload, 1) := by decide +kernel
theorem dX11_put_92 : decode cX11_put 92 = .ok (.iconst 1, 1) := by decide +kernel
theorem dX11_put_93 : decode cX11_put 93 = .ok (.iadd, 1) := by decide +kernel
theorem dX11_put_94 : decode cX11_put 94 = .ok (.iastore, 1) := by decide +kernel
theorem dX11_put_95 : decode cX11_put 95 = .ok (.aload_n 0, 1) := by decide +kernel
theorem dX11_put_96 : decode cX11_put 96 = .ok (.getfield 13, 3) := by decide +kernel
theorem dX11_put_99 : decode cX11_put 99 = .ok (.iload 4, 2) := by decide +kernel
theorem dX11_put_101 : decode cX11_put 101 = .ok (.iconst 4, 1) := by decide +kernel
theorem dX11_put_102 : decode cX11_put 102 = .ok (.iadd, 1) := by decide +kernel
theorem dX11_put_103 : decode cX11_put 103 = .ok (.aload_n 0, 1) := by decide +kernel
theorem dX11_put_104 : decode cX11_put 104 = .ok (.getfield 13, 3) := by decide +kernel
theorem dX11_put_107 : decode cX11_put 107 = .ok (.iload 4, 2) := by decide +kernel
theorem dX11_put_109 : decode cX11_put 109 = .ok (.iconst 0, 1) := by decide +kernel
theorem dX11_put_110 : decode cX11_put 110 = .ok (.iadd, 1) := by decide +kernel
theorem dX11_put_111 : decode cX11_put 111 = .ok (.iaload, 1) := by decide +kernel
theorem dX11_put_112 : decode cX11_put 112 = .ok (.aload_n 0, 1) := by decide +kernel
theorem dX11_put_113 : decode cX11_put 113 = .ok (.getfield 13, 3) := by decide +kernel
theorem dX11_put_116 : decode cX11_put 116 = .ok (.iload 4, 2) := by decide +kernel
theorem dX11_put_118 : decode cX11_put 118 = .ok (.iconst 4, 1) := by decide +kernel
theorem dX11_put_119 : decode cX11_put 119 = .ok (.iadd, 1) := by decide +kernel
theorem dX11_put_120 : decode cX11_put 120 = .ok (.iaload, 1) := by decide +kernel
theorem dX11_put_121 : decode cX11_put 121 = .ok (.if_icmp .le 15, 3) := by decide +kernel
theorem dX11_put_124 : decode cX11_put 124 = .ok (.aload_n 0, 1) := by decide +kernel
theorem dX11_put_125 : decode cX11_put 125 = .ok (.getfield 13, 3) := by decide +kernel
theorem dX11_put_128 : decode cX11_put 128 = .ok (.iload 4, 2) := by decide +kernel
theorem dX11_put_130 : decode cX11_put 130 = .ok (.iconst 0, 1) := by decide +kernel
theorem dX11_put_131 : decode cX11_put 131 = .ok (.iadd, 1) := by decide +kernel
theorem dX11_put_132 : decode cX11_put 132 = .ok (.iaload, 1) := by decide +kernel
theorem dX11_put_133 : decode cX11_put 133 = .ok (.goto 12, 3) := by decide +kernel
theorem dX11_put_136 : decode cX11_put 136 = .ok (.aload_n 0, 1) := by decide +kernel
theorem dX11_put_137 : decode cX11_put 137 = .ok (.getfield 13, 3) := by decide +kernel
theorem dX11_put_140 : decode cX11_put 140 = .ok (.iload 4, 2) := by decide +kernel
theorem dX11_put_142 : decode cX11_put 142 = .ok (.iconst 4, 1) := by decide +kernel
theorem dX11_put_143 : decode cX11_put 143 = .ok (.iadd, 1) := by decide +kernel
theorem dX11_put_144 : decode cX11_put 144 = .ok (.iaload, 1) := by decide +kernel
theorem dX11_put_145 : decode cX11_put 145 = .ok (.iastore, 1) := by decide +kernel
theorem dX11_put_146 : decode cX11_put 146 = .ok (.aload_n 0, 1) := by decide +kernel
theorem dX11_put_147 : decode cX11_put 147 = .ok (.iload_n 1, 1) := by decide +kernel
theorem dX11_put_148 : decode cX11_put 148 = .ok (.invokevirtual 82, 3) := by decide +kernel
theorem dX11_put_151 : decode cX11_put 151 = .ok (.iconst 1, 1) := by decide +kernel
theorem dX11_put_152 : decode cX11_put 152 = .ok (.ireturn, 1) := by decide +kernel
theorem dX11_firstOf_0 : decode cX11_firstOf 0 = .ok (.iload_n 1, 1) := by decide +kernel
theorem dX11_firstOf_1 : decode cX11_firstOf 1 = .ok (.invokestatic 54, 3) := by decide +kernel
theorem dX11_firstOf_4 : decode cX11_firstOf 4 = .ok (.istore_n 2, 1) := by decide +kernel
theorem dX11_firstOf_5 : decode cX11_firstOf 5 = .ok (.aload_n 0, 1) := by decide +kernel
theorem dX11_firstOf_6 : decode cX11_firstOf 6 = .ok (.getfield 13, 3) := by decide +kernel
theorem dX11_firstOf_9 : decode cX11_firstOf 9 = .ok (.iload_n 2, 1) := by decide +kernel
theorem dX11_firstOf_10 : decode cX11_firstOf 10 = .ok (.bipush 14, 2) := by decide +kernel
theorem dX11_firstOf_12 : decode cX11_firstOf 12 = .ok (.iadd, 1) := by decide +kernel
theorem dX11_firstOf_13 : decode cX11_firstOf 13 = .ok (.iaload, 1) := by decide +kernel
theorem dX11_firstOf_14 : decode cX11_firstOf 14 = .ok (.istore_n 3, 1) := by decide +kernel
theorem dX11_firstOf_15 : decode cX11_firstOf 15 = .ok (.aload_n 0, 1) := by decide +kernel
theorem dX11_firstOf_16 : decode cX11_firstOf 16 = .ok (.getfield 13, 3) := by decide +kernel
theorem dX11_firstOf_19 : decode cX11_firstOf 19 = .ok (.iload_n 2, 1) := by decide +kernel
theorem dX11_firstOf_20 : decode cX11_firstOf 20 = .ok (.iconst 0, 1) := by decide +kernel
theorem dX11_firstOf_21 : decode cX11_firstOf 21 = .ok (.iadd, 1) := by decide +kernel
theorem dX11_firstOf_22 : decode cX11_firstOf 22 = .ok (.dup2, 1) := by decide +kernel
theorem dX11_firstOf_23 : decode cX11_firstOf 23 = .ok (.iaload, 1) := by decide +kernel
theorem dX11_firstOf_24 : decode cX11_firstOf 24 = .ok (.iconst 1, 1) := by decide +kernel
theorem dX11_firstOf_25 : decode cX11_firstOf 25 = .ok (.isub, 1) := by decide +kernel
theorem dX11_firstOf_26 : decode cX11_firstOf 26 = .ok (.iastore, 1) := by decide +kernel
theorem dX11_firstOf_27 : decode cX11_firstOf 27 = .ok (.iconst 0, 1) := by decide +kernel
theorem dX11_firstOf_28 : decode cX11_firstOf 28 = .ok (.istore 4, 2) := by decide +kernel
theorem dX11_firstOf_30 : decode cX11_firstOf 30 = .ok (.iload 4, 2) := by decide +kernel
theorem dX11_firstOf_32 : decode cX11_firstOf 32 = .ok (.aload_n 0, 1) := by decide +kernel
theorem dX11_firstOf_33 : decode cX11_firstOf 33 = .ok (.getfield 13, 3) := by decide +kernel
theorem dX11_firstOf_36 : decode cX11_firstOf 36 = .ok (.iload_n 2, 1) := by decide +kernel
theorem dX11_firstOf_37 : decode cX11_firstOf 37 = .ok (.iconst 0, 1) := by decide +kernel
theorem dX11_firstOf_38 : decode cX11_firstOf 38 = .ok (.iadd, 1) := by decide +kernel
theorem dX11_firstOf_39 : decode cX11_firstOf 39 = .ok (.iaload, 1) := by decide +kernel
theorem dX11_firstOf_40 : decode cX11_firstOf 40 = .ok (.if_icmp .ge 35, 3) := by decide +kernel
theorem dX11_firstOf_43 : decode cX11_firstOf 43 = .ok (.aload_n 0, 1) := by decide +kernel
theorem dX11_firstOf_44 : decode cX11_firstOf 44 = .ok (.getfield 13, 3) := by decide +kernel
theorem dX11_firstOf_47 : decode cX11_firstOf 47 = .ok (.iload_n 2, 1) := by decide +kernel
theorem dX11_firstOf_48 : decode cX11_firstOf 48 = .ok (.bipush 14, 2) := by decide +kernel
theorem dX11_firstOf_50 : decode cX11_firstOf 50 = .ok (.iadd, 1) := by decide +kernel
theorem dX11_firstOf_51 : decode cX11_firstOf 51 = .ok (.iload 4, 2) := by decide +kernel
theorem dX11_firstOf_53 : decode cX11_firstOf 53 = .ok (.iadd, 1) := by decide +kernel
theorem dX11_firstOf_54 : decode cX11_firstOf 54 = .ok (.aload_n 0, 1) := by decide +kernel
theorem dX11_firstOf_55 : decode cX11_firstOf 55 = .ok (.getfield 13, 3) := by decide +kernel
theorem dX11_firstOf_58 : decode cX11_firstOf 58 = .ok (.iload_n 2, 1) := by decide +kernel
theorem dX11_firstOf_59 : decode cX11_firstOf 59 = .ok (.bipush 14, 2) := by decide +kernel
theorem dX11_firstOf_61 : decode cX11_firstOf 61 = .ok (.iadd, 1) := by decide +kernel
theorem dX11_firstOf_62 : decode cX11_firstOf 62 = .ok (.iload 4, 2) := by decide +kernel
theorem dX11_firstOf_64 : decode cX11_firstOf 64 = .ok (.iadd, 1) := by decide +kernel
theorem dX11_firstOf_65 : decode cX11_firstOf 65 = .ok (.iconst 1, 1) := by decide +kernel
theorem dX11_firstOf_66 : decode cX11_firstOf 66 = .ok (.iadd, 1) := by decide +kernel
theorem dX11_firstOf_67 : decode cX11_firstOf 67 = .ok (.iaload, 1) := by decide +kernel
theorem dX11_firstOf_68 : decode cX11_firstOf 68 = .ok (.iastore, 1) := by decide +kernel
theorem dX11_firstOf_69 : decode cX11_firstOf 69 = .ok (.iinc 4 1, 3) := by decide +kernel
theorem dX11_firstOf_72 : decode cX11_firstOf 72 = .ok (.goto (-42), 3) := by decide +kernel
theorem dX11_firstOf_75 : decode cX11_firstOf 75 = .ok (.aload_n 0, 1) := by decide +kernel
theorem dX11_firstOf_76 : decode cX11_firstOf 76 = .ok (.getfield 13, 3) := by decide +kernel
theorem dX11_firstOf_79 : decode cX11_firstOf 79 = .ok (.iload_n 2, 1) := by decide +kernel
theorem dX11_firstOf_80 : decode cX11_firstOf 80 = .ok (.iconst 3, 1) := by decide +kernel
theorem dX11_firstOf_81 : decode cX11_firstOf 81 = .ok (.iadd, 1) := by decide +kernel
theorem dX11_firstOf_82 : decode cX11_firstOf 82 = .ok (.dup2, 1) := by decide +kernel
theorem dX11_firstOf_83 : decode cX11_firstOf 83 = .ok (.iaload, 1) := by decide +kernel
theorem dX11_firstOf_84 : decode cX11_firstOf 84 = .ok (.iconst 1, 1) := by decide +kernel
theorem dX11_firstOf_85 : decode cX11_firstOf 85 = .ok (.iadd, 1) := by decide +kernel
theorem dX11_firstOf_86 : decode cX11_firstOf 86 = .ok (.iastore, 1) := by decide +kernel
theorem dX11_firstOf_87 : decode cX11_firstOf 87 = .ok (.iload_n 3, 1) := by decide +kernel
theorem dX11_firstOf_88 : decode cX11_firstOf 88 = .ok (.ireturn, 1) := by decide +kernel
theorem dX11_take_0 : decode cX11_take 0 = .ok (.aload_n 0, 1) := by decide +kernel
theorem dX11_take_1 : decode cX11_take 1 = .ok (.iload_n 1, 1) := by decide +kernel
theorem dX11_take_2 : decode cX11_take 2 = .ok (.invokevirtual 72, 3) := by decide +kernel
theorem dX11_take_5 : decode cX11_take 5 = .ok (.aload_n 0, 1) := by decide +kernel
theorem dX11_take_6 : decode cX11_take 6 = .ok (.getfield 13, 3) := by decide +kernel
theorem dX11_take_9 : decode cX11_take 9 = .ok (.iload_n 1, 1) := by decide +kernel
theorem dX11_take_10 : decode cX11_take 10 = .ok (.invokestatic 54, 3) := by decide +kernel
theorem dX11_take_13 : decode cX11_take 13 = .ok (.iconst 0, 1) := by decide +kernel
theorem dX11_take_14 : decode cX11_take 14 = .ok (.iadd, 1) := by decide +kernel
theorem dX11_take_15 : decode cX11_take 15 = .ok (.iaload, 1) := by decide +kernel
theorem dX11_take_16 : decode cX11_take 16 = .ok (.ifCond .eq 12, 3) := by decide +kernel
theorem dX11_take_19 : decode cX11_take 19 = .ok (.aload_n 0, 1) := by decide +kernel
theorem dX11_take_20 : decode cX11_take 20 = .ok (.iload_n 1, 1) := by decide +kernel
theorem dX11_take_21 : decode cX11_take 21 = .ok (.iload_n 2, 1) := by decide +kernel
theorem dX11_take_22 : decode cX11_take 22 = .ok (.invokevirtual 75, 3) := by decide +kernel
theorem dX11_take_25 : decode cX11_take 25 = .ok (.ifCond .eq 10, 3) := by decide +kernel
theorem dX11_take_28 : decode cX11_take 28 = .ok (.aload_n 0, 1) := by decide +kernel
theorem dX11_take_29 : decode cX11_take 29 = .ok (.iload_n 1, 1) := by decide +kernel
theorem dX11_take_30 : decode cX11_take 30 = .ok (.invokevirtual 79, 3) := by decide +kernel
theorem dX11_take_33 : decode cX11_take 33 = .ok (.iconst (-1), 1) := by decide +kernel
theorem dX11_take_34 : decode cX11_take 34 = .ok (.ireturn, 1) := by decide +kernel
theorem dX11_take_35 : decode cX11_take 35 = .ok (.aload_n 0, 1) := by decide +kernel
theorem dX11_take_36 : decode cX11_take 36 = .ok (.iload_n 1, 1) := by decide +kernel
theorem dX11_take_37 : decode cX11_take 37 = .ok (.invokevirtual 85, 3) := by decide +kernel
theorem dX11_take_40 : decode cX11_take 40 = .ok (.istore_n 3, 1) := by decide +kernel
theorem dX11_take_41 : decode cX11_take 41 = .ok (.aload_n 0, 1) := by decide +kernel
theorem dX11_take_42 : decode cX11_take 42 = .ok (.iload_n 1, 1) := by decide +kernel
theorem dX11_take_43 : decode cX11_take 43 = .ok (.invokevirtual 82, 3) := by decide +kernel
theorem dX11_take_46 : decode cX11_take 46 = .ok (.iload_n 3, 1) := by decide +kernel
theorem dX11_take_47 : decode cX11_take 47 = .ok (.ireturn, 1) := by decide +kernel
theorem dX11_firstAgain_0 : decode cX11_firstAgain 0 = .ok (.iload_n 1, 1) := by decide +kernel
theorem dX11_firstAgain_1 : decode cX11_firstAgain 1 = .ok (.invokestatic 54, 3) := by decide +kernel
theorem dX11_firstAgain_4 : decode cX11_firstAgain 4 = .ok (.istore_n 3, 1) := by decide +kernel
theorem dX11_firstAgain_5 : decode cX11_firstAgain 5 = .ok (.aload_n 0, 1) := by decide +kernel
theorem dX11_firstAgain_6 : decode cX11_firstAgain 6 = .ok (.getfield 13, 3) := by decide +kernel
theorem dX11_firstAgain_9 : decode cX11_firstAgain 9 = .ok (.iload_n 3, 1) := by decide +kernel
theorem dX11_firstAgain_10 : decode cX11_firstAgain 10 = .ok (.iconst 0, 1) := by decide +kernel
theorem dX11_firstAgain_11 : decode cX11_firstAgain 11 = .ok (.iadd, 1) := by decide +kernel
theorem dX11_firstAgain_12 : decode cX11_firstAgain 12 = .ok (.iaload, 1) := by decide +kernel
theorem dX11_firstAgain_13 : decode cX11_firstAgain 13 = .ok (.istore 4, 2) := by decide +kernel
theorem dX11_firstAgain_15 : decode cX11_firstAgain 15 = .ok (.iload 4, 2) := by decide +kernel
theorem dX11_firstAgain_17 : decode cX11_firstAgain 17 = .ok (.ifCond .le 35, 3) := by decide +kernel
theorem dX11_firstAgain_20 : decode cX11_firstAgain 20 = .ok (.aload_n 0, 1) := by decide +kernel
theorem dX11_firstAgain_21 : decode cX11_firstAgain 21 = .ok (.getfield 13, 3) := by decide +kernel
theorem dX11_firstAgain_24 : decode cX11_firstAgain 24 = .ok (.iload_n 3, 1) := by decide +kernel
theorem dX11_firstAgain_25 : decode cX11_firstAgain 25 = .ok (.bipush 14, 2) := by decide +kernel
theorem dX11_firstAgain_27 : decode cX11_firstAgain 27 = .ok (.iadd, 1) := by decide +kernel
theorem dX11_firstAgain_28 : decode cX11_firstAgain 28 = .ok (.iload 4, 2) := by decide +kernel
theorem dX11_firstAgain_30 : decode cX11_firstAgain 30 = .ok (.iadd, 1) := by decide +kernel
theorem dX11_firstAgain_31 : decode cX11_firstAgain 31 = .ok (.aload_n 0, 1) := by decide +kernel
theorem dX11_firstAgain_32 : decode cX11_firstAgain 32 = .ok (.getfield 13, 3) := by decide +kernel
theorem dX11_firstAgain_35 : decode cX11_firstAgain 35 = .ok (.iload_n 3, 1) := by decide +kernel
theorem dX11_firstAgain_36 : decode cX11_firstAgain 36 = .ok (.bipush 14, 2) := by decide +kernel
theorem dX11_firstAgain_38 : decode cX11_firstAgain 38 = .ok (.iadd, 1) := by decide +kernel
theorem dX11_firstAgain_39 : decode cX11_firstAgain 39 = .ok (.iload 4, 2) := by decide +kernel
theorem dX11_firstAgain_41 : decode cX11_firstAgain 41 = .ok (.iadd, 1) := by decide +kernel
theorem dX11_firstAgain_42 : decode cX11_firstAgain 42 = .ok (.iconst 1, 1) := by decide +kernel
theorem dX11_firstAgain_43 : decode cX11_firstAgain 43 = .ok (.isub, 1) := by decide +kernel
theorem dX11_firstAgain_44 : decode cX11_firstAgain 44 = .ok (.iaload, 1) := by decide +kernel
theorem dX11_firstAgain_45 : decode cX11_firstAgain 45 = .ok (.iastore, 1) := by decide +kernel
theorem dX11_firstAgain_46 : decode cX11_firstAgain 46 = .ok (.iinc 4 (-1), 3) := by decide +kernel
theorem dX11_firstAgain_49 : decode cX11_firstAgain 49 = .ok (.goto (-34), 3) := by decide +kernel
theorem dX11_firstAgain_52 : decode cX11_firstAgain 52 = .ok (.aload_n 0, 1) := by decide +kernel
theorem dX11_firstAgain_53 : decode cX11_firstAgain 53 = .ok (.getfield 13, 3) := by decide +kernel
theorem dX11_firstAgain_56 : decode cX11_firstAgain 56 = .ok (.iload_n 3, 1) := by decide +kernel
theorem dX11_firstAgain_57 : decode cX11_firstAgain 57 = .ok (.bipush 14, 2) := by decide +kernel
theorem dX11_firstAgain_59 : decode cX11_firstAgain 59 = .ok (.iadd, 1) := by decide +kernel
theorem dX11_firstAgain_60 : decode cX11_firstAgain 60 = .ok (.iload_n 2, 1) := by decide +kernel
theorem dX11_firstAgain_61 : decode cX11_firstAgain 61 = .ok (.iastore, 1) := by decide +kernel
theorem dX11_firstAgain_62 : decode cX11_firstAgain 62 = .ok (.aload_n 0, 1) := by decide +kernel
theorem dX11_firstAgain_63 : decode cX11_firstAgain 63 = .ok (.getfield 13, 3) := by decide +kernel
theorem dX11_firstAgain_66 : decode cX11_firstAgain 66 = .ok (.iload_n 3, 1) := by decide +kernel
theorem dX11_firstAgain_67 : decode cX11_firstAgain 67 = .ok (.iconst 0, 1) := by decide +kernel
theorem dX11_firstAgain_68 : decode cX11_firstAgain 68 = .ok (.iadd, 1) := by decide +kernel
theorem dX11_firstAgain_69 : decode cX11_firstAgain 69 = .ok (.dup2, 1) := by decide +kernel
theorem dX11_firstAgain_70 : decode cX11_firstAgain 70 = .ok (.iaload, 1) := by decide +kernel
theorem dX11_firstAgain_71 : decode cX11_firstAgain 71 = .ok (.iconst 1, 1) := by decide +kernel
theorem dX11_firstAgain_72 : decode cX11_firstAgain 72 = .ok (.iadd, 1) := by decide +kernel
theorem dX11_firstAgain_73 : decode cX11_firstAgain 73 = .ok (.iastore, 1) := by decide +kernel
theorem dX11_firstAgain_74 : decode cX11_firstAgain 74 = .ok (.return_, 1) := by decide +kernel
theorem dX11_lesser_0 : decode cX11_lesser 0 = .ok (.iload_n 0, 1) := by decide +kernel
theorem dX11_lesser_1 : decode cX11_lesser 1 = .ok (.iload_n 1, 1) := by decide +kernel
theorem dX11_lesser_2 : decode cX11_lesser 2 = .ok (.if_icmp .ge 7, 3) := by decide +kernel
theorem dX11_lesser_5 : decode cX11_lesser 5 = .ok (.iload_n 0, 1) := by decide +kernel
theorem dX11_lesser_6 : decode cX11_lesser 6 = .ok (.goto 4, 3) := by decide +kernel
theorem dX11_lesser_9 : decode cX11_lesser 9 = .ok (.iload_n 1, 1) := by decide +kernel
theorem dX11_lesser_10 : decode cX11_lesser 10 = .ok (.ireturn, 1) := by decide +kernel
theorem dX11_greater_0 : decode cX11_greater 0 = .ok (.iload_n 0, 1) := by decide +kernel
theorem dX11_greater_1 : decode cX11_greater 1 = .ok (.iload_n 1, 1) := by decide +kernel
theorem dX11_greater_2 : decode cX11_greater 2 = .ok (.if_icmp .le 7, 3) := by decide +kernel
theorem dX11_greater_5 : decode cX11_greater 5 = .ok (.iload_n 0, 1) := by decide +kernel
theorem dX11_greater_6 : decode cX11_greater 6 = .ok (.goto 4, 3) := by decide +kernel
theorem dX11_greater_9 : decode cX11_greater 9 = .ok (.iload_n 1, 1) := by decide +kernel
theorem dX11_greater_10 : decode cX11_greater 10 = .ok (.ireturn, 1) := by decide +kernel
theorem dX11_move_0 : decode cX11_move 0 = .ok (.iload_n 1, 1) := by decide +kernel
theorem dX11_move_1 : decode cX11_move 1 = .ok (.iload_n 2, 1) := by decide +kernel
theorem dX11_move_2 : decode cX11_move 2 = .ok (.invokestatic 88, 3) := by decide +kernel
theorem dX11_move_5 : decode cX11_move 5 = .ok (.istore 4, 2) := by decide +kernel
theorem dX11_move_7 : decode cX11_move 7 = .ok (.iload_n 1, 1) := by decide +kernel
theorem dX11_move_8 : decode cX11_move 8 = .ok (.iload_n 2, 1) := by decide +kernel
theorem dX11_move_9 : decode cX11_move 9 = .ok (.invokestatic 92, 3) := by decide +kernel
theorem dX11_move_12 : decode cX11_move 12 = .ok (.istore 5, 2) := by decide +kernel
theorem dX11_move_14 : decode cX11_move 14 = .ok (.aload_n 0, 1) := by decide +kernel
theorem dX11_move_15 : decode cX11_move 15 = .ok (.iload 4, 2) := by decide +kernel
theorem dX11_move_17 : decode cX11_move 17 = .ok (.invokevirtual 72, 3) := by decide +kernel
theorem dX11_move_20 : decode cX11_move 20 = .ok (.aload_n 0, 1) := by decide +kernel
theorem dX11_move_21 : decode cX11_move 21 = .ok (.iload 5, 2) := by decide +kernel
theorem dX11_move_23 : decode cX11_move 23 = .ok (.invokevirtual 72, 3) := by decide +kernel
theorem dX11_move_26 : decode cX11_move 26 = .ok (.iconst 0, 1) := by decide +kernel
theorem dX11_move_27 : decode cX11_move 27 = .ok (.istore 6, 2) := by decide +kernel
theorem dX11_move_29 : decode cX11_move 29 = .ok (.iconst 0, 1) := by decide +kernel
theorem dX11_move_30 : decode cX11_move 30 = .ok (.istore 7, 2) := by decide +kernel
theorem dX11_move_32 : decode cX11_move 32 = .ok (.iload 6, 2) := by decide +kernel
theorem dX11_move_34 : decode cX11_move 34 = .ok (.iload_n 3, 1) := by decide +kernel
theorem dX11_move_35 : decode cX11_move 35 = .ok (.if_icmp .ge 73, 3) := by decide +kernel
theorem dX11_move_38 : decode cX11_move 38 = .ok (.iload 7, 2) := by decide +kernel
theorem dX11_move_40 : decode cX11_move 40 = .ok (.ifCond .ne 68, 3) := by decide +kernel
theorem dX11_move_43 : decode cX11_move 43 = .ok (.aload_n 0, 1) := by decide +kernel
theorem dX11_move_44 : decode cX11_move 44 = .ok (.iload_n 1, 1) := by decide +kernel
theorem dX11_move_45 : decode cX11_move 45 = .ok (.iconst (-1), 1) := by decide +kernel
theorem dX11_move_46 : decode cX11_move 46 = .ok (.invokevirtual 95, 3) := by decide +kernel
theorem dX11_move_49 : decode cX11_move 49 = .ok (.istore 8, 2) := by decide +kernel
theorem dX11_move_51 : decode cX11_move 51 = .ok (.iload 8, 2) := by decide +kernel
theorem dX11_move_53 : decode cX11_move 53 = .ok (.iconst (-1), 1) := by decide +kernel
theorem dX11_move_54 : decode cX11_move 54 = .ok (.if_icmp .ne 7, 3) := by decide +kernel
theorem dX11_move_57 : decode cX11_move 57 = .ok (.iconst 1, 1) := by decide +kernel
theorem dX11_move_58 : decode cX11_move 58 = .ok (.goto 4, 3) := by decide +kernel
theorem dX11_move_61 : decode cX11_move 61 = .ok (.iconst 0, 1) := by decide +kernel
theorem dX11_move_62 : decode cX11_move 62 = .ok (.istore 7, 2) := by decide +kernel
theorem dX11_move_64 : decode cX11_move 64 = .ok (.iload 7, 2) := by decide +kernel
theorem dX11_move_66 : decode cX11_move 66 = .ok (.ifCond .ne 24, 3) := by decide +kernel
theorem dX11_move_69 : decode cX11_move 69 = .ok (.aload_n 0, 1) := by decide +kernel
theorem dX11_move_70 : decode cX11_move 70 = .ok (.iload_n 2, 1) := by decide +kernel
theorem dX11_move_71 : decode cX11_move 71 = .ok (.iload 8, 2) := by decide +kernel
theorem dX11_move_73 : decode cX11_move 73 = .ok (.iconst (-1), 1) := by decide +kernel
theorem dX11_move_74 : decode cX11_move 74 = .ok (.invokevirtual 98, 3) := by decide +kernel
theorem dX11_move_77 : decode cX11_move 77 = .ok (.ifCond .ne 13, 3) := by decide +kernel
theorem dX11_move_80 : decode cX11_move 80 = .ok (.aload_n 0, 1) := by decide +kernel
theorem dX11_move_81 : decode cX11_move 81 = .ok (.iload_n 1, 1) := by decide +kernel
theorem dX11_move_82 : decode cX11_move 82 = .ok (.iload 8, 2) := by decide +kernel
theorem dX11_move_84 : decode cX11_move 84 = .ok (.invokevirtual 101, 3) := by decide +kernel
theorem dX11_move_87 : decode cX11_move 87 = .ok (.iconst 1, 1) := by decide +kernel
theorem dX11_move_88 : decode cX11_move 88 = .ok (.istore 7, 2) := by decide +kernel
theorem dX11_move_90 : decode cX11_move 90 = .ok (.iload 6, 2) := by decide +kernel
theorem dX11_move_92 : decode cX11_move 92 = .ok (.iload 7, 2) := by decide +kernel
theorem dX11_move_94 : decode cX11_move 94 = .ok (.ifCond .eq 7, 3) := by decide +kernel
theorem dX11_move_97 : decode cX11_move 97 = .ok (.iconst 0, 1) := by decide +kernel
theorem dX11_move_98 : decode cX11_move 98 = .ok (.goto 4, 3) := by decide +kernel
theorem dX11_move_101 : decode cX11_move 101 = .ok (.iconst 1, 1) := by decide +kernel
theorem dX11_move_102 : decode cX11_move 102 = .ok (.iadd, 1) := by decide +kernel
theorem dX11_move_103 : decode cX11_move 103 = .ok (.istore 6, 2) := by decide +kernel
theorem dX11_move_105 : decode cX11_move 105 = .ok (.goto (-73), 3) := by decide +kernel
theorem dX11_move_108 : decode cX11_move 108 = .ok (.iload 7, 2) := by decide +kernel
theorem dX11_move_110 : decode cX11_move 110 = .ok (.ifCond .eq 18, 3) := by decide +kernel
theorem dX11_move_113 : decode cX11_move 113 = .ok (.aload_n 0, 1) := by decide +kernel
theorem dX11_move_114 : decode cX11_move 114 = .ok (.iload 5, 2) := by decide +kernel
theorem dX11_move_116 : decode cX11_move 116 = .ok (.invokevirtual 79, 3) := by decide +kernel
theorem dX11_move_119 : decode cX11_move 119 = .ok (.aload_n 0, 1) := by decide +kernel
theorem dX11_move_120 : decode cX11_move 120 = .ok (.iload 4, 2) := by decide +kernel
theorem dX11_move_122 : decode cX11_move 122 = .ok (.invokevirtual 79, 3) := by decide +kernel
theorem dX11_move_125 : decode cX11_move 125 = .ok (.goto 15, 3) := by decide +kernel
theorem dX11_move_128 : decode cX11_move 128 = .ok (.aload_n 0, 1) := by decide +kernel
theorem dX11_move_129 : decode cX11_move 129 = .ok (.iload 5, 2) := by decide +kernel
theorem dX11_move_131 : decode cX11_move 131 = .ok (.invokevirtual 82, 3) := by decide +kernel
theorem dX11_move_134 : decode cX11_move 134 = .ok (.aload_n 0, 1) := by decide +kernel
theorem dX11_move_135 : decode cX11_move 135 = .ok (.iload 4, 2) := by decide +kernel
theorem dX11_move_137 : decode cX11_move 137 = .ok (.invokevirtual 82, 3) := by decide +kernel
theorem dX11_move_140 : decode cX11_move 140 = .ok (.iload 6, 2) := by decide +kernel
theorem dX11_move_142 : decode cX11_move 142 = .ok (.ireturn, 1) := by decide +kernel
theorem dX11_laysAside_0 : decode cX11_laysAside 0 = .ok (.iconst 0, 1) := by decide +kernel
theorem dX11_laysAside_1 : decode cX11_laysAside 1 = .ok (.istore_n 2, 1) := by decide +kernel
theorem dX11_laysAside_2 : decode cX11_laysAside 2 = .ok (.iload_n 2, 1) := by decide +kernel
theorem dX11_laysAside_3 : decode cX11_laysAside 3 = .ok (.bipush 6, 2) := by decide +kernel
theorem dX11_laysAside_5 : decode cX11_laysAside 5 = .ok (.if_icmp .ge 73, 3) := by decide +kernel
theorem dX11_laysAside_8 : decode cX11_laysAside 8 = .ok (.iconst 0, 1) := by decide +kernel
theorem dX11_laysAside_9 : decode cX11_laysAside 9 = .ok (.istore_n 3, 1) := by decide +kernel
theorem dX11_laysAside_10 : decode cX11_laysAside 10 = .ok (.iload_n 3, 1) := by decide +kernel
theorem dX11_laysAside_11 : decode cX11_laysAside 11 = .ok (.bipush 9, 2) := by decide +kernel
theorem dX11_laysAside_13 : decode cX11_laysAside 13 = .ok (.if_icmp .ge 59, 3) := by decide +kernel
theorem dX11_laysAside_16 : decode cX11_laysAside 16 = .ok (.aload_n 0, 1) := by decide +kernel
theorem dX11_laysAside_17 : decode cX11_laysAside 17 = .ok (.getfield 19, 3) := by decide +kernel
theorem dX11_laysAside_20 : decode cX11_laysAside 20 = .ok (.bipush 54, 2) := by decide +kernel
theorem dX11_laysAside_22 : decode cX11_laysAside 22 = .ok (.iload_n 1, 1) := by decide +kernel
theorem dX11_laysAside_23 : decode cX11_laysAside 23 = .ok (.imul, 1) := by decide +kernel
theorem dX11_laysAside_24 : decode cX11_laysAside 24 = .ok (.bipush 9, 2) := by decide +kernel
theorem dX11_laysAside_26 : decode cX11_laysAside 26 = .ok (.iload_n 2, 1) := by decide +kernel
theorem dX11_laysAside_27 : decode cX11_laysAside 27 = .ok (.imul, 1) := by decide +kernel
theorem dX11_laysAside_28 : decode cX11_laysAside 28 = .ok (.iadd, 1) := by decide +kernel
theorem dX11_laysAside_29 : decode cX11_laysAside 29 = .ok (.iload_n 3, 1) := by decide +kernel
theorem dX11_laysAside_30 : decode cX11_laysAside 30 = .ok (.iadd, 1) := by decide +kernel
theorem dX11_laysAside_31 : decode cX11_laysAside 31 = .ok (.iload_n 3, 1) := by decide +kernel
theorem dX11_laysAside_32 : decode cX11_laysAside 32 = .ok (.bipush 8, 2) := by decide +kernel
theorem dX11_laysAside_34 : decode cX11_laysAside 34 = .ok (.if_icmp .ne 17, 3) := by decide +kernel
theorem dX11_laysAside_37 : decode cX11_laysAside 37 = .ok (.aload_n 0, 1) := by decide +kernel
theorem dX11_laysAside_38 : decode cX11_laysAside 38 = .ok (.getfield 13, 3) := by decide +kernel
theorem dX11_laysAside_41 : decode cX11_laysAside 41 = .ok (.iload_n 2, 1) := by decide +kernel
theorem dX11_laysAside_42 : decode cX11_laysAside 42 = .ok (.invokestatic 54, 3) := by decide +kernel
theorem dX11_laysAside_45 : decode cX11_laysAside 45 = .ok (.iconst 0, 1) := by decide +kernel
theorem dX11_laysAside_46 : decode cX11_laysAside 46 = .ok (.iadd, 1) := by decide +kernel
theorem dX11_laysAside_47 : decode cX11_laysAside 47 = .ok (.iaload, 1) := by decide +kernel
theorem dX11_laysAside_48 : decode cX11_laysAside 48 = .ok (.goto 17, 3) := by decide +kernel
theorem dX11_laysAside_51 : decode cX11_laysAside 51 = .ok (.aload_n 0, 1) := by decide +kernel
theorem dX11_laysAside_52 : decode cX11_laysAside 52 = .ok (.getfield 13, 3) := by decide +kernel
theorem dX11_laysAside_55 : decode cX11_laysAside 55 = .ok (.iload_n 2, 1) := by decide +kernel
theorem dX11_laysAside_56 : decode cX11_laysAside 56 = .ok (.invokestatic 54, 3) := by decide +kernel
theorem dX11_laysAside_59 : decode cX11_laysAside 59 = .ok (.bipush 14, 2) := by decide +kernel
theorem dX11_laysAside_61 : decode cX11_laysAside 61 = .ok (.iadd, 1) := by decide +kernel
theorem dX11_laysAside_62 : decode cX11_laysAside 62 = .ok (.iload_n 3, 1) := by decide +kernel
theorem dX11_laysAside_63 : decode cX11_laysAside 63 = .ok (.iadd, 1) := by decide +kernel
theorem dX11_laysAside_64 : decode cX11_laysAside 64 = .ok (.iaload, 1) := by decide +kernel
theorem dX11_laysAside_65 : decode cX11_laysAside 65 = .ok (.iastore, 1) := by decide +kernel
theorem dX11_laysAside_66 : decode cX11_laysAside 66 = .ok (.iinc 3 1, 3) := by decide +kernel
theorem dX11_laysAside_69 : decode cX11_laysAside 69 = .ok (.goto (-59), 3) := by decide +kernel
theorem dX11_laysAside_72 : decode cX11_laysAside 72 = .ok (.iinc 2 1, 3) := by decide +kernel
theorem dX11_laysAside_75 : decode cX11_laysAside 75 = .ok (.goto (-73), 3) := by decide +kernel
theorem dX11_laysAside_78 : decode cX11_laysAside 78 = .ok (.return_, 1) := by decide +kernel
theorem dX11_undoes_0 : decode cX11_undoes 0 = .ok (.iconst 0, 1) := by decide +kernel
theorem dX11_undoes_1 : decode cX11_undoes 1 = .ok (.istore_n 2, 1) := by decide +kernel
theorem dX11_undoes_2 : decode cX11_undoes 2 = .ok (.iload_n 2, 1) := by decide +kernel
theorem dX11_undoes_3 : decode cX11_undoes 3 = .ok (.bipush 6, 2) := by decide +kernel
theorem dX11_undoes_5 : decode cX11_undoes 5 = .ok (.if_icmp .ge 81, 3) := by decide +kernel
theorem dX11_undoes_8 : decode cX11_undoes 8 = .ok (.iconst 0, 1) := by decide +kernel
theorem dX11_undoes_9 : decode cX11_undoes 9 = .ok (.istore_n 3, 1) := by decide +kernel
theorem dX11_undoes_10 : decode cX11_undoes 10 = .ok (.iload_n 3, 1) := by decide +kernel
theorem dX11_undoes_11 : decode cX11_undoes 11 = .ok (.bipush 8, 2) := by decide +kernel
theorem dX11_undoes_13 : decode cX11_undoes 13 = .ok (.if_icmp .ge 39, 3) := by decide +kernel
theorem dX11_undoes_16 : decode cX11_undoes 16 = .ok (.aload_n 0, 1) := by decide +kernel
theorem dX11_undoes_17 : decode cX11_undoes 17 = .ok (.getfield 13, 3) := by decide +kernel
theorem dX11_undoes_20 : decode cX11_undoes 20 = .ok (.iload_n 2, 1) := by decide +kernel
theorem dX11_undoes_21 : decode cX11_undoes 21 = .ok (.invokestatic 54, 3) := by decide +kernel
theorem dX11_undoes_24 : decode cX11_undoes 24 = .ok (.bipush 14, 2) := by decide +kernel
theorem dX11_undoes_26 : decode cX11_undoes 26 = .ok (.iadd, 1) := by decide +kernel
theorem dX11_undoes_27 : decode cX11_undoes 27 = .ok (.iload_n 3, 1) := by decide +kernel
theorem dX11_undoes_28 : decode cX11_undoes 28 = .ok (.iadd, 1) := by decide +kernel
theorem dX11_undoes_29 : decode cX11_undoes 29 = .ok (.aload_n 0, 1) := by decide +kernel
theorem dX11_undoes_30 : decode cX11_undoes 30 = .ok (.getfield 19, 3) := by decide +kernel
theorem dX11_undoes_33 : decode cX11_undoes 33 = .ok (.bipush 54, 2) := by decide +kernel
theorem dX11_undoes_35 : decode cX11_undoes 35 = .ok (.iload_n 1, 1) := by decide +kernel
theorem dX11_undoes_36 : decode cX11_undoes 36 = .ok (.imul, 1) := by decide +kernel
theorem dX11_undoes_37 : decode cX11_undoes 37 = .ok (.bipush 9, 2) := by decide +kernel
theorem dX11_undoes_39 : decode cX11_undoes 39 = .ok (.iload_n 2, 1) := by decide +kernel
theorem dX11_undoes_40 : decode cX11_undoes 40 = .ok (.imul, 1) := by decide +kernel
theorem dX11_undoes_41 : decode cX11_undoes 41 = .ok (.iadd, 1) := by decide +kernel
theorem dX11_undoes_42 : decode cX11_undoes 42 = .ok (.iload_n 3, 1) := by decide +kernel
theorem dX11_undoes_43 : decode cX11_undoes 43 = .ok (.iadd, 1) := by decide +kernel
theorem dX11_undoes_44 : decode cX11_undoes 44 = .ok (.iaload, 1) := by decide +kernel
theorem dX11_undoes_45 : decode cX11_undoes 45 = .ok (.iastore, 1) := by decide +kernel
theorem dX11_undoes_46 : decode cX11_undoes 46 = .ok (.iinc 3 1, 3) := by decide +kernel
theorem dX11_undoes_49 : decode cX11_undoes 49 = .ok (.goto (-39), 3) := by decide +kernel
theorem dX11_undoes_52 : decode cX11_undoes 52 = .ok (.aload_n 0, 1) := by decide +kernel
theorem dX11_undoes_53 : decode cX11_undoes 53 = .ok (.getfield 13, 3) := by decide +kernel
theorem dX11_undoes_56 : decode cX11_undoes 56 = .ok (.iload_n 2, 1) := by decide +kernel
theorem dX11_undoes_57 : decode cX11_undoes 57 = .ok (.invokestatic 54, 3) := by decide +kernel
theorem dX11_undoes_60 : decode cX11_undoes 60 = .ok (.iconst 0, 1) := by decide +kernel
theorem dX11_undoes_61 : decode cX11_undoes 61 = .ok (.iadd, 1) := by decide +kernel
theorem dX11_undoes_62 : decode cX11_undoes 62 = .ok (.aload_n 0, 1) := by decide +kernel
theorem dX11_undoes_63 : decode cX11_undoes 63 = .ok (.getfield 19, 3) := by decide +kernel
theorem dX11_undoes_66 : decode cX11_undoes 66 = .ok (.bipush 54, 2) := by decide +kernel
theorem dX11_undoes_68 : decode cX11_undoes 68 = .ok (.iload_n 1, 1) := by decide +kernel
theorem dX11_undoes_69 : decode cX11_undoes 69 = .ok (.imul, 1) := by decide +kernel
theorem dX11_undoes_70 : decode cX11_undoes 70 = .ok (.bipush 9, 2) := by decide +kernel
theorem dX11_undoes_72 : decode cX11_undoes 72 = .ok (.iload_n 2, 1) := by decide +kernel
theorem dX11_undoes_73 : decode cX11_undoes 73 = .ok (.imul, 1) := by decide +kernel
theorem dX11_undoes_74 : decode cX11_undoes 74 = .ok (.iadd, 1) := by decide +kernel
theorem dX11_undoes_75 : decode cX11_undoes 75 = .ok (.bipush 8, 2) := by decide +kernel
theorem dX11_undoes_77 : decode cX11_undoes 77 = .ok (.iadd, 1) := by decide +kernel
theorem dX11_undoes_78 : decode cX11_undoes 78 = .ok (.iaload, 1) := by decide +kernel
theorem dX11_undoes_79 : decode cX11_undoes 79 = .ok (.iastore, 1) := by decide +kernel
theorem dX11_undoes_80 : decode cX11_undoes 80 = .ok (.iinc 2 1, 3) := by decide +kernel
theorem dX11_undoes_83 : decode cX11_undoes 83 = .ok (.goto (-81), 3) := by decide +kernel
theorem dX11_undoes_86 : decode cX11_undoes 86 = .ok (.return_, 1) := by decide +kernel
theorem dX11_goesFromLine_0 : decode cX11_goesFromLine 0 = .ok (.aload_n 0, 1) := by decide +kernel
theorem dX11_goesFromLine_1 : decode cX11_goesFromLine 1 = .ok (.getfield 13, 3) := by decide +kernel
theorem dX11_goesFromLine_4 : decode cX11_goesFromLine 4 = .ok (.sipush 300, 3) := by decide +kernel
theorem dX11_goesFromLine_7 : decode cX11_goesFromLine 7 = .ok (.iload_n 1, 1) := by decide +kernel
theorem dX11_goesFromLine_8 : decode cX11_goesFromLine 8 = .ok (.iadd, 1) := by decide +kernel
theorem dX11_goesFromLine_9 : decode cX11_goesFromLine 9 = .ok (.iaload, 1) := by decide +kernel
theorem dX11_goesFromLine_10 : decode cX11_goesFromLine 10 = .ok (.istore_n 2, 1) := by decide +kernel
theorem dX11_goesFromLine_11 : decode cX11_goesFromLine 11 = .ok (.aload_n 0, 1) := by decide +kernel
theorem dX11_goesFromLine_12 : decode cX11_goesFromLine 12 = .ok (.getfield 13, 3) := by decide +kernel
theorem dX11_goesFromLine_15 : decode cX11_goesFromLine 15 = .ok (.iconst 4, 1) := by decide +kernel
theorem dX11_goesFromLine_16 : decode cX11_goesFromLine 16 = .ok (.dup2, 1) := by decide +kernel
theorem dX11_goesFromLine_17 : decode cX11_goesFromLine 17 = .ok (.iaload, 1) := by decide +kernel
theorem dX11_goesFromLine_18 : decode cX11_goesFromLine 18 = .ok (.iconst 1, 1) := by decide +kernel
theorem dX11_goesFromLine_19 : decode cX11_goesFromLine 19 = .ok (.isub, 1) := by decide +kernel
theorem dX11_goesFromLine_20 : decode cX11_goesFromLine 20 = .ok (.iastore, 1) := by decide +kernel
theorem dX11_goesFromLine_21 : decode cX11_goesFromLine 21 = .ok (.iload_n 1, 1) := by decide +kernel
theorem dX11_goesFromLine_22 : decode cX11_goesFromLine 22 = .ok (.istore_n 3, 1) := by decide +kernel
theorem dX11_goesFromLine_23 : decode cX11_goesFromLine 23 = .ok (.iload_n 3, 1) := by decide +kernel
theorem dX11_goesFromLine_24 : decode cX11_goesFromLine 24 = .ok (.aload_n 0, 1) := by decide +kernel
theorem dX11_goesFromLine_25 : decode cX11_goesFromLine 25 = .ok (.getfield 13, 3) := by decide +kernel
theorem dX11_goesFromLine_28 : decode cX11_goesFromLine 28 = .ok (.iconst 4, 1) := by decide +kernel
theorem dX11_goesFromLine_29 : decode cX11_goesFromLine 29 = .ok (.iaload, 1) := by decide +kernel
theorem dX11_goesFromLine_30 : decode cX11_goesFromLine 30 = .ok (.if_icmp .ge 31, 3) := by decide +kernel
theorem dX11_goesFromLine_33 : decode cX11_goesFromLine 33 = .ok (.aload_n 0, 1) := by decide +kernel
theorem dX11_goesFromLine_34 : decode cX11_goesFromLine 34 = .ok (.getfield 13, 3) := by decide +kernel
theorem dX11_goesFromLine_37 : decode cX11_goesFromLine 37 = .ok (.sipush 300, 3) := by decide +kernel
theorem dX11_goesFromLine_40 : decode cX11_goesFromLine 40 = .ok (.iload_n 3, 1) := by decide +kernel
theorem dX11_goesFromLine_41 : decode cX11_goesFromLine 41 = .ok (.iadd, 1) := by decide +kernel
theorem dX11_goesFromLine_42 : decode cX11_goesFromLine 42 = .ok (.aload_n 0, 1) := by decide +kernel
theorem dX11_goesFromLine_43 : decode cX11_goesFromLine 43 = .ok (.getfield 13, 3) := by decide +kernel
theorem dX11_goesFromLine_46 : decode cX11_goesFromLine 46 = .ok (.sipush 300, 3) := by decide +kernel
theorem dX11_goesFromLine_49 : decode cX11_goesFromLine 49 = .ok (.iload_n 3, 1) := by decide +kernel
theorem dX11_goesFromLine_50 : decode cX11_goesFromLine 50 = .ok (.iadd, 1) := by decide +kernel
theorem dX11_goesFromLine_51 : decode cX11_goesFromLine 51 = .ok (.iconst 1, 1) := by decide +kernel
theorem dX11_goesFromLine_52 : decode cX11_goesFromLine 52 = .ok (.iadd, 1) := by decide +kernel
theorem dX11_goesFromLine_53 : decode cX11_goesFromLine 53 = .ok (.iaload, 1) := by decide +kernel
theorem dX11_goesFromLine_54 : decode cX11_goesFromLine 54 = .ok (.iastore, 1) := by decide +kernel
theorem dX11_goesFromLine_55 : decode cX11_goesFromLine 55 = .ok (.iinc 3 1, 3) := by decide +kernel
theorem dX11_goesFromLine_58 : decode cX11_goesFromLine 58 = .ok (.goto (-35), 3) := by decide +kernel
theorem dX11_goesFromLine_61 : decode cX11_goesFromLine 61 = .ok (.aload_n 0, 1) := by decide +kernel
theorem dX11_goesFromLine_62 : decode cX11_goesFromLine 62 = .ok (.getfield 13, 3) := by decide +kernel
theorem dX11_goesFromLine_65 : decode cX11_goesFromLine 65 = .ok (.iload_n 2, 1) := by decide +kernel
theorem dX11_goesFromLine_66 : decode cX11_goesFromLine 66 = .ok (.invokestatic 58, 3) := by decide +kernel
theorem dX11_goesFromLine_69 : decode cX11_goesFromLine 69 = .ok (.iconst 0, 1) := by decide +kernel
theorem dX11_goesFromLine_70 : decode cX11_goesFromLine 70 = .ok (.iadd, 1) := by decide +kernel
theorem dX11_goesFromLine_71 : decode cX11_goesFromLine 71 = .ok (.iconst 0, 1) := by decide +kernel
theorem dX11_goesFromLine_72 : decode cX11_goesFromLine 72 = .ok (.iastore, 1) := by decide +kernel
theorem dX11_goesFromLine_73 : decode cX11_goesFromLine 73 = .ok (.aload_n 0, 1) := by decide +kernel
theorem dX11_goesFromLine_74 : decode cX11_goesFromLine 74 = .ok (.getfield 13, 3) := by decide +kernel
theorem dX11_goesFromLine_77 : decode cX11_goesFromLine 77 = .ok (.iload_n 2, 1) := by decide +kernel
theorem dX11_goesFromLine_78 : decode cX11_goesFromLine 78 = .ok (.invokestatic 58, 3) := by decide +kernel
theorem dX11_goesFromLine_81 : decode cX11_goesFromLine 81 = .ok (.iconst 1, 1) := by decide +kernel
theorem dX11_goesFromLine_82 : decode cX11_goesFromLine 82 = .ok (.iadd, 1) := by decide +kernel
theorem dX11_goesFromLine_83 : decode cX11_goesFromLine 83 = .ok (.iconst (-1), 1) := by decide +kernel
theorem dX11_goesFromLine_84 : decode cX11_goesFromLine 84 = .ok (.iastore, 1) := by decide +kernel
theorem dX11_goesFromLine_85 : decode cX11_goesFromLine 85 = .ok (.aload_n 0, 1) := by decide +kernel
theorem dX11_goesFromLine_86 : decode cX11_goesFromLine 86 = .ok (.getfield 13, 3) := by decide +kernel
theorem dX11_goesFromLine_89 : decode cX11_goesFromLine 89 = .ok (.iload_n 2, 1) := by decide +kernel
theorem dX11_goesFromLine_90 : decode cX11_goesFromLine 90 = .ok (.invokestatic 58, 3) := by decide +kernel
theorem dX11_goesFromLine_93 : decode cX11_goesFromLine 93 = .ok (.iconst 2, 1) := by decide +kernel
theorem dX11_goesFromLine_94 : decode cX11_goesFromLine 94 = .ok (.iadd, 1) := by decide +kernel
theorem dX11_goesFromLine_95 : decode cX11_goesFromLine 95 = .ok (.iconst (-1), 1) := by decide +kernel
theorem dX11_goesFromLine_96 : decode cX11_goesFromLine 96 = .ok (.iastore, 1) := by decide +kernel
theorem dX11_goesFromLine_97 : decode cX11_goesFromLine 97 = .ok (.aload_n 0, 1) := by decide +kernel
theorem dX11_goesFromLine_98 : decode cX11_goesFromLine 98 = .ok (.getfield 13, 3) := by decide +kernel
theorem dX11_goesFromLine_101 : decode cX11_goesFromLine 101 = .ok (.iload_n 2, 1) := by decide +kernel
theorem dX11_goesFromLine_102 : decode cX11_goesFromLine 102 = .ok (.invokestatic 58, 3) := by decide +kernel
theorem dX11_goesFromLine_105 : decode cX11_goesFromLine 105 = .ok (.iconst 3, 1) := by decide +kernel
theorem dX11_goesFromLine_106 : decode cX11_goesFromLine 106 = .ok (.iadd, 1) := by decide +kernel
theorem dX11_goesFromLine_107 : decode cX11_goesFromLine 107 = .ok (.iconst (-1), 1) := by decide +kernel
theorem dX11_goesFromLine_108 : decode cX11_goesFromLine 108 = .ok (.iastore, 1) := by decide +kernel
theorem dX11_goesFromLine_109 : decode cX11_goesFromLine 109 = .ok (.return_, 1) := by decide +kernel
theorem dX11_tries_0 : decode cX11_tries 0 = .ok (.iload_n 3, 1) := by decide +kernel
theorem dX11_tries_1 : decode cX11_tries 1 = .ok (.ifCond .ne 12, 3) := by decide +kernel
theorem dX11_tries_4 : decode cX11_tries 4 = .ok (.aload_n 0, 1) := by decide +kernel
theorem dX11_tries_5 : decode cX11_tries 5 = .ok (.iload_n 2, 1) := by decide +kernel
theorem dX11_tries_6 : decode cX11_tries 6 = .ok (.iload 4, 2) := by decide +kernel
theorem dX11_tries_8 : decode cX11_tries 8 = .ok (.iload_n 1, 1) := by decide +kernel
theorem dX11_tries_9 : decode cX11_tries 9 = .ok (.invokevirtual 98, 3) := by decide +kernel
theorem dX11_tries_12 : decode cX11_tries 12 = .ok (.ireturn, 1) := by decide +kernel
theorem dX11_tries_13 : decode cX11_tries 13 = .ok (.aload_n 0, 1) := by decide +kernel
theorem dX11_tries_14 : decode cX11_tries 14 = .ok (.iload_n 2, 1) := by decide +kernel
theorem dX11_tries_15 : decode cX11_tries 15 = .ok (.iload_n 1, 1) := by decide +kernel
theorem dX11_tries_16 : decode cX11_tries 16 = .ok (.invokevirtual 95, 3) := by decide +kernel
theorem dX11_tries_19 : decode cX11_tries 19 = .ok (.istore 5, 2) := by decide +kernel
theorem dX11_tries_21 : decode cX11_tries 21 = .ok (.aload_n 0, 1) := by decide +kernel
theorem dX11_tries_22 : decode cX11_tries 22 = .ok (.getfield 13, 3) := by decide +kernel
theorem dX11_tries_25 : decode cX11_tries 25 = .ok (.iload_n 1, 1) := by decide +kernel
theorem dX11_tries_26 : decode cX11_tries 26 = .ok (.invokestatic 58, 3) := by decide +kernel
theorem dX11_tries_29 : decode cX11_tries 29 = .ok (.iconst 4, 1) := by decide +kernel
theorem dX11_tries_30 : decode cX11_tries 30 = .ok (.iadd, 1) := by decide +kernel
theorem dX11_tries_31 : decode cX11_tries 31 = .ok (.iload 5, 2) := by decide +kernel
theorem dX11_tries_33 : decode cX11_tries 33 = .ok (.iconst (-1), 1) := by decide +kernel
theorem dX11_tries_34 : decode cX11_tries 34 = .ok (.if_icmp .ne 17, 3) := by decide +kernel
theorem dX11_tries_37 : decode cX11_tries 37 = .ok (.aload_n 0, 1) := by decide +kernel
theorem dX11_tries_38 : decode cX11_tries 38 = .ok (.getfield 13, 3) := by decide +kernel
theorem dX11_tries_41 : decode cX11_tries 41 = .ok (.iload_n 1, 1) := by decide +kernel
theorem dX11_tries_42 : decode cX11_tries 42 = .ok (.invokestatic 58, 3) := by decide +kernel
theorem dX11_tries_45 : decode cX11_tries 45 = .ok (.iconst 4, 1) := by decide +kernel
theorem dX11_tries_46 : decode cX11_tries 46 = .ok (.iadd, 1) := by decide +kernel
theorem dX11_tries_47 : decode cX11_tries 47 = .ok (.iaload, 1) := by decide +kernel
theorem dX11_tries_48 : decode cX11_tries 48 = .ok (.goto 5, 3) := by decide +kernel
theorem dX11_tries_51 : decode cX11_tries 51 = .ok (.iload 5, 2) := by decide +kernel
theorem dX11_tries_53 : decode cX11_tries 53 = .ok (.iastore, 1) := by decide +kernel
theorem dX11_tries_54 : decode cX11_tries 54 = .ok (.iload 5, 2) := by decide +kernel
theorem dX11_tries_56 : decode cX11_tries 56 = .ok (.iconst (-1), 1) := by decide +kernel
theorem dX11_tries_57 : decode cX11_tries 57 = .ok (.if_icmp .eq 7, 3) := by decide +kernel
theorem dX11_tries_60 : decode cX11_tries 60 = .ok (.iconst 1, 1) := by decide +kernel
theorem dX11_tries_61 : decode cX11_tries 61 = .ok (.goto 4, 3) := by decide +kernel
theorem dX11_tries_64 : decode cX11_tries 64 = .ok (.iconst 0, 1) := by decide +kernel
theorem dX11_tries_65 : decode cX11_tries 65 = .ok (.ireturn, 1) := by decide +kernel
theorem dX11_serves_0 : decode cX11_serves 0 = .ok (.iconst 0, 1) := by decide +kernel
theorem dX11_serves_1 : decode cX11_serves 1 = .ok (.istore_n 1, 1) := by decide +kernel
theorem dX11_serves_2 : decode cX11_serves 2 = .ok (.iload_n 1, 1) := by decide +kernel
theorem dX11_serves_3 : decode cX11_serves 3 = .ok (.aload_n 0, 1) := by decide +kernel
theorem dX11_serves_4 : decode cX11_serves 4 = .ok (.getfield 13, 3) := by decide +kernel
theorem dX11_serves_7 : decode cX11_serves 7 = .ok (.iconst 4, 1) := by decide +kernel
theorem dX11_serves_8 : decode cX11_serves 8 = .ok (.iaload, 1) := by decide +kernel
theorem dX11_serves_9 : decode cX11_serves 9 = .ok (.if_icmp .ge 67, 3) := by decide +kernel
theorem dX11_serves_12 : decode cX11_serves 12 = .ok (.aload_n 0, 1) := by decide +kernel
theorem dX11_serves_13 : decode cX11_serves 13 = .ok (.getfield 13, 3) := by decide +kernel
theorem dX11_serves_16 : decode cX11_serves 16 = .ok (.sipush 300, 3) := by decide +kernel
theorem dX11_serves_19 : decode cX11_serves 19 = .ok (.iload_n 1, 1) := by decide +kernel
theorem dX11_serves_20 : decode cX11_serves 20 = .ok (.iadd, 1) := by decide +kernel
theorem dX11_serves_21 : decode cX11_serves 21 = .ok (.iaload, 1) := by decide +kernel
theorem dX11_serves_22 : decode cX11_serves 22 = .ok (.istore_n 2, 1) := by decide +kernel
theorem dX11_serves_23 : decode cX11_serves 23 = .ok (.iload_n 2, 1) := by decide +kernel
theorem dX11_serves_24 : decode cX11_serves 24 = .ok (.invokestatic 58, 3) := by decide +kernel
theorem dX11_serves_27 : decode cX11_serves 27 = .ok (.istore_n 3, 1) := by decide +kernel
theorem dX11_serves_28 : decode cX11_serves 28 = .ok (.aload_n 0, 1) := by decide +kernel
theorem dX11_serves_29 : decode cX11_serves 29 = .ok (.iload_n 2, 1) := by decide +kernel
theorem dX11_serves_30 : decode cX11_serves 30 = .ok (.aload_n 0, 1) := by decide +kernel
theorem dX11_serves_31 : decode cX11_serves 31 = .ok (.getfield 13, 3) := by decide +kernel
theorem dX11_serves_34 : decode cX11_serves 34 = .ok (.iload_n 3, 1) := by decide +kernel
theorem dX11_serves_35 : decode cX11_serves 35 = .ok (.iconst 1, 1) := by decide +kernel
theorem dX11_serves_36 : decode cX11_serves 36 = .ok (.iadd, 1) := by decide +kernel
theorem dX11_serves_37 : decode cX11_serves 37 = .ok (.iaload, 1) := by decide +kernel
theorem dX11_serves_38 : decode cX11_serves 38 = .ok (.aload_n 0, 1) := by decide +kernel
theorem dX11_serves_39 : decode cX11_serves 39 = .ok (.getfield 13, 3) := by decide +kernel
theorem dX11_serves_42 : decode cX11_serves 42 = .ok (.iload_n 3, 1) := by decide +kernel
theorem dX11_serves_43 : decode cX11_serves 43 = .ok (.iconst 2, 1) := by decide +kernel
theorem dX11_serves_44 : decode cX11_serves 44 = .ok (.iadd, 1) := by decide +kernel
theorem dX11_serves_45 : decode cX11_serves 45 = .ok (.iaload, 1) := by decide +kernel
theorem dX11_serves_46 : decode cX11_serves 46 = .ok (.aload_n 0, 1) := by decide +kernel
theorem dX11_serves_47 : decode cX11_serves 47 = .ok (.getfield 13, 3) := by decide +kernel
theorem dX11_serves_50 : decode cX11_serves 50 = .ok (.iload_n 3, 1) := by decide +kernel
theorem dX11_serves_51 : decode cX11_serves 51 = .ok (.iconst 3, 1) := by decide +kernel
theorem dX11_serves_52 : decode cX11_serves 52 = .ok (.iadd, 1) := by decide +kernel
theorem dX11_serves_53 : decode cX11_serves 53 = .ok (.iaload, 1) := by decide +kernel
theorem dX11_serves_54 : decode cX11_serves 54 = .ok (.invokevirtual 105, 3) := by decide +kernel
theorem dX11_serves_57 : decode cX11_serves 57 = .ok (.ifCond .eq 13, 3) := by decide +kernel
theorem dX11_serves_60 : decode cX11_serves 60 = .ok (.aload_n 0, 1) := by decide +kernel
theorem dX11_serves_61 : decode cX11_serves 61 = .ok (.iload_n 1, 1) := by decide +kernel
theorem dX11_serves_62 : decode cX11_serves 62 = .ok (.invokevirtual 109, 3) := by decide +kernel
theorem dX11_serves_65 : decode cX11_serves 65 = .ok (.iconst 0, 1) := by decide +kernel
theorem dX11_serves_66 : decode cX11_serves 66 = .ok (.istore_n 1, 1) := by decide +kernel
theorem dX11_serves_67 : decode cX11_serves 67 = .ok (.goto 6, 3) := by decide +kernel
theorem dX11_serves_70 : decode cX11_serves 70 = .ok (.iinc 1 1, 3) := by decide +kernel
theorem dX11_serves_73 : decode cX11_serves 73 = .ok (.goto (-71), 3) := by decide +kernel
theorem dX11_serves_76 : decode cX11_serves 76 = .ok (.return_, 1) := by decide +kernel
theorem dX11_starts_0 : decode cX11_starts 0 = .ok (.aload_n 0, 1) := by decide +kernel
theorem dX11_starts_1 : decode cX11_starts 1 = .ok (.getfield 13, 3) := by decide +kernel
theorem dX11_starts_4 : decode cX11_starts 4 = .ok (.iload_n 1, 1) := by decide +kernel
theorem dX11_starts_5 : decode cX11_starts 5 = .ok (.bipush 6, 2) := by decide +kernel
theorem dX11_starts_7 : decode cX11_starts 7 = .ok (.iadd, 1) := by decide +kernel
theorem dX11_starts_8 : decode cX11_starts 8 = .ok (.iconst 1, 1) := by decide +kernel
theorem dX11_starts_9 : decode cX11_starts 9 = .ok (.iastore, 1) := by decide +kernel
theorem dX11_starts_10 : decode cX11_starts 10 = .ok (.aload_n 0, 1) := by decide +kernel
theorem dX11_starts_11 : decode cX11_starts 11 = .ok (.getfield 13, 3) := by decide +kernel
theorem dX11_starts_14 : decode cX11_starts 14 = .ok (.iload_n 1, 1) := by decide +kernel
theorem dX11_starts_15 : decode cX11_starts 15 = .ok (.bipush 7, 2) := by decide +kernel
theorem dX11_starts_17 : decode cX11_starts 17 = .ok (.iadd, 1) := by decide +kernel
theorem dX11_starts_18 : decode cX11_starts 18 = .ok (.aload_n 0, 1) := by decide +kernel
theorem dX11_starts_19 : decode cX11_starts 19 = .ok (.getfield 13, 3) := by decide +kernel
theorem dX11_starts_22 : decode cX11_starts 22 = .ok (.iload_n 1, 1) := by decide +kernel
theorem dX11_starts_23 : decode cX11_starts 23 = .ok (.iconst 3, 1) := by decide +kernel
theorem dX11_starts_24 : decode cX11_starts 24 = .ok (.iadd, 1) := by decide +kernel
theorem dX11_starts_25 : decode cX11_starts 25 = .ok (.iaload, 1) := by decide +kernel
theorem dX11_starts_26 : decode cX11_starts 26 = .ok (.iastore, 1) := by decide +kernel
theorem dX11_starts_27 : decode cX11_starts 27 = .ok (.aload_n 0, 1) := by decide +kernel
theorem dX11_starts_28 : decode cX11_starts 28 = .ok (.getfield 13, 3) := by decide +kernel
theorem dX11_starts_31 : decode cX11_starts 31 = .ok (.iload_n 1, 1) := by decide +kernel
theorem dX11_starts_32 : decode cX11_starts 32 = .ok (.bipush 8, 2) := by decide +kernel
theorem dX11_starts_34 : decode cX11_starts 34 = .ok (.iadd, 1) := by decide +kernel
theorem dX11_starts_35 : decode cX11_starts 35 = .ok (.iload_n 2, 1) := by decide +kernel
theorem dX11_starts_36 : decode cX11_starts 36 = .ok (.aload_n 0, 1) := by decide +kernel
theorem dX11_starts_37 : decode cX11_starts 37 = .ok (.getfield 13, 3) := by decide +kernel
theorem dX11_starts_40 : decode cX11_starts 40 = .ok (.iload_n 1, 1) := by decide +kernel
theorem dX11_starts_41 : decode cX11_starts 41 = .ok (.iconst 4, 1) := by decide +kernel
theorem dX11_starts_42 : decode cX11_starts 42 = .ok (.iadd, 1) := by decide +kernel
theorem dX11_starts_43 : decode cX11_starts 43 = .ok (.iaload, 1) := by decide +kernel
theorem dX11_starts_44 : decode cX11_starts 44 = .ok (.iadd, 1) := by decide +kernel
theorem dX11_starts_45 : decode cX11_starts 45 = .ok (.bipush 10, 2) := by decide +kernel
theorem dX11_starts_47 : decode cX11_starts 47 = .ok (.irem, 1) := by decide +kernel
theorem dX11_starts_48 : decode cX11_starts 48 = .ok (.iastore, 1) := by decide +kernel
theorem dX11_starts_49 : decode cX11_starts 49 = .ok (.return_, 1) := by decide +kernel
theorem dX11_takesBoth_0 : decode cX11_takesBoth 0 = .ok (.aload_n 0, 1) := by decide +kernel
theorem dX11_takesBoth_1 : decode cX11_takesBoth 1 = .ok (.getfield 13, 3) := by decide +kernel
theorem dX11_takesBoth_4 : decode cX11_takesBoth 4 = .ok (.iload_n 1, 1) := by decide +kernel
theorem dX11_takesBoth_5 : decode cX11_takesBoth 5 = .ok (.iconst 0, 1) := by decide +kernel
theorem dX11_takesBoth_6 : decode cX11_takesBoth 6 = .ok (.iadd, 1) := by decide +kernel
theorem dX11_takesBoth_7 : decode cX11_takesBoth 7 = .ok (.iaload, 1) := by decide +kernel
theorem dX11_takesBoth_8 : decode cX11_takesBoth 8 = .ok (.istore_n 2, 1) := by decide +kernel
theorem dX11_takesBoth_9 : decode cX11_takesBoth 9 = .ok (.aload_n 0, 1) := by decide +kernel
theorem dX11_takesBoth_10 : decode cX11_takesBoth 10 = .ok (.getfield 13, 3) := by decide +kernel
theorem dX11_takesBoth_13 : decode cX11_takesBoth 13 = .ok (.iload_n 1, 1) := by decide +kernel
theorem dX11_takesBoth_14 : decode cX11_takesBoth 14 = .ok (.iconst 1, 1) := by decide +kernel
theorem dX11_takesBoth_15 : decode cX11_takesBoth 15 = .ok (.iadd, 1) := by decide +kernel
theorem dX11_takesBoth_16 : decode cX11_takesBoth 16 = .ok (.iaload, 1) := by decide +kernel
theorem dX11_takesBoth_17 : decode cX11_takesBoth 17 = .ok (.istore_n 3, 1) := by decide +kernel
theorem dX11_takesBoth_18 : decode cX11_takesBoth 18 = .ok (.iload_n 2, 1) := by decide +kernel
theorem dX11_takesBoth_19 : decode cX11_takesBoth 19 = .ok (.iload_n 3, 1) := by decide +kernel
theorem dX11_takesBoth_20 : decode cX11_takesBoth 20 = .ok (.invokestatic 88, 3) := by decide +kernel
theorem dX11_takesBoth_23 : decode cX11_takesBoth 23 = .ok (.istore 4, 2) := by decide +kernel
theorem dX11_takesBoth_25 : decode cX11_takesBoth 25 = .ok (.iload_n 2, 1) := by decide +kernel
theorem dX11_takesBoth_26 : decode cX11_takesBoth 26 = .ok (.iload_n 3, 1) := by decide +kernel
theorem dX11_takesBoth_27 : decode cX11_takesBoth 27 = .ok (.invokestatic 92, 3) := by decide +kernel
theorem dX11_takesBoth_30 : decode cX11_takesBoth 30 = .ok (.istore 5, 2) := by decide +kernel
theorem dX11_takesBoth_32 : decode cX11_takesBoth 32 = .ok (.aload_n 0, 1) := by decide +kernel
theorem dX11_takesBoth_33 : decode cX11_takesBoth 33 = .ok (.iload 4, 2) := by decide +kernel
theorem dX11_takesBoth_35 : decode cX11_takesBoth 35 = .ok (.invokevirtual 72, 3) := by decide +kernel
theorem dX11_takesBoth_38 : decode cX11_takesBoth 38 = .ok (.aload_n 0, 1) := by decide +kernel
theorem dX11_takesBoth_39 : decode cX11_takesBoth 39 = .ok (.iload 5, 2) := by decide +kernel
theorem dX11_takesBoth_41 : decode cX11_takesBoth 41 = .ok (.invokevirtual 72, 3) := by decide +kernel
theorem dX11_takesBoth_44 : decode cX11_takesBoth 44 = .ok (.aload_n 0, 1) := by decide +kernel
theorem dX11_takesBoth_45 : decode cX11_takesBoth 45 = .ok (.getfield 13, 3) := by decide +kernel
theorem dX11_takesBoth_48 : decode cX11_takesBoth 48 = .ok (.iload_n 2, 1) := by decide +kernel
theorem dX11_takesBoth_49 : decode cX11_takesBoth 49 = .ok (.invokestatic 54, 3) := by decide +kernel
theorem dX11_takesBoth_52 : decode cX11_takesBoth 52 = .ok (.iconst 5, 1) := by decide +kernel
theorem dX11_takesBoth_53 : decode cX11_takesBoth 53 = .ok (.iadd, 1) := by decide +kernel
theorem dX11_takesBoth_54 : decode cX11_takesBoth 54 = .ok (.iaload, 1) := by decide +kernel
theorem dX11_takesBoth_55 : decode cX11_takesBoth 55 = .ok (.iconst (-1), 1) := by decide +kernel
theorem dX11_takesBoth_56 : decode cX11_takesBoth 56 = .ok (.if_icmp .ne 18, 3) := by decide +kernel
theorem dX11_takesBoth_59 : decode cX11_takesBoth 59 = .ok (.aload_n 0, 1) := by decide +kernel
theorem dX11_takesBoth_60 : decode cX11_takesBoth 60 = .ok (.getfield 13, 3) := by decide +kernel
theorem dX11_takesBoth_63 : decode cX11_takesBoth 63 = .ok (.iload_n 3, 1) := by decide +kernel
theorem dX11_takesBoth_64 : decode cX11_takesBoth 64 = .ok (.invokestatic 54, 3) := by decide +kernel
theorem dX11_takesBoth_67 : decode cX11_takesBoth 67 = .ok (.iconst 5, 1) := by decide +kernel
theorem dX11_takesBoth_68 : decode cX11_takesBoth 68 = .ok (.iadd, 1) := by decide +kernel
theorem dX11_takesBoth_69 : decode cX11_takesBoth 69 = .ok (.iaload, 1) := by decide +kernel
theorem dX11_takesBoth_70 : decode cX11_takesBoth 70 = .ok (.iconst (-1), 1) := by decide +kernel
theorem dX11_takesBoth_71 : decode cX11_takesBoth 71 = .ok (.if_icmp .eq 7, 3) := by decide +kernel
theorem dX11_takesBoth_74 : decode cX11_takesBoth 74 = .ok (.iconst 1, 1) := by decide +kernel
theorem dX11_takesBoth_75 : decode cX11_takesBoth 75 = .ok (.goto 4, 3) := by decide +kernel
theorem dX11_takesBoth_78 : decode cX11_takesBoth 78 = .ok (.iconst 0, 1) := by decide +kernel
theorem dX11_takesBoth_79 : decode cX11_takesBoth 79 = .ok (.istore 6, 2) := by decide +kernel
theorem dX11_takesBoth_81 : decode cX11_takesBoth 81 = .ok (.iload_n 2, 1) := by decide +kernel
theorem dX11_takesBoth_82 : decode cX11_takesBoth 82 = .ok (.iload_n 3, 1) := by decide +kernel
theorem dX11_takesBoth_83 : decode cX11_takesBoth 83 = .ok (.if_icmp .ne 26, 3) := by decide +kernel
theorem dX11_takesBoth_86 : decode cX11_takesBoth 86 = .ok (.aload_n 0, 1) := by decide +kernel
theorem dX11_takesBoth_87 : decode cX11_takesBoth 87 = .ok (.getfield 13, 3) := by decide +kernel
theorem dX11_takesBoth_90 : decode cX11_takesBoth 90 = .ok (.iload_n 2, 1) := by decide +kernel
theorem dX11_takesBoth_91 : decode cX11_takesBoth 91 = .ok (.invokestatic 54, 3) := by decide +kernel
theorem dX11_takesBoth_94 : decode cX11_takesBoth 94 = .ok (.iconst 0, 1) := by decide +kernel
theorem dX11_takesBoth_95 : decode cX11_takesBoth 95 = .ok (.iadd, 1) := by decide +kernel
theorem dX11_takesBoth_96 : decode cX11_takesBoth 96 = .ok (.iaload, 1) := by decide +kernel
theorem dX11_takesBoth_97 : decode cX11_takesBoth 97 = .ok (.iconst 1, 1) := by decide +kernel
theorem dX11_takesBoth_98 : decode cX11_takesBoth 98 = .ok (.if_icmp .le 7, 3) := by decide +kernel
theorem dX11_takesBoth_101 : decode cX11_takesBoth 101 = .ok (.iconst 1, 1) := by decide +kernel
theorem dX11_takesBoth_102 : decode cX11_takesBoth 102 = .ok (.goto 40, 3) := by decide +kernel
theorem dX11_takesBoth_105 : decode cX11_takesBoth 105 = .ok (.iconst 0, 1) := by decide +kernel
theorem dX11_takesBoth_106 : decode cX11_takesBoth 106 = .ok (.goto 36, 3) := by decide +kernel
theorem dX11_takesBoth_109 : decode cX11_takesBoth 109 = .ok (.aload_n 0, 1) := by decide +kernel
theorem dX11_takesBoth_110 : decode cX11_takesBoth 110 = .ok (.getfield 13, 3) := by decide +kernel
theorem dX11_takesBoth_113 : decode cX11_takesBoth 113 = .ok (.iload_n 2, 1) := by decide +kernel
theorem dX11_takesBoth_114 : decode cX11_takesBoth 114 = .ok (.invokestatic 54, 3) := by decide +kernel
theorem dX11_takesBoth_117 : decode cX11_takesBoth 117 = .ok (.iconst 0, 1) := by decide +kernel
theorem dX11_takesBoth_118 : decode cX11_takesBoth 118 = .ok (.iadd, 1) := by decide +kernel
theorem dX11_takesBoth_119 : decode cX11_takesBoth 119 = .ok (.iaload, 1) := by decide +kernel
theorem dX11_takesBoth_120 : decode cX11_takesBoth 120 = .ok (.ifCond .le 21, 3) := by decide +kernel
theorem dX11_takesBoth_123 : decode cX11_takesBoth 123 = .ok (.aload_n 0, 1) := by decide +kernel
theorem dX11_takesBoth_124 : decode cX11_takesBoth 124 = .ok (.getfield 13, 3) := by decide +kernel
theorem dX11_takesBoth_127 : decode cX11_takesBoth 127 = .ok (.iload_n 3, 1) := by decide +kernel
theorem dX11_takesBoth_128 : decode cX11_takesBoth 128 = .ok (.invokestatic 54, 3) := by decide +kernel
theorem dX11_takesBoth_131 : decode cX11_takesBoth 131 = .ok (.iconst 0, 1) := by decide +kernel
theorem dX11_takesBoth_132 : decode cX11_takesBoth 132 = .ok (.iadd, 1) := by decide +kernel
theorem dX11_takesBoth_133 : decode cX11_takesBoth 133 = .ok (.iaload, 1) := by decide +kernel
theorem dX11_takesBoth_134 : decode cX11_takesBoth 134 = .ok (.ifCond .le 7, 3) := by decide +kernel
theorem dX11_takesBoth_137 : decode cX11_takesBoth 137 = .ok (.iconst 1, 1) := by decide +kernel
theorem dX11_takesBoth_138 : decode cX11_takesBoth 138 = .ok (.goto 4, 3) := by decide +kernel
theorem dX11_takesBoth_141 : decode cX11_takesBoth 141 = .ok (.iconst 0, 1) := by decide +kernel
theorem dX11_takesBoth_142 : decode cX11_takesBoth 142 = .ok (.istore 7, 2) := by decide +kernel
theorem dX11_takesBoth_144 : decode cX11_takesBoth 144 = .ok (.iload 6, 2) := by decide +kernel
theorem dX11_takesBoth_146 : decode cX11_takesBoth 146 = .ok (.ifCond .ne 8, 3) := by decide +kernel
theorem dX11_takesBoth_149 : decode cX11_takesBoth 149 = .ok (.iload 7, 2) := by decide +kernel
theorem dX11_takesBoth_151 : decode cX11_takesBoth 151 = .ok (.ifCond .ne 29, 3) := by decide +kernel
theorem dX11_takesBoth_154 : decode cX11_takesBoth 154 = .ok (.aload_n 0, 1) := by decide +kernel
theorem dX11_takesBoth_155 : decode cX11_takesBoth 155 = .ok (.iload 5, 2) := by decide +kernel
theorem dX11_takesBoth_157 : decode cX11_takesBoth 157 = .ok (.invokevirtual 79, 3) := by decide +kernel
theorem dX11_takesBoth_160 : decode cX11_takesBoth 160 = .ok (.aload_n 0, 1) := by decide +kernel
theorem dX11_takesBoth_161 : decode cX11_takesBoth 161 = .ok (.iload 4, 2) := by decide +kernel
theorem dX11_takesBoth_163 : decode cX11_takesBoth 163 = .ok (.invokevirtual 79, 3) := by decide +kernel
theorem dX11_takesBoth_166 : decode cX11_takesBoth 166 = .ok (.aload_n 0, 1) := by decide +kernel
theorem dX11_takesBoth_167 : decode cX11_takesBoth 167 = .ok (.getfield 13, 3) := by decide +kernel
theorem dX11_takesBoth_170 : decode cX11_takesBoth 170 = .ok (.iload_n 1, 1) := by decide +kernel
theorem dX11_takesBoth_171 : decode cX11_takesBoth 171 = .ok (.bipush 11, 2) := by decide +kernel
theorem dX11_takesBoth_173 : decode cX11_takesBoth 173 = .ok (.iadd, 1) := by decide +kernel
theorem dX11_takesBoth_174 : decode cX11_takesBoth 174 = .ok (.dup2, 1) := by decide +kernel
theorem dX11_takesBoth_175 : decode cX11_takesBoth 175 = .ok (.iaload, 1) := by decide +kernel
theorem dX11_takesBoth_176 : decode cX11_takesBoth 176 = .ok (.iconst 1, 1) := by decide +kernel
theorem dX11_takesBoth_177 : decode cX11_takesBoth 177 = .ok (.iadd, 1) := by decide +kernel
theorem dX11_takesBoth_178 : decode cX11_takesBoth 178 = .ok (.iastore, 1) := by decide +kernel
theorem dX11_takesBoth_179 : decode cX11_takesBoth 179 = .ok (.return_, 1) := by decide +kernel
theorem dX11_takesBoth_180 : decode cX11_takesBoth 180 = .ok (.aload_n 0, 1) := by decide +kernel
theorem dX11_takesBoth_181 : decode cX11_takesBoth 181 = .ok (.iload_n 2, 1) := by decide +kernel
theorem dX11_takesBoth_182 : decode cX11_takesBoth 182 = .ok (.invokevirtual 85, 3) := by decide +kernel
theorem dX11_takesBoth_185 : decode cX11_takesBoth 185 = .ok (.istore 8, 2) := by decide +kernel
theorem dX11_takesBoth_187 : decode cX11_takesBoth 187 = .ok (.aload_n 0, 1) := by decide +kernel
theorem dX11_takesBoth_188 : decode cX11_takesBoth 188 = .ok (.iload_n 3, 1) := by decide +kernel
theorem dX11_takesBoth_189 : decode cX11_takesBoth 189 = .ok (.invokevirtual 85, 3) := by decide +kernel
theorem dX11_takesBoth_192 : decode cX11_takesBoth 192 = .ok (.istore 9, 2) := by decide +kernel
theorem dX11_takesBoth_194 : decode cX11_takesBoth 194 = .ok (.aload_n 0, 1) := by decide +kernel
theorem dX11_takesBoth_195 : decode cX11_takesBoth 195 = .ok (.iload 5, 2) := by decide +kernel
theorem dX11_takesBoth_197 : decode cX11_takesBoth 197 = .ok (.invokevirtual 82, 3) := by decide +kernel
theorem dX11_takesBoth_200 : decode cX11_takesBoth 200 = .ok (.aload_n 0, 1) := by decide +kernel
theorem dX11_takesBoth_201 : decode cX11_takesBoth 201 = .ok (.iload 4, 2) := by decide +kernel
theorem dX11_takesBoth_203 : decode cX11_takesBoth 203 = .ok (.invokevirtual 82, 3) := by decide +kernel
theorem dX11_takesBoth_206 : decode cX11_takesBoth 206 = .ok (.aload_n 0, 1) := by decide +kernel
theorem dX11_takesBoth_207 : decode cX11_takesBoth 207 = .ok (.iload_n 1, 1) := by decide +kernel
theorem dX11_takesBoth_208 : decode cX11_takesBoth 208 = .ok (.iload 8, 2) := by decide +kernel
theorem dX11_takesBoth_210 : decode cX11_takesBoth 210 = .ok (.iload 9, 2) := by decide +kernel
theorem dX11_takesBoth_212 : decode cX11_takesBoth 212 = .ok (.iadd, 1) := by decide +kernel
theorem dX11_takesBoth_213 : decode cX11_takesBoth 213 = .ok (.invokevirtual 112, 3) := by decide +kernel
theorem dX11_takesBoth_216 : decode cX11_takesBoth 216 = .ok (.return_, 1) := by decide +kernel
theorem dX11_takesOne_0 : decode cX11_takesOne 0 = .ok (.aload_n 0, 1) := by decide +kernel
theorem dX11_takesOne_1 : decode cX11_takesOne 1 = .ok (.aload_n 0, 1) := by decide +kernel
theorem dX11_takesOne_2 : decode cX11_takesOne 2 = .ok (.getfield 13, 3) := by decide +kernel
theorem dX11_takesOne_5 : decode cX11_takesOne 5 = .ok (.iload_n 1, 1) := by decide +kernel
theorem dX11_takesOne_6 : decode cX11_takesOne 6 = .ok (.iconst 0, 1) := by decide +kernel
theorem dX11_takesOne_7 : decode cX11_takesOne 7 = .ok (.iadd, 1) := by decide +kernel
theorem dX11_takesOne_8 : decode cX11_takesOne 8 = .ok (.iaload, 1) := by decide +kernel
theorem dX11_takesOne_9 : decode cX11_takesOne 9 = .ok (.iconst (-1), 1) := by decide +kernel
theorem dX11_takesOne_10 : decode cX11_takesOne 10 = .ok (.invokevirtual 95, 3) := by decide +kernel
theorem dX11_takesOne_13 : decode cX11_takesOne 13 = .ok (.istore_n 2, 1) := by decide +kernel
theorem dX11_takesOne_14 : decode cX11_takesOne 14 = .ok (.iload_n 2, 1) := by decide +kernel
theorem dX11_takesOne_15 : decode cX11_takesOne 15 = .ok (.iconst (-1), 1) := by decide +kernel
theorem dX11_takesOne_16 : decode cX11_takesOne 16 = .ok (.if_icmp .ne 19, 3) := by decide +kernel
theorem dX11_takesOne_19 : decode cX11_takesOne 19 = .ok (.aload_n 0, 1) := by decide +kernel
theorem dX11_takesOne_20 : decode cX11_takesOne 20 = .ok (.getfield 13, 3) := by decide +kernel
theorem dX11_takesOne_23 : decode cX11_takesOne 23 = .ok (.iload_n 1, 1) := by decide +kernel
theorem dX11_takesOne_24 : decode cX11_takesOne 24 = .ok (.bipush 11, 2) := by decide +kernel
theorem dX11_takesOne_26 : decode cX11_takesOne 26 = .ok (.iadd, 1) := by decide +kernel
theorem dX11_takesOne_27 : decode cX11_takesOne 27 = .ok (.dup2, 1) := by decide +kernel
theorem dX11_takesOne_28 : decode cX11_takesOne 28 = .ok (.iaload, 1) := by decide +kernel
theorem dX11_takesOne_29 : decode cX11_takesOne 29 = .ok (.iconst 1, 1) := by decide +kernel
theorem dX11_takesOne_30 : decode cX11_takesOne 30 = .ok (.iadd, 1) := by decide +kernel
theorem dX11_takesOne_31 : decode cX11_takesOne 31 = .ok (.iastore, 1) := by decide +kernel
theorem dX11_takesOne_32 : decode cX11_takesOne 32 = .ok (.goto 9, 3) := by decide +kernel
theorem dX11_takesOne_35 : decode cX11_takesOne 35 = .ok (.aload_n 0, 1) := by decide +kernel
theorem dX11_takesOne_36 : decode cX11_takesOne 36 = .ok (.iload_n 1, 1) := by decide +kernel
theorem dX11_takesOne_37 : decode cX11_takesOne 37 = .ok (.iload_n 2, 1) := by decide +kernel
theorem dX11_takesOne_38 : decode cX11_takesOne 38 = .ok (.invokevirtual 112, 3) := by decide +kernel
theorem dX11_takesOne_41 : decode cX11_takesOne 41 = .ok (.return_, 1) := by decide +kernel
theorem dX11_worksOn_0 : decode cX11_worksOn 0 = .ok (.aload_n 0, 1) := by decide +kernel
theorem dX11_worksOn_1 : decode cX11_worksOn 1 = .ok (.getfield 13, 3) := by decide +kernel
theorem dX11_worksOn_4 : decode cX11_worksOn 4 = .ok (.iload_n 1, 1) := by decide +kernel
theorem dX11_worksOn_5 : decode cX11_worksOn 5 = .ok (.bipush 6, 2) := by decide +kernel
theorem dX11_worksOn_7 : decode cX11_worksOn 7 = .ok (.iadd, 1) := by decide +kernel
theorem dX11_worksOn_8 : decode cX11_worksOn 8 = .ok (.iaload, 1) := by decide +kernel
theorem dX11_worksOn_9 : decode cX11_worksOn 9 = .ok (.iconst 1, 1) := by decide +kernel
theorem dX11_worksOn_10 : decode cX11_worksOn 10 = .ok (.if_icmp .ne 42, 3) := by decide +kernel
theorem dX11_worksOn_13 : decode cX11_worksOn 13 = .ok (.aload_n 0, 1) := by decide +kernel
theorem dX11_worksOn_14 : decode cX11_worksOn 14 = .ok (.getfield 13, 3) := by decide +kernel
theorem dX11_worksOn_17 : decode cX11_worksOn 17 = .ok (.iload_n 1, 1) := by decide +kernel
theorem dX11_worksOn_18 : decode cX11_worksOn 18 = .ok (.bipush 7, 2) := by decide +kernel
theorem dX11_worksOn_20 : decode cX11_worksOn 20 = .ok (.iadd, 1) := by decide +kernel
theorem dX11_worksOn_21 : decode cX11_worksOn 21 = .ok (.dup2, 1) := by decide +kernel
theorem dX11_worksOn_22 : decode cX11_worksOn 22 = .ok (.iaload, 1) := by decide +kernel
theorem dX11_worksOn_23 : decode cX11_worksOn 23 = .ok (.iconst 1, 1) := by decide +kernel
theorem dX11_worksOn_24 : decode cX11_worksOn 24 = .ok (.isub, 1) := by decide +kernel
theorem dX11_worksOn_25 : decode cX11_worksOn 25 = .ok (.iastore, 1) := by decide +kernel
theorem dX11_worksOn_26 : decode cX11_worksOn 26 = .ok (.aload_n 0, 1) := by decide +kernel
theorem dX11_worksOn_27 : decode cX11_worksOn 27 = .ok (.getfield 13, 3) := by decide +kernel
theorem dX11_worksOn_30 : decode cX11_worksOn 30 = .ok (.iload_n 1, 1) := by decide +kernel
theorem dX11_worksOn_31 : decode cX11_worksOn 31 = .ok (.bipush 6, 2) := by decide +kernel
theorem dX11_worksOn_33 : decode cX11_worksOn 33 = .ok (.iadd, 1) := by decide +kernel
theorem dX11_worksOn_34 : decode cX11_worksOn 34 = .ok (.aload_n 0, 1) := by decide +kernel
theorem dX11_worksOn_35 : decode cX11_worksOn 35 = .ok (.getfield 13, 3) := by decide +kernel
theorem dX11_worksOn_38 : decode cX11_worksOn 38 = .ok (.iload_n 1, 1) := by decide +kernel
theorem dX11_worksOn_39 : decode cX11_worksOn 39 = .ok (.bipush 7, 2) := by decide +kernel
theorem dX11_worksOn_41 : decode cX11_worksOn 41 = .ok (.iadd, 1) := by decide +kernel
theorem dX11_worksOn_42 : decode cX11_worksOn 42 = .ok (.iaload, 1) := by decide +kernel
theorem dX11_worksOn_43 : decode cX11_worksOn 43 = .ok (.ifCond .ne 7, 3) := by decide +kernel
theorem dX11_worksOn_46 : decode cX11_worksOn 46 = .ok (.iconst 2, 1) := by decide +kernel
theorem dX11_worksOn_47 : decode cX11_worksOn 47 = .ok (.goto 4, 3) := by decide +kernel
theorem dX11_worksOn_50 : decode cX11_worksOn 50 = .ok (.iconst 1, 1) := by decide +kernel
theorem dX11_worksOn_51 : decode cX11_worksOn 51 = .ok (.iastore, 1) := by decide +kernel
theorem dX11_worksOn_52 : decode cX11_worksOn 52 = .ok (.aload_n 0, 1) := by decide +kernel
theorem dX11_worksOn_53 : decode cX11_worksOn 53 = .ok (.getfield 13, 3) := by decide +kernel
theorem dX11_worksOn_56 : decode cX11_worksOn 56 = .ok (.iload_n 1, 1) := by decide +kernel
theorem dX11_worksOn_57 : decode cX11_worksOn 57 = .ok (.bipush 6, 2) := by decide +kernel
theorem dX11_worksOn_59 : decode cX11_worksOn 59 = .ok (.iadd, 1) := by decide +kernel
theorem dX11_worksOn_60 : decode cX11_worksOn 60 = .ok (.iaload, 1) := by decide +kernel
theorem dX11_worksOn_61 : decode cX11_worksOn 61 = .ok (.iconst 2, 1) := by decide +kernel
theorem dX11_worksOn_62 : decode cX11_worksOn 62 = .ok (.if_icmp .ne 67, 3) := by decide +kernel
theorem dX11_worksOn_65 : decode cX11_worksOn 65 = .ok (.aload_n 0, 1) := by decide +kernel
theorem dX11_worksOn_66 : decode cX11_worksOn 66 = .ok (.aload_n 0, 1) := by decide +kernel
theorem dX11_worksOn_67 : decode cX11_worksOn 67 = .ok (.getfield 13, 3) := by decide +kernel
theorem dX11_worksOn_70 : decode cX11_worksOn 70 = .ok (.iload_n 1, 1) := by decide +kernel
theorem dX11_worksOn_71 : decode cX11_worksOn 71 = .ok (.iconst 2, 1) := by decide +kernel
theorem dX11_worksOn_72 : decode cX11_worksOn 72 = .ok (.iadd, 1) := by decide +kernel
theorem dX11_worksOn_73 : decode cX11_worksOn 73 = .ok (.iaload, 1) := by decide +kernel
theorem dX11_worksOn_74 : decode cX11_worksOn 74 = .ok (.aload_n 0, 1) := by decide +kernel
theorem dX11_worksOn_75 : decode cX11_worksOn 75 = .ok (.getfield 13, 3) := by decide +kernel
theorem dX11_worksOn_78 : decode cX11_worksOn 78 = .ok (.iload_n 1, 1) := by decide +kernel
theorem dX11_worksOn_79 : decode cX11_worksOn 79 = .ok (.bipush 8, 2) := by decide +kernel
theorem dX11_worksOn_81 : decode cX11_worksOn 81 = .ok (.iadd, 1) := by decide +kernel
theorem dX11_worksOn_82 : decode cX11_worksOn 82 = .ok (.iaload, 1) := by decide +kernel
theorem dX11_worksOn_83 : decode cX11_worksOn 83 = .ok (.iconst (-1), 1) := by decide +kernel
theorem dX11_worksOn_84 : decode cX11_worksOn 84 = .ok (.invokevirtual 98, 3) := by decide +kernel
theorem dX11_worksOn_87 : decode cX11_worksOn 87 = .ok (.ifCond .eq 29, 3) := by decide +kernel
theorem dX11_worksOn_90 : decode cX11_worksOn 90 = .ok (.aload_n 0, 1) := by decide +kernel
theorem dX11_worksOn_91 : decode cX11_worksOn 91 = .ok (.getfield 13, 3) := by decide +kernel
theorem dX11_worksOn_94 : decode cX11_worksOn 94 = .ok (.iload_n 1, 1) := by decide +kernel
theorem dX11_worksOn_95 : decode cX11_worksOn 95 = .ok (.bipush 6, 2) := by decide +kernel
theorem dX11_worksOn_97 : decode cX11_worksOn 97 = .ok (.iadd, 1) := by decide +kernel
theorem dX11_worksOn_98 : decode cX11_worksOn 98 = .ok (.iconst 0, 1) := by decide +kernel
theorem dX11_worksOn_99 : decode cX11_worksOn 99 = .ok (.iastore, 1) := by decide +kernel
theorem dX11_worksOn_100 : decode cX11_worksOn 100 = .ok (.aload_n 0, 1) := by decide +kernel
theorem dX11_worksOn_101 : decode cX11_worksOn 101 = .ok (.getfield 13, 3) := by decide +kernel
theorem dX11_worksOn_104 : decode cX11_worksOn 104 = .ok (.iload_n 1, 1) := by decide +kernel
theorem dX11_worksOn_105 : decode cX11_worksOn 105 = .ok (.bipush 9, 2) := by decide +kernel
theorem dX11_worksOn_107 : decode cX11_worksOn 107 = .ok (.iadd, 1) := by decide +kernel
theorem dX11_worksOn_108 : decode cX11_worksOn 108 = .ok (.dup2, 1) := by decide +kernel
theorem dX11_worksOn_109 : decode cX11_worksOn 109 = .ok (.iaload, 1) := by decide +kernel
theorem dX11_worksOn_110 : decode cX11_worksOn 110 = .ok (.iconst 1, 1) := by decide +kernel
theorem dX11_worksOn_111 : decode cX11_worksOn 111 = .ok (.iadd, 1) := by decide +kernel
theorem dX11_worksOn_112 : decode cX11_worksOn 112 = .ok (.iastore, 1) := by decide +kernel
theorem dX11_worksOn_113 : decode cX11_worksOn 113 = .ok (.goto 16, 3) := by decide +kernel
theorem dX11_worksOn_116 : decode cX11_worksOn 116 = .ok (.aload_n 0, 1) := by decide +kernel
theorem dX11_worksOn_117 : decode cX11_worksOn 117 = .ok (.getfield 13, 3) := by decide +kernel
theorem dX11_worksOn_120 : decode cX11_worksOn 120 = .ok (.iload_n 1, 1) := by decide +kernel
theorem dX11_worksOn_121 : decode cX11_worksOn 121 = .ok (.bipush 10, 2) := by decide +kernel
theorem dX11_worksOn_123 : decode cX11_worksOn 123 = .ok (.iadd, 1) := by decide +kernel
theorem dX11_worksOn_124 : decode cX11_worksOn 124 = .ok (.dup2, 1) := by decide +kernel
theorem dX11_worksOn_125 : decode cX11_worksOn 125 = .ok (.iaload, 1) := by decide +kernel
theorem dX11_worksOn_126 : decode cX11_worksOn 126 = .ok (.iconst 1, 1) := by decide +kernel
theorem dX11_worksOn_127 : decode cX11_worksOn 127 = .ok (.iadd, 1) := by decide +kernel
theorem dX11_worksOn_128 : decode cX11_worksOn 128 = .ok (.iastore, 1) := by decide +kernel
theorem dX11_worksOn_129 : decode cX11_worksOn 129 = .ok (.aload_n 0, 1) := by decide +kernel
theorem dX11_worksOn_130 : decode cX11_worksOn 130 = .ok (.getfield 13, 3) := by decide +kernel
theorem dX11_worksOn_133 : decode cX11_worksOn 133 = .ok (.iload_n 1, 1) := by decide +kernel
theorem dX11_worksOn_134 : decode cX11_worksOn 134 = .ok (.bipush 6, 2) := by decide +kernel
theorem dX11_worksOn_136 : decode cX11_worksOn 136 = .ok (.iadd, 1) := by decide +kernel
theorem dX11_worksOn_137 : decode cX11_worksOn 137 = .ok (.iaload, 1) := by decide +kernel
theorem dX11_worksOn_138 : decode cX11_worksOn 138 = .ok (.ifCond .ne 28, 3) := by decide +kernel
theorem dX11_worksOn_141 : decode cX11_worksOn 141 = .ok (.aload_n 0, 1) := by decide +kernel
theorem dX11_worksOn_142 : decode cX11_worksOn 142 = .ok (.getfield 13, 3) := by decide +kernel
theorem dX11_worksOn_145 : decode cX11_worksOn 145 = .ok (.iload_n 1, 1) := by decide +kernel
theorem dX11_worksOn_146 : decode cX11_worksOn 146 = .ok (.iconst 1, 1) := by decide +kernel
theorem dX11_worksOn_147 : decode cX11_worksOn 147 = .ok (.iadd, 1) := by decide +kernel
theorem dX11_worksOn_148 : decode cX11_worksOn 148 = .ok (.iaload, 1) := by decide +kernel
theorem dX11_worksOn_149 : decode cX11_worksOn 149 = .ok (.iconst (-1), 1) := by decide +kernel
theorem dX11_worksOn_150 : decode cX11_worksOn 150 = .ok (.if_icmp .ne 11, 3) := by decide +kernel
theorem dX11_worksOn_153 : decode cX11_worksOn 153 = .ok (.aload_n 0, 1) := by decide +kernel
theorem dX11_worksOn_154 : decode cX11_worksOn 154 = .ok (.iload_n 1, 1) := by decide +kernel
theorem dX11_worksOn_155 : decode cX11_worksOn 155 = .ok (.invokevirtual 115, 3) := by decide +kernel
theorem dX11_worksOn_158 : decode cX11_worksOn 158 = .ok (.goto 8, 3) := by decide +kernel
theorem dX11_worksOn_161 : decode cX11_worksOn 161 = .ok (.aload_n 0, 1) := by decide +kernel
theorem dX11_worksOn_162 : decode cX11_worksOn 162 = .ok (.iload_n 1, 1) := by decide +kernel
theorem dX11_worksOn_163 : decode cX11_worksOn 163 = .ok (.invokevirtual 118, 3) := by decide +kernel
theorem dX11_worksOn_166 : decode cX11_worksOn 166 = .ok (.return_, 1) := by decide +kernel
theorem dX11_madeOfAll_0 : decode cX11_madeOfAll 0 = .ok (.iconst 0, 1) := by decide +kernel
theorem dX11_madeOfAll_1 : decode cX11_madeOfAll 1 = .ok (.istore_n 1, 1) := by decide +kernel
theorem dX11_madeOfAll_2 : decode cX11_madeOfAll 2 = .ok (.iconst 0, 1) := by decide +kernel
theorem dX11_madeOfAll_3 : decode cX11_madeOfAll 3 = .ok (.istore_n 2, 1) := by decide +kernel
theorem dX11_madeOfAll_4 : decode cX11_madeOfAll 4 = .ok (.iload_n 2, 1) := by decide +kernel
theorem dX11_madeOfAll_5 : decode cX11_madeOfAll 5 = .ok (.aload_n 0, 1) := by decide +kernel
theorem dX11_madeOfAll_6 : decode cX11_madeOfAll 6 = .ok (.getfield 13, 3) := by decide +kernel
theorem dX11_madeOfAll_9 : decode cX11_madeOfAll 9 = .ok (.iconst 1, 1) := by decide +kernel
theorem dX11_madeOfAll_10 : decode cX11_madeOfAll 10 = .ok (.iaload, 1) := by decide +kernel
theorem dX11_madeOfAll_11 : decode cX11_madeOfAll 11 = .ok (.if_icmp .ge 24, 3) := by decide +kernel
theorem dX11_madeOfAll_14 : decode cX11_madeOfAll 14 = .ok (.iload_n 1, 1) := by decide +kernel
theorem dX11_madeOfAll_15 : decode cX11_madeOfAll 15 = .ok (.aload_n 0, 1) := by decide +kernel
theorem dX11_madeOfAll_16 : decode cX11_madeOfAll 16 = .ok (.getfield 13, 3) := by decide +kernel
theorem dX11_madeOfAll_19 : decode cX11_madeOfAll 19 = .ok (.iload_n 2, 1) := by decide +kernel
theorem dX11_madeOfAll_20 : decode cX11_madeOfAll 20 = .ok (.invokestatic 121, 3) := by decide +kernel
theorem dX11_madeOfAll_23 : decode cX11_madeOfAll 23 = .ok (.bipush 9, 2) := by decide +kernel
theorem dX11_madeOfAll_25 : decode cX11_madeOfAll 25 = .ok (.iadd, 1) := by decide +kernel
theorem dX11_madeOfAll_26 : decode cX11_madeOfAll 26 = .ok (.iaload, 1) := by decide +kernel
theorem dX11_madeOfAll_27 : decode cX11_madeOfAll 27 = .ok (.iadd, 1) := by decide +kernel
theorem dX11_madeOfAll_28 : decode cX11_madeOfAll 28 = .ok (.istore_n 1, 1) := by decide +kernel
theorem dX11_madeOfAll_29 : decode cX11_madeOfAll 29 = .ok (.iinc 2 1, 3) := by decide +kernel
theorem dX11_madeOfAll_32 : decode cX11_madeOfAll 32 = .ok (.goto (-28), 3) := by decide +kernel
theorem dX11_madeOfAll_35 : decode cX11_madeOfAll 35 = .ok (.iload_n 1, 1) := by decide +kernel
theorem dX11_madeOfAll_36 : decode cX11_madeOfAll 36 = .ok (.ireturn, 1) := by decide +kernel
theorem dX11_tick_0 : decode cX11_tick 0 = .ok (.iconst 0, 1) := by decide +kernel
theorem dX11_tick_1 : decode cX11_tick 1 = .ok (.istore_n 1, 1) := by decide +kernel
theorem dX11_tick_2 : decode cX11_tick 2 = .ok (.iload_n 1, 1) := by decide +kernel
theorem dX11_tick_3 : decode cX11_tick 3 = .ok (.aload_n 0, 1) := by decide +kernel
theorem dX11_tick_4 : decode cX11_tick 4 = .ok (.getfield 13, 3) := by decide +kernel
theorem dX11_tick_7 : decode cX11_tick 7 = .ok (.iconst 1, 1) := by decide +kernel
theorem dX11_tick_8 : decode cX11_tick 8 = .ok (.iaload, 1) := by decide +kernel
theorem dX11_tick_9 : decode cX11_tick 9 = .ok (.if_icmp .ge 61, 3) := by decide +kernel
theorem dX11_tick_12 : decode cX11_tick 12 = .ok (.iload_n 1, 1) := by decide +kernel
theorem dX11_tick_13 : decode cX11_tick 13 = .ok (.invokestatic 121, 3) := by decide +kernel
theorem dX11_tick_16 : decode cX11_tick 16 = .ok (.istore_n 2, 1) := by decide +kernel
theorem dX11_tick_17 : decode cX11_tick 17 = .ok (.aload_n 0, 1) := by decide +kernel
theorem dX11_tick_18 : decode cX11_tick 18 = .ok (.getfield 13, 3) := by decide +kernel
theorem dX11_tick_21 : decode cX11_tick 21 = .ok (.iload_n 2, 1) := by decide +kernel
theorem dX11_tick_22 : decode cX11_tick 22 = .ok (.iconst 5, 1) := by decide +kernel
theorem dX11_tick_23 : decode cX11_tick 23 = .ok (.iadd, 1) := by decide +kernel
theorem dX11_tick_24 : decode cX11_tick 24 = .ok (.iaload, 1) := by decide +kernel
theorem dX11_tick_25 : decode cX11_tick 25 = .ok (.istore_n 3, 1) := by decide +kernel
theorem dX11_tick_26 : decode cX11_tick 26 = .ok (.iload_n 3, 1) := by decide +kernel
theorem dX11_tick_27 : decode cX11_tick 27 = .ok (.iconst (-1), 1) := by decide +kernel
theorem dX11_tick_28 : decode cX11_tick 28 = .ok (.if_icmp .ne 16, 3) := by decide +kernel
theorem dX11_tick_31 : decode cX11_tick 31 = .ok (.aload_n 0, 1) := by decide +kernel
theorem dX11_tick_32 : decode cX11_tick 32 = .ok (.getfield 13, 3) := by decide +kernel
theorem dX11_tick_35 : decode cX11_tick 35 = .ok (.iconst 3, 1) := by decide +kernel
theorem dX11_tick_36 : decode cX11_tick 36 = .ok (.dup2, 1) := by decide +kernel
theorem dX11_tick_37 : decode cX11_tick 37 = .ok (.iaload, 1) := by decide +kernel
theorem dX11_tick_38 : decode cX11_tick 38 = .ok (.iconst 1, 1) := by decide +kernel
theorem dX11_tick_39 : decode cX11_tick 39 = .ok (.iadd, 1) := by decide +kernel
theorem dX11_tick_40 : decode cX11_tick 40 = .ok (.iastore, 1) := by decide +kernel
theorem dX11_tick_41 : decode cX11_tick 41 = .ok (.goto 8, 3) := by decide +kernel
theorem dX11_tick_44 : decode cX11_tick 44 = .ok (.aload_n 0, 1) := by decide +kernel
theorem dX11_tick_45 : decode cX11_tick 45 = .ok (.iload_n 3, 1) := by decide +kernel
theorem dX11_tick_46 : decode cX11_tick 46 = .ok (.invokevirtual 72, 3) := by decide +kernel
theorem dX11_tick_49 : decode cX11_tick 49 = .ok (.aload_n 0, 1) := by decide +kernel
theorem dX11_tick_50 : decode cX11_tick 50 = .ok (.iload_n 2, 1) := by decide +kernel
theorem dX11_tick_51 : decode cX11_tick 51 = .ok (.invokevirtual 124, 3) := by decide +kernel
theorem dX11_tick_54 : decode cX11_tick 54 = .ok (.iload_n 3, 1) := by decide +kernel
theorem dX11_tick_55 : decode cX11_tick 55 = .ok (.iconst (-1), 1) := by decide +kernel
theorem dX11_tick_56 : decode cX11_tick 56 = .ok (.if_icmp .eq 8, 3) := by decide +kernel
theorem dX11_tick_59 : decode cX11_tick 59 = .ok (.aload_n 0, 1) := by decide +kernel
theorem dX11_tick_60 : decode cX11_tick 60 = .ok (.iload_n 3, 1) := by decide +kernel
theorem dX11_tick_61 : decode cX11_tick 61 = .ok (.invokevirtual 82, 3) := by decide +kernel
theorem dX11_tick_64 : decode cX11_tick 64 = .ok (.iinc 1 1, 3) := by decide +kernel
theorem dX11_tick_67 : decode cX11_tick 67 = .ok (.goto (-65), 3) := by decide +kernel
theorem dX11_tick_70 : decode cX11_tick 70 = .ok (.aload_n 0, 1) := by decide +kernel
theorem dX11_tick_71 : decode cX11_tick 71 = .ok (.getfield 13, 3) := by decide +kernel
theorem dX11_tick_74 : decode cX11_tick 74 = .ok (.iconst 2, 1) := by decide +kernel
theorem dX11_tick_75 : decode cX11_tick 75 = .ok (.dup2, 1) := by decide +kernel
theorem dX11_tick_76 : decode cX11_tick 76 = .ok (.iaload, 1) := by decide +kernel
theorem dX11_tick_77 : decode cX11_tick 77 = .ok (.iconst 1, 1) := by decide +kernel
theorem dX11_tick_78 : decode cX11_tick 78 = .ok (.iadd, 1) := by decide +kernel
theorem dX11_tick_79 : decode cX11_tick 79 = .ok (.iastore, 1) := by decide +kernel
theorem dX11_tick_80 : decode cX11_tick 80 = .ok (.aload_n 0, 1) := by decide +kernel
theorem dX11_tick_81 : decode cX11_tick 81 = .ok (.invokevirtual 127, 3) := by decide +kernel
theorem dX11_tick_84 : decode cX11_tick 84 = .ok (.return_, 1) := by decide +kernel
theorem dX11_begins_0 : decode cX11_begins 0 = .ok (.iload_n 1, 1) := by decide +kernel
theorem dX11_begins_1 : decode cX11_begins 1 = .ok (.iconst 1, 1) := by decide +kernel
theorem dX11_begins_2 : decode cX11_begins 2 = .ok (.bipush 6, 2) := by decide +kernel
theorem dX11_begins_4 : decode cX11_begins 4 = .ok (.invokestatic 50, 3) := by decide +kernel
theorem dX11_begins_7 : decode cX11_begins 7 = .ok (.ifCond .ne 8, 3) := by decide +kernel
theorem dX11_begins_10 : decode cX11_begins 10 = .ok (.aload_n 0, 1) := by decide +kernel
theorem dX11_begins_11 : decode cX11_begins 11 = .ok (.invokevirtual 130, 3) := by decide +kernel
theorem dX11_begins_14 : decode cX11_begins 14 = .ok (.ireturn, 1) := by decide +kernel
theorem dX11_begins_15 : decode cX11_begins 15 = .ok (.aload_n 0, 1) := by decide +kernel
theorem dX11_begins_16 : decode cX11_begins 16 = .ok (.invokevirtual 133, 3) := by decide +kernel
theorem dX11_begins_19 : decode cX11_begins 19 = .ok (.aload_n 0, 1) := by decide +kernel
theorem dX11_begins_20 : decode cX11_begins 20 = .ok (.getfield 13, 3) := by decide +kernel
theorem dX11_begins_23 : decode cX11_begins 23 = .ok (.iconst 0, 1) := by decide +kernel
theorem dX11_begins_24 : decode cX11_begins 24 = .ok (.iaload, 1) := by decide +kernel
theorem dX11_begins_25 : decode cX11_begins 25 = .ok (.istore_n 2, 1) := by decide +kernel
theorem dX11_begins_26 : decode cX11_begins 26 = .ok (.aload_n 0, 1) := by decide +kernel
theorem dX11_begins_27 : decode cX11_begins 27 = .ok (.iload_n 1, 1) := by decide +kernel
theorem dX11_begins_28 : decode cX11_begins 28 = .ok (.invokevirtual 46, 3) := by decide +kernel
theorem dX11_begins_31 : decode cX11_begins 31 = .ok (.iload_n 2, 1) := by decide +kernel
theorem dX11_begins_32 : decode cX11_begins 32 = .ok (.ireturn, 1) := by decide +kernel
theorem dX11_rooms_0 : decode cX11_rooms 0 = .ok (.aload_n 0, 1) := by decide +kernel
theorem dX11_rooms_1 : decode cX11_rooms 1 = .ok (.iload_n 1, 1) := by decide +kernel
theorem dX11_rooms_2 : decode cX11_rooms 2 = .ok (.invokevirtual 136, 3) := by decide +kernel
theorem dX11_rooms_5 : decode cX11_rooms 5 = .ok (.ifCond .eq 13, 3) := by decide +kernel
theorem dX11_rooms_8 : decode cX11_rooms 8 = .ok (.iload_n 2, 1) := by decide +kernel
theorem dX11_rooms_9 : decode cX11_rooms 9 = .ok (.iconst 1, 1) := by decide +kernel
theorem dX11_rooms_10 : decode cX11_rooms 10 = .ok (.bipush 6, 2) := by decide +kernel
theorem dX11_rooms_12 : decode cX11_rooms 12 = .ok (.invokestatic 50, 3) := by decide +kernel
theorem dX11_rooms_15 : decode cX11_rooms 15 = .ok (.ifCond .ne 8, 3) := by decide +kernel
theorem dX11_rooms_18 : decode cX11_rooms 18 = .ok (.aload_n 0, 1) := by decide +kernel
theorem dX11_rooms_19 : decode cX11_rooms 19 = .ok (.invokevirtual 130, 3) := by decide +kernel
theorem dX11_rooms_22 : decode cX11_rooms 22 = .ok (.ireturn, 1) := by decide +kernel
theorem dX11_rooms_23 : decode cX11_rooms 23 = .ok (.aload_n 0, 1) := by decide +kernel
theorem dX11_rooms_24 : decode cX11_rooms 24 = .ok (.invokevirtual 133, 3) := by decide +kernel
theorem dX11_rooms_27 : decode cX11_rooms 27 = .ok (.aload_n 0, 1) := by decide +kernel
theorem dX11_rooms_28 : decode cX11_rooms 28 = .ok (.getfield 13, 3) := by decide +kernel
theorem dX11_rooms_31 : decode cX11_rooms 31 = .ok (.iload_n 1, 1) := by decide +kernel
theorem dX11_rooms_32 : decode cX11_rooms 32 = .ok (.invokestatic 54, 3) := by decide +kernel
theorem dX11_rooms_35 : decode cX11_rooms 35 = .ok (.iconst 1, 1) := by decide +kernel
theorem dX11_rooms_36 : decode cX11_rooms 36 = .ok (.iadd, 1) := by decide +kernel
theorem dX11_rooms_37 : decode cX11_rooms 37 = .ok (.iaload, 1) := by decide +kernel
theorem dX11_rooms_38 : decode cX11_rooms 38 = .ok (.istore_n 3, 1) := by decide +kernel
theorem dX11_rooms_39 : decode cX11_rooms 39 = .ok (.aload_n 0, 1) := by decide +kernel
theorem dX11_rooms_40 : decode cX11_rooms 40 = .ok (.getfield 13, 3) := by decide +kernel
theorem dX11_rooms_43 : decode cX11_rooms 43 = .ok (.iload_n 1, 1) := by decide +kernel
theorem dX11_rooms_44 : decode cX11_rooms 44 = .ok (.invokestatic 54, 3) := by decide +kernel
theorem dX11_rooms_47 : decode cX11_rooms 47 = .ok (.iconst 1, 1) := by decide +kernel
theorem dX11_rooms_48 : decode cX11_rooms 48 = .ok (.iadd, 1) := by decide +kernel
theorem dX11_rooms_49 : decode cX11_rooms 49 = .ok (.iload_n 2, 1) := by decide +kernel
theorem dX11_rooms_50 : decode cX11_rooms 50 = .ok (.iastore, 1) := by decide +kernel
theorem dX11_rooms_51 : decode cX11_rooms 51 = .ok (.aload_n 0, 1) := by decide +kernel
theorem dX11_rooms_52 : decode cX11_rooms 52 = .ok (.invokevirtual 127, 3) := by decide +kernel
theorem dX11_rooms_55 : decode cX11_rooms 55 = .ok (.iload_n 3, 1) := by decide +kernel
theorem dX11_rooms_56 : decode cX11_rooms 56 = .ok (.ireturn, 1) := by decide +kernel
theorem dX11_station_0 : decode cX11_station 0 = .ok (.aload_n 0, 1) := by decide +kernel
theorem dX11_station_1 : decode cX11_station 1 = .ok (.iload_n 1, 1) := by decide +kernel
theorem dX11_station_2 : decode cX11_station 2 = .ok (.invokevirtual 136, 3) := by decide +kernel
theorem dX11_station_5 : decode cX11_station 5 = .ok (.ifCond .eq 46, 3) := by decide +kernel
theorem dX11_station_8 : decode cX11_station 8 = .ok (.iload_n 2, 1) := by decide +kernel
theorem dX11_station_9 : decode cX11_station 9 = .ok (.iconst (-1), 1) := by decide +kernel
theorem dX11_station_10 : decode cX11_station 10 = .ok (.if_icmp .eq 11, 3) := by decide +kernel
theorem dX11_station_13 : decode cX11_station 13 = .ok (.aload_n 0, 1) := by decide +kernel
theorem dX11_station_14 : decode cX11_station 14 = .ok (.iload_n 2, 1) := by decide +kernel
theorem dX11_station_15 : decode cX11_station 15 = .ok (.invokevirtual 136, 3) := by decide +kernel
theorem dX11_station_18 : decode cX11_station 18 = .ok (.ifCond .eq 33, 3) := by decide +kernel
theorem dX11_station_21 : decode cX11_station 21 = .ok (.aload_n 0, 1) := by decide +kernel
theorem dX11_station_22 : decode cX11_station 22 = .ok (.iload_n 3, 1) := by decide +kernel
theorem dX11_station_23 : decode cX11_station 23 = .ok (.invokevirtual 136, 3) := by decide +kernel
theorem dX11_station_26 : decode cX11_station 26 = .ok (.ifCond .eq 25, 3) := by decide +kernel
theorem dX11_station_29 : decode cX11_station 29 = .ok (.iload 4, 2) := by decide +kernel
theorem dX11_station_31 : decode cX11_station 31 = .ok (.iconst 1, 1) := by decide +kernel
theorem dX11_station_32 : decode cX11_station 32 = .ok (.bipush 9, 2) := by decide +kernel
theorem dX11_station_34 : decode cX11_station 34 = .ok (.invokestatic 50, 3) := by decide +kernel
theorem dX11_station_37 : decode cX11_station 37 = .ok (.ifCond .eq 14, 3) := by decide +kernel
theorem dX11_station_40 : decode cX11_station 40 = .ok (.iload 5, 2) := by decide +kernel
theorem dX11_station_42 : decode cX11_station 42 = .ok (.iconst 0, 1) := by decide +kernel
theorem dX11_station_43 : decode cX11_station 43 = .ok (.bipush 9, 2) := by decide +kernel
theorem dX11_station_45 : decode cX11_station 45 = .ok (.invokestatic 50, 3) := by decide +kernel
theorem dX11_station_48 : decode cX11_station 48 = .ok (.ifCond .ne 8, 3) := by decide +kernel
theorem dX11_station_51 : decode cX11_station 51 = .ok (.aload_n 0, 1) := by decide +kernel
theorem dX11_station_52 : decode cX11_station 52 = .ok (.invokevirtual 130, 3) := by decide +kernel
theorem dX11_station_55 : decode cX11_station 55 = .ok (.ireturn, 1) := by decide +kernel
theorem dX11_station_56 : decode cX11_station 56 = .ok (.aload_n 0, 1) := by decide +kernel
theorem dX11_station_57 : decode cX11_station 57 = .ok (.getfield 13, 3) := by decide +kernel
theorem dX11_station_60 : decode cX11_station 60 = .ok (.iconst 1, 1) := by decide +kernel
theorem dX11_station_61 : decode cX11_station 61 = .ok (.iaload, 1) := by decide +kernel
theorem dX11_station_62 : decode cX11_station 62 = .ok (.bipush 6, 2) := by decide +kernel
theorem dX11_station_64 : decode cX11_station 64 = .ok (.if_icmp .ne 8, 3) := by decide +kernel
theorem dX11_station_67 : decode cX11_station 67 = .ok (.aload_n 0, 1) := by decide +kernel
theorem dX11_station_68 : decode cX11_station 68 = .ok (.invokevirtual 140, 3) := by decide +kernel
theorem dX11_station_71 : decode cX11_station 71 = .ok (.ireturn, 1) := by decide +kernel
theorem dX11_station_72 : decode cX11_station 72 = .ok (.aload_n 0, 1) := by decide +kernel
theorem dX11_station_73 : decode cX11_station 73 = .ok (.invokevirtual 133, 3) := by decide +kernel
theorem dX11_station_76 : decode cX11_station 76 = .ok (.aload_n 0, 1) := by decide +kernel
theorem dX11_station_77 : decode cX11_station 77 = .ok (.getfield 13, 3) := by decide +kernel
theorem dX11_station_80 : decode cX11_station 80 = .ok (.iconst 1, 1) := by decide +kernel
theorem dX11_station_81 : decode cX11_station 81 = .ok (.iaload, 1) := by decide +kernel
theorem dX11_station_82 : decode cX11_station 82 = .ok (.invokestatic 121, 3) := by decide +kernel
theorem dX11_station_85 : decode cX11_station 85 = .ok (.istore 6, 2) := by decide +kernel
theorem dX11_station_87 : decode cX11_station 87 = .ok (.aload_n 0, 1) := by decide +kernel
theorem dX11_station_88 : decode cX11_station 88 = .ok (.getfield 13, 3) := by decide +kernel
theorem dX11_station_91 : decode cX11_station 91 = .ok (.iload 6, 2) := by decide +kernel
theorem dX11_station_93 : decode cX11_station 93 = .ok (.iconst 0, 1) := by decide +kernel
theorem dX11_station_94 : decode cX11_station 94 = .ok (.iadd, 1) := by decide +kernel
theorem dX11_station_95 : decode cX11_station 95 = .ok (.iload_n 1, 1) := by decide +kernel
theorem dX11_station_96 : decode cX11_station 96 = .ok (.iastore, 1) := by decide +kernel
theorem dX11_station_97 : decode cX11_station 97 = .ok (.aload_n 0, 1) := by decide +kernel
theorem dX11_station_98 : decode cX11_station 98 = .ok (.getfield 13, 3) := by decide +kernel
theorem dX11_station_101 : decode cX11_station 101 = .ok (.iload 6, 2) := by decide +kernel
theorem dX11_station_103 : decode cX11_station 103 = .ok (.iconst 1, 1) := by decide +kernel
theorem dX11_station_104 : decode cX11_station 104 = .ok (.iadd, 1) := by decide +kernel
theorem dX11_station_105 : decode cX11_station 105 = .ok (.iload_n 2, 1) := by decide +kernel
theorem dX11_station_106 : decode cX11_station 106 = .ok (.iastore, 1) := by decide +kernel
theorem dX11_station_107 : decode cX11_station 107 = .ok (.aload_n 0, 1) := by decide +kernel
theorem dX11_station_108 : decode cX11_station 108 = .ok (.getfield 13, 3) := by decide +kernel
theorem dX11_station_111 : decode cX11_station 111 = .ok (.iload 6, 2) := by decide +kernel
theorem dX11_station_113 : decode cX11_station 113 = .ok (.iconst 2, 1) := by decide +kernel
theorem dX11_station_114 : decode cX11_station 114 = .ok (.iadd, 1) := by decide +kernel
theorem dX11_station_115 : decode cX11_station 115 = .ok (.iload_n 3, 1) := by decide +kernel
theorem dX11_station_116 : decode cX11_station 116 = .ok (.iastore, 1) := by decide +kernel
theorem dX11_station_117 : decode cX11_station 117 = .ok (.aload_n 0, 1) := by decide +kernel
theorem dX11_station_118 : decode cX11_station 118 = .ok (.getfield 13, 3) := by decide +kernel
theorem dX11_station_121 : decode cX11_station 121 = .ok (.iload 6, 2) := by decide +kernel
theorem dX11_station_123 : decode cX11_station 123 = .ok (.iconst 3, 1) := by decide +kernel
theorem dX11_station_124 : decode cX11_station 124 = .ok (.iadd, 1) := by decide +kernel
theorem dX11_station_125 : decode cX11_station 125 = .ok (.iload 4, 2) := by decide +kernel
theorem dX11_station_127 : decode cX11_station 127 = .ok (.iastore, 1) := by decide +kernel
theorem dX11_station_128 : decode cX11_station 128 = .ok (.aload_n 0, 1) := by decide +kernel
theorem dX11_station_129 : decode cX11_station 129 = .ok (.getfield 13, 3) := by decide +kernel
theorem dX11_station_132 : decode cX11_station 132 = .ok (.iload 6, 2) := by decide +kernel
theorem dX11_station_134 : decode cX11_station 134 = .ok (.iconst 4, 1) := by decide +kernel
theorem dX11_station_135 : decode cX11_station 135 = .ok (.iadd, 1) := by decide +kernel
theorem dX11_station_136 : decode cX11_station 136 = .ok (.iload 5, 2) := by decide +kernel
theorem dX11_station_138 : decode cX11_station 138 = .ok (.iastore, 1) := by decide +kernel
theorem dX11_station_139 : decode cX11_station 139 = .ok (.aload_n 0, 1) := by decide +kernel
theorem dX11_station_140 : decode cX11_station 140 = .ok (.getfield 13, 3) := by decide +kernel
theorem dX11_station_143 : decode cX11_station 143 = .ok (.iload 6, 2) := by decide +kernel
theorem dX11_station_145 : decode cX11_station 145 = .ok (.iconst 5, 1) := by decide +kernel
theorem dX11_station_146 : decode cX11_station 146 = .ok (.iadd, 1) := by decide +kernel
theorem dX11_station_147 : decode cX11_station 147 = .ok (.iconst (-1), 1) := by decide +kernel
theorem dX11_station_148 : decode cX11_station 148 = .ok (.iastore, 1) := by decide +kernel
theorem dX11_station_149 : decode cX11_station 149 = .ok (.aload_n 0, 1) := by decide +kernel
theorem dX11_station_150 : decode cX11_station 150 = .ok (.getfield 13, 3) := by decide +kernel
theorem dX11_station_153 : decode cX11_station 153 = .ok (.iconst 1, 1) := by decide +kernel
theorem dX11_station_154 : decode cX11_station 154 = .ok (.dup2, 1) := by decide +kernel
theorem dX11_station_155 : decode cX11_station 155 = .ok (.iaload, 1) := by decide +kernel
theorem dX11_station_156 : decode cX11_station 156 = .ok (.iconst 1, 1) := by decide +kernel
theorem dX11_station_157 : decode cX11_station 157 = .ok (.iadd, 1) := by decide +kernel
theorem dX11_station_158 : decode cX11_station 158 = .ok (.iastore, 1) := by decide +kernel
theorem dX11_station_159 : decode cX11_station 159 = .ok (.aload_n 0, 1) := by decide +kernel
theorem dX11_station_160 : decode cX11_station 160 = .ok (.getfield 13, 3) := by decide +kernel
theorem dX11_station_163 : decode cX11_station 163 = .ok (.iconst 1, 1) := by decide +kernel
theorem dX11_station_164 : decode cX11_station 164 = .ok (.iaload, 1) := by decide +kernel
theorem dX11_station_165 : decode cX11_station 165 = .ok (.iconst 1, 1) := by decide +kernel
theorem dX11_station_166 : decode cX11_station 166 = .ok (.isub, 1) := by decide +kernel
theorem dX11_station_167 : decode cX11_station 167 = .ok (.ireturn, 1) := by decide +kernel
theorem dX11_isStation_0 : decode cX11_isStation 0 = .ok (.iload_n 1, 1) := by decide +kernel
theorem dX11_isStation_1 : decode cX11_isStation 1 = .ok (.iconst 0, 1) := by decide +kernel
theorem dX11_isStation_2 : decode cX11_isStation 2 = .ok (.aload_n 0, 1) := by decide +kernel
theorem dX11_isStation_3 : decode cX11_isStation 3 = .ok (.getfield 13, 3) := by decide +kernel
theorem dX11_isStation_6 : decode cX11_isStation 6 = .ok (.iconst 1, 1) := by decide +kernel
theorem dX11_isStation_7 : decode cX11_isStation 7 = .ok (.iaload, 1) := by decide +kernel
theorem dX11_isStation_8 : decode cX11_isStation 8 = .ok (.iconst 1, 1) := by decide +kernel
theorem dX11_isStation_9 : decode cX11_isStation 9 = .ok (.isub, 1) := by decide +kernel
theorem dX11_isStation_10 : decode cX11_isStation 10 = .ok (.invokestatic 50, 3) := by decide +kernel
theorem dX11_isStation_13 : decode cX11_isStation 13 = .ok (.ireturn, 1) := by decide +kernel
theorem dX11_guards_0 : decode cX11_guards 0 = .ok (.aload_n 0, 1) := by decide +kernel
theorem dX11_guards_1 : decode cX11_guards 1 = .ok (.iload_n 1, 1) := by decide +kernel
theorem dX11_guards_2 : decode cX11_guards 2 = .ok (.invokevirtual 143, 3) := by decide +kernel
theorem dX11_guards_5 : decode cX11_guards 5 = .ok (.ifCond .eq 16, 3) := by decide +kernel
theorem dX11_guards_8 : decode cX11_guards 8 = .ok (.iload_n 2, 1) := by decide +kernel
theorem dX11_guards_9 : decode cX11_guards 9 = .ok (.iconst (-1), 1) := by decide +kernel
theorem dX11_guards_10 : decode cX11_guards 10 = .ok (.if_icmp .eq 16, 3) := by decide +kernel
theorem dX11_guards_13 : decode cX11_guards 13 = .ok (.aload_n 0, 1) := by decide +kernel
theorem dX11_guards_14 : decode cX11_guards 14 = .ok (.iload_n 2, 1) := by decide +kernel
theorem dX11_guards_15 : decode cX11_guards 15 = .ok (.invokevirtual 136, 3) := by decide +kernel
theorem dX11_guards_18 : decode cX11_guards 18 = .ok (.ifCond .ne 8, 3) := by decide +kernel
theorem dX11_guards_21 : decode cX11_guards 21 = .ok (.aload_n 0, 1) := by decide +kernel
theorem dX11_guards_22 : decode cX11_guards 22 = .ok (.invokevirtual 130, 3) := by decide +kernel
theorem dX11_guards_25 : decode cX11_guards 25 = .ok (.ireturn, 1) := by decide +kernel
theorem dX11_guards_26 : decode cX11_guards 26 = .ok (.aload_n 0, 1) := by decide +kernel
theorem dX11_guards_27 : decode cX11_guards 27 = .ok (.invokevirtual 133, 3) := by decide +kernel
theorem dX11_guards_30 : decode cX11_guards 30 = .ok (.aload_n 0, 1) := by decide +kernel
theorem dX11_guards_31 : decode cX11_guards 31 = .ok (.getfield 13, 3) := by decide +kernel
theorem dX11_guards_34 : decode cX11_guards 34 = .ok (.iload_n 1, 1) := by decide +kernel
theorem dX11_guards_35 : decode cX11_guards 35 = .ok (.invokestatic 121, 3) := by decide +kernel
theorem dX11_guards_38 : decode cX11_guards 38 = .ok (.iconst 5, 1) := by decide +kernel
theorem dX11_guards_39 : decode cX11_guards 39 = .ok (.iadd, 1) := by decide +kernel
theorem dX11_guards_40 : decode cX11_guards 40 = .ok (.iaload, 1) := by decide +kernel
theorem dX11_guards_41 : decode cX11_guards 41 = .ok (.istore_n 3, 1) := by decide +kernel
theorem dX11_guards_42 : decode cX11_guards 42 = .ok (.aload_n 0, 1) := by decide +kernel
theorem dX11_guards_43 : decode cX11_guards 43 = .ok (.getfield 13, 3) := by decide +kernel
theorem dX11_guards_46 : decode cX11_guards 46 = .ok (.iload_n 1, 1) := by decide +kernel
theorem dX11_guards_47 : decode cX11_guards 47 = .ok (.invokestatic 121, 3) := by decide +kernel
theorem dX11_guards_50 : decode cX11_guards 50 = .ok (.iconst 5, 1) := by decide +kernel
theorem dX11_guards_51 : decode cX11_guards 51 = .ok (.iadd, 1) := by decide +kernel
theorem dX11_guards_52 : decode cX11_guards 52 = .ok (.iload_n 2, 1) := by decide +kernel
theorem dX11_guards_53 : decode cX11_guards 53 = .ok (.iastore, 1) := by decide +kernel
theorem dX11_guards_54 : decode cX11_guards 54 = .ok (.iload_n 3, 1) := by decide +kernel
theorem dX11_guards_55 : decode cX11_guards 55 = .ok (.ireturn, 1) := by decide +kernel
theorem dX11_ticks_0 : decode cX11_ticks 0 = .ok (.iload_n 1, 1) := by decide +kernel
theorem dX11_ticks_1 : decode cX11_ticks 1 = .ok (.iconst 1, 1) := by decide +kernel
theorem dX11_ticks_2 : decode cX11_ticks 2 = .ok (.bipush 30, 2) := by decide +kernel
theorem dX11_ticks_4 : decode cX11_ticks 4 = .ok (.invokestatic 50, 3) := by decide +kernel
theorem dX11_ticks_7 : decode cX11_ticks 7 = .ok (.ifCond .ne 8, 3) := by decide +kernel
theorem dX11_ticks_10 : decode cX11_ticks 10 = .ok (.aload_n 0, 1) := by decide +kernel
theorem dX11_ticks_11 : decode cX11_ticks 11 = .ok (.invokevirtual 130, 3) := by decide +kernel
theorem dX11_ticks_14 : decode cX11_ticks 14 = .ok (.ireturn, 1) := by decide +kernel
theorem dX11_ticks_15 : decode cX11_ticks 15 = .ok (.aload_n 0, 1) := by decide +kernel
theorem dX11_ticks_16 : decode cX11_ticks 16 = .ok (.invokevirtual 133, 3) := by decide +kernel
theorem dX11_ticks_19 : decode cX11_ticks 19 = .ok (.aload_n 0, 1) := by decide +kernel
theorem dX11_ticks_20 : decode cX11_ticks 20 = .ok (.invokevirtual 146, 3) := by decide +kernel
theorem dX11_ticks_23 : decode cX11_ticks 23 = .ok (.istore_n 2, 1) := by decide +kernel
theorem dX11_ticks_24 : decode cX11_ticks 24 = .ok (.iconst 0, 1) := by decide +kernel
theorem dX11_ticks_25 : decode cX11_ticks 25 = .ok (.istore_n 3, 1) := by decide +kernel
theorem dX11_ticks_26 : decode cX11_ticks 26 = .ok (.iload_n 3, 1) := by decide +kernel
theorem dX11_ticks_27 : decode cX11_ticks 27 = .ok (.iload_n 1, 1) := by decide +kernel
theorem dX11_ticks_28 : decode cX11_ticks 28 = .ok (.if_icmp .ge 13, 3) := by decide +kernel
theorem dX11_ticks_31 : decode cX11_ticks 31 = .ok (.aload_n 0, 1) := by decide +kernel
theorem dX11_ticks_32 : decode cX11_ticks 32 = .ok (.invokevirtual 149, 3) := by decide +kernel
theorem dX11_ticks_35 : decode cX11_ticks 35 = .ok (.iinc 3 1, 3) := by decide +kernel
theorem dX11_ticks_38 : decode cX11_ticks 38 = .ok (.goto (-12), 3) := by decide +kernel
theorem dX11_ticks_41 : decode cX11_ticks 41 = .ok (.aload_n 0, 1) := by decide +kernel
theorem dX11_ticks_42 : decode cX11_ticks 42 = .ok (.invokevirtual 146, 3) := by decide +kernel
theorem dX11_ticks_45 : decode cX11_ticks 45 = .ok (.iload_n 2, 1) := by decide +kernel
theorem dX11_ticks_46 : decode cX11_ticks 46 = .ok (.isub, 1) := by decide +kernel
theorem dX11_ticks_47 : decode cX11_ticks 47 = .ok (.ireturn, 1) := by decide +kernel
theorem dX11_puts_0 : decode cX11_puts 0 = .ok (.aload_n 0, 1) := by decide +kernel
theorem dX11_puts_1 : decode cX11_puts 1 = .ok (.iload_n 1, 1) := by decide +kernel
theorem dX11_puts_2 : decode cX11_puts 2 = .ok (.invokevirtual 136, 3) := by decide +kernel
theorem dX11_puts_5 : decode cX11_puts 5 = .ok (.ifCond .eq 13, 3) := by decide +kernel
theorem dX11_puts_8 : decode cX11_puts 8 = .ok (.iload_n 2, 1) := by decide +kernel
theorem dX11_puts_9 : decode cX11_puts 9 = .ok (.iconst 0, 1) := by decide +kernel
theorem dX11_puts_10 : decode cX11_puts 10 = .ok (.bipush 9, 2) := by decide +kernel
theorem dX11_puts_12 : decode cX11_puts 12 = .ok (.invokestatic 50, 3) := by decide +kernel
theorem dX11_puts_15 : decode cX11_puts 15 = .ok (.ifCond .ne 8, 3) := by decide +kernel
theorem dX11_puts_18 : decode cX11_puts 18 = .ok (.aload_n 0, 1) := by decide +kernel
theorem dX11_puts_19 : decode cX11_puts 19 = .ok (.invokevirtual 130, 3) := by decide +kernel
theorem dX11_puts_22 : decode cX11_puts 22 = .ok (.ireturn, 1) := by decide +kernel
theorem dX11_puts_23 : decode cX11_puts 23 = .ok (.aload_n 0, 1) := by decide +kernel
theorem dX11_puts_24 : decode cX11_puts 24 = .ok (.invokevirtual 133, 3) := by decide +kernel
theorem dX11_puts_27 : decode cX11_puts 27 = .ok (.aload_n 0, 1) := by decide +kernel
theorem dX11_puts_28 : decode cX11_puts 28 = .ok (.iload_n 1, 1) := by decide +kernel
theorem dX11_puts_29 : decode cX11_puts 29 = .ok (.iload_n 2, 1) := by decide +kernel
theorem dX11_puts_30 : decode cX11_puts 30 = .ok (.iconst (-1), 1) := by decide +kernel
theorem dX11_puts_31 : decode cX11_puts 31 = .ok (.invokevirtual 98, 3) := by decide +kernel
theorem dX11_puts_34 : decode cX11_puts 34 = .ok (.ifCond .eq 17, 3) := by decide +kernel
theorem dX11_puts_37 : decode cX11_puts 37 = .ok (.aload_n 0, 1) := by decide +kernel
theorem dX11_puts_38 : decode cX11_puts 38 = .ok (.getfield 13, 3) := by decide +kernel
theorem dX11_puts_41 : decode cX11_puts 41 = .ok (.iload_n 1, 1) := by decide +kernel
theorem dX11_puts_42 : decode cX11_puts 42 = .ok (.invokestatic 54, 3) := by decide +kernel
theorem dX11_puts_45 : decode cX11_puts 45 = .ok (.iconst 0, 1) := by decide +kernel
theorem dX11_puts_46 : decode cX11_puts 46 = .ok (.iadd, 1) := by decide +kernel
theorem dX11_puts_47 : decode cX11_puts 47 = .ok (.iaload, 1) := by decide +kernel
theorem dX11_puts_48 : decode cX11_puts 48 = .ok (.goto 5, 3) := by decide +kernel
theorem dX11_puts_51 : decode cX11_puts 51 = .ok (.bipush (-5), 2) := by decide +kernel
theorem dX11_puts_53 : decode cX11_puts 53 = .ok (.istore_n 3, 1) := by decide +kernel
theorem dX11_puts_54 : decode cX11_puts 54 = .ok (.aload_n 0, 1) := by decide +kernel
theorem dX11_puts_55 : decode cX11_puts 55 = .ok (.invokevirtual 127, 3) := by decide +kernel
theorem dX11_puts_58 : decode cX11_puts 58 = .ok (.iload_n 3, 1) := by decide +kernel
theorem dX11_puts_59 : decode cX11_puts 59 = .ok (.ireturn, 1) := by decide +kernel
theorem dX11_takes_0 : decode cX11_takes 0 = .ok (.aload_n 0, 1) := by decide +kernel
theorem dX11_takes_1 : decode cX11_takes 1 = .ok (.iload_n 1, 1) := by decide +kernel
theorem dX11_takes_2 : decode cX11_takes 2 = .ok (.invokevirtual 136, 3) := by decide +kernel
theorem dX11_takes_5 : decode cX11_takes 5 = .ok (.ifCond .ne 8, 3) := by decide +kernel
theorem dX11_takes_8 : decode cX11_takes 8 = .ok (.aload_n 0, 1) := by decide +kernel
theorem dX11_takes_9 : decode cX11_takes 9 = .ok (.invokevirtual 130, 3) := by decide +kernel
theorem dX11_takes_12 : decode cX11_takes 12 = .ok (.ireturn, 1) := by decide +kernel
theorem dX11_takes_13 : decode cX11_takes 13 = .ok (.aload_n 0, 1) := by decide +kernel
theorem dX11_takes_14 : decode cX11_takes 14 = .ok (.invokevirtual 133, 3) := by decide +kernel
theorem dX11_takes_17 : decode cX11_takes 17 = .ok (.aload_n 0, 1) := by decide +kernel
theorem dX11_takes_18 : decode cX11_takes 18 = .ok (.iload_n 1, 1) := by decide +kernel
theorem dX11_takes_19 : decode cX11_takes 19 = .ok (.iconst (-1), 1) := by decide +kernel
theorem dX11_takes_20 : decode cX11_takes 20 = .ok (.invokevirtual 95, 3) := by decide +kernel
theorem dX11_takes_23 : decode cX11_takes 23 = .ok (.istore_n 2, 1) := by decide +kernel
theorem dX11_takes_24 : decode cX11_takes 24 = .ok (.aload_n 0, 1) := by decide +kernel
theorem dX11_takes_25 : decode cX11_takes 25 = .ok (.invokevirtual 127, 3) := by decide +kernel
theorem dX11_takes_28 : decode cX11_takes 28 = .ok (.iload_n 2, 1) := by decide +kernel
theorem dX11_takes_29 : decode cX11_takes 29 = .ok (.iconst (-1), 1) := by decide +kernel
theorem dX11_takes_30 : decode cX11_takes 30 = .ok (.if_icmp .ne 8, 3) := by decide +kernel
theorem dX11_takes_33 : decode cX11_takes 33 = .ok (.bipush (-5), 2) := by decide +kernel
theorem dX11_takes_35 : decode cX11_takes 35 = .ok (.goto 4, 3) := by decide +kernel

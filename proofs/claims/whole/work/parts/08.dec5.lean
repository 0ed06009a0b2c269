theorem dX11_reads_104 : decode cX11_reads 104 = .ok (.bipush 109, 2) := by decide +kernel
theorem dX11_reads_106 : decode cX11_reads 106 = .ok (.if_icmp .ne 96, 3) := by decide +kernel
theorem dX11_reads_109 : decode cX11_reads 109 = .ok (.aload_n 0, 1) := by decide +kernel
theorem dX11_reads_110 : decode cX11_reads 110 = .ok (.dup, 1) := by decide +kernel
theorem dX11_reads_111 : decode cX11_reads 111 = .ok (.getfield 192, 3) := by decide +kernel
theorem dX11_reads_114 : decode cX11_reads 114 = .ok (.iconst 1, 1) := by decide +kernel
theorem dX11_reads_115 : decode cX11_reads 115 = .ok (.iadd, 1) := by decide +kernel
theorem dX11_reads_116 : decode cX11_reads 116 = .ok (.putfield 192, 3) := by decide +kernel
theorem dX11_reads_119 : decode cX11_reads 119 = .ok (.iload_n 3, 1) := by decide +kernel
theorem dX11_reads_120 : decode cX11_reads 120 = .ok (.ifCond .eq 16, 3) := by decide +kernel
theorem dX11_reads_123 : decode cX11_reads 123 = .ok (.aload_n 0, 1) := by decide +kernel
theorem dX11_reads_124 : decode cX11_reads 124 = .ok (.getfield 40, 3) := by decide +kernel
theorem dX11_reads_127 : decode cX11_reads 127 = .ok (.iload_n 1, 1) := by decide +kernel
theorem dX11_reads_128 : decode cX11_reads 128 = .ok (.aload_n 0, 1) := by decide +kernel
theorem dX11_reads_129 : decode cX11_reads 129 = .ok (.getfield 202, 3) := by decide +kernel
theorem dX11_reads_132 : decode cX11_reads 132 = .ok (.iastore, 1) := by decide +kernel
theorem dX11_reads_133 : decode cX11_reads 133 = .ok (.iinc 1 1, 3) := by decide +kernel
theorem dX11_reads_136 : decode cX11_reads 136 = .ok (.iload 4, 2) := by decide +kernel
theorem dX11_reads_138 : decode cX11_reads 138 = .ok (.ifCond .eq 21, 3) := by decide +kernel
theorem dX11_reads_141 : decode cX11_reads 141 = .ok (.iinc 1 (-1), 3) := by decide +kernel
theorem dX11_reads_144 : decode cX11_reads 144 = .ok (.aload_n 0, 1) := by decide +kernel
theorem dX11_reads_145 : decode cX11_reads 145 = .ok (.getfield 37, 3) := by decide +kernel
theorem dX11_reads_148 : decode cX11_reads 148 = .ok (.aload_n 0, 1) := by decide +kernel
theorem dX11_reads_149 : decode cX11_reads 149 = .ok (.getfield 40, 3) := by decide +kernel
theorem dX11_reads_152 : decode cX11_reads 152 = .ok (.iload_n 1, 1) := by decide +kernel
theorem dX11_reads_153 : decode cX11_reads 153 = .ok (.iaload, 1) := by decide +kernel
theorem dX11_reads_154 : decode cX11_reads 154 = .ok (.aload_n 0, 1) := by decide +kernel
theorem dX11_reads_155 : decode cX11_reads 155 = .ok (.getfield 202, 3) := by decide +kernel
theorem dX11_reads_158 : decode cX11_reads 158 = .ok (.iastore, 1) := by decide +kernel
theorem dX11_reads_159 : decode cX11_reads 159 = .ok (.iload 4, 2) := by decide +kernel
theorem dX11_reads_161 : decode cX11_reads 161 = .ok (.ifCond .eq 12, 3) := by decide +kernel
theorem dX11_reads_164 : decode cX11_reads 164 = .ok (.aload_n 0, 1) := by decide +kernel
theorem dX11_reads_165 : decode cX11_reads 165 = .ok (.getfield 40, 3) := by decide +kernel
theorem dX11_reads_168 : decode cX11_reads 168 = .ok (.iload_n 1, 1) := by decide +kernel
theorem dX11_reads_169 : decode cX11_reads 169 = .ok (.iaload, 1) := by decide +kernel
theorem dX11_reads_170 : decode cX11_reads 170 = .ok (.goto 4, 3) := by decide +kernel
theorem dX11_reads_173 : decode cX11_reads 173 = .ok (.iconst (-1), 1) := by decide +kernel
theorem dX11_reads_174 : decode cX11_reads 174 = .ok (.istore 5, 2) := by decide +kernel
theorem dX11_reads_176 : decode cX11_reads 176 = .ok (.aload_n 0, 1) := by decide +kernel
theorem dX11_reads_177 : decode cX11_reads 177 = .ok (.iload_n 2, 1) := by decide +kernel
theorem dX11_reads_178 : decode cX11_reads 178 = .ok (.invokevirtual 208, 3) := by decide +kernel
theorem dX11_reads_181 : decode cX11_reads 181 = .ok (.iload 4, 2) := by decide +kernel
theorem dX11_reads_183 : decode cX11_reads 183 = .ok (.ifCond .eq 16, 3) := by decide +kernel
theorem dX11_reads_186 : decode cX11_reads 186 = .ok (.aload_n 0, 1) := by decide +kernel
theorem dX11_reads_187 : decode cX11_reads 187 = .ok (.getfield 37, 3) := by decide +kernel
theorem dX11_reads_190 : decode cX11_reads 190 = .ok (.iload 5, 2) := by decide +kernel
theorem dX11_reads_192 : decode cX11_reads 192 = .ok (.aload_n 0, 1) := by decide +kernel
theorem dX11_reads_193 : decode cX11_reads 193 = .ok (.getfield 202, 3) := by decide +kernel
theorem dX11_reads_196 : decode cX11_reads 196 = .ok (.iconst 1, 1) := by decide +kernel
theorem dX11_reads_197 : decode cX11_reads 197 = .ok (.isub, 1) := by decide +kernel
theorem dX11_reads_198 : decode cX11_reads 198 = .ok (.iastore, 1) := by decide +kernel
theorem dX11_reads_199 : decode cX11_reads 199 = .ok (.goto 8, 3) := by decide +kernel
theorem dX11_reads_202 : decode cX11_reads 202 = .ok (.aload_n 0, 1) := by decide +kernel
theorem dX11_reads_203 : decode cX11_reads 203 = .ok (.iconst 1, 1) := by decide +kernel
theorem dX11_reads_204 : decode cX11_reads 204 = .ok (.putfield 195, 3) := by decide +kernel
theorem dX11_reads_207 : decode cX11_reads 207 = .ok (.goto (-190), 3) := by decide +kernel
theorem dX11_reads_210 : decode cX11_reads 210 = .ok (.aload_n 0, 1) := by decide +kernel
theorem dX11_reads_211 : decode cX11_reads 211 = .ok (.getfield 195, 3) := by decide +kernel
theorem dX11_reads_214 : decode cX11_reads 214 = .ok (.ifCond .ne 7, 3) := by decide +kernel
theorem dX11_reads_217 : decode cX11_reads 217 = .ok (.iconst 1, 1) := by decide +kernel
theorem dX11_reads_218 : decode cX11_reads 218 = .ok (.goto 4, 3) := by decide +kernel
theorem dX11_reads_221 : decode cX11_reads 221 = .ok (.iconst 0, 1) := by decide +kernel
theorem dX11_reads_222 : decode cX11_reads 222 = .ok (.ireturn, 1) := by decide +kernel
theorem dX11_doesOne_0 : decode cX11_doesOne 0 = .ok (.aload_n 0, 1) := by decide +kernel
theorem dX11_doesOne_1 : decode cX11_doesOne 1 = .ok (.getfield 28, 3) := by decide +kernel
theorem dX11_doesOne_4 : decode cX11_doesOne 4 = .ok (.iload_n 1, 1) := by decide +kernel
theorem dX11_doesOne_5 : decode cX11_doesOne 5 = .ok (.iaload, 1) := by decide +kernel
theorem dX11_doesOne_6 : decode cX11_doesOne 6 = .ok (.istore_n 2, 1) := by decide +kernel
theorem dX11_doesOne_7 : decode cX11_doesOne 7 = .ok (.aload_n 0, 1) := by decide +kernel
theorem dX11_doesOne_8 : decode cX11_doesOne 8 = .ok (.getfield 31, 3) := by decide +kernel
theorem dX11_doesOne_11 : decode cX11_doesOne 11 = .ok (.iload_n 1, 1) := by decide +kernel
theorem dX11_doesOne_12 : decode cX11_doesOne 12 = .ok (.iaload, 1) := by decide +kernel
theorem dX11_doesOne_13 : decode cX11_doesOne 13 = .ok (.istore_n 3, 1) := by decide +kernel
theorem dX11_doesOne_14 : decode cX11_doesOne 14 = .ok (.aload_n 0, 1) := by decide +kernel
theorem dX11_doesOne_15 : decode cX11_doesOne 15 = .ok (.getfield 25, 3) := by decide +kernel
theorem dX11_doesOne_18 : decode cX11_doesOne 18 = .ok (.iload_n 1, 1) := by decide +kernel
theorem dX11_doesOne_19 : decode cX11_doesOne 19 = .ok (.iaload, 1) := by decide +kernel
theorem dX11_doesOne_20 : decode cX11_doesOne 20 = .ok (.bipush 112, 2) := by decide +kernel
theorem dX11_doesOne_22 : decode cX11_doesOne 22 = .ok (.if_icmp .ne 27, 3) := by decide +kernel
theorem dX11_doesOne_25 : decode cX11_doesOne 25 = .ok (.aload_n 0, 1) := by decide +kernel
theorem dX11_doesOne_26 : decode cX11_doesOne 26 = .ok (.iload_n 2, 1) := by decide +kernel
theorem dX11_doesOne_27 : decode cX11_doesOne 27 = .ok (.invokevirtual 136, 3) := by decide +kernel
theorem dX11_doesOne_30 : decode cX11_doesOne 30 = .ok (.ifCond .eq 17, 3) := by decide +kernel
theorem dX11_doesOne_33 : decode cX11_doesOne 33 = .ok (.aload_n 0, 1) := by decide +kernel
theorem dX11_doesOne_34 : decode cX11_doesOne 34 = .ok (.iload_n 2, 1) := by decide +kernel
theorem dX11_doesOne_35 : decode cX11_doesOne 35 = .ok (.iload_n 3, 1) := by decide +kernel
theorem dX11_doesOne_36 : decode cX11_doesOne 36 = .ok (.iconst (-1), 1) := by decide +kernel
theorem dX11_doesOne_37 : decode cX11_doesOne 37 = .ok (.invokevirtual 98, 3) := by decide +kernel
theorem dX11_doesOne_40 : decode cX11_doesOne 40 = .ok (.ifCond .eq 7, 3) := by decide +kernel
theorem dX11_doesOne_43 : decode cX11_doesOne 43 = .ok (.iconst 1, 1) := by decide +kernel
theorem dX11_doesOne_44 : decode cX11_doesOne 44 = .ok (.goto 4, 3) := by decide +kernel
theorem dX11_doesOne_47 : decode cX11_doesOne 47 = .ok (.iconst 0, 1) := by decide +kernel
theorem dX11_doesOne_48 : decode cX11_doesOne 48 = .ok (.ireturn, 1) := by decide +kernel
theorem dX11_doesOne_49 : decode cX11_doesOne 49 = .ok (.aload_n 0, 1) := by decide +kernel
theorem dX11_doesOne_50 : decode cX11_doesOne 50 = .ok (.getfield 25, 3) := by decide +kernel
theorem dX11_doesOne_53 : decode cX11_doesOne 53 = .ok (.iload_n 1, 1) := by decide +kernel
theorem dX11_doesOne_54 : decode cX11_doesOne 54 = .ok (.iaload, 1) := by decide +kernel
theorem dX11_doesOne_55 : decode cX11_doesOne 55 = .ok (.bipush 116, 2) := by decide +kernel
theorem dX11_doesOne_57 : decode cX11_doesOne 57 = .ok (.if_icmp .ne 27, 3) := by decide +kernel
theorem dX11_doesOne_60 : decode cX11_doesOne 60 = .ok (.aload_n 0, 1) := by decide +kernel
theorem dX11_doesOne_61 : decode cX11_doesOne 61 = .ok (.iload_n 2, 1) := by decide +kernel
theorem dX11_doesOne_62 : decode cX11_doesOne 62 = .ok (.invokevirtual 136, 3) := by decide +kernel
theorem dX11_doesOne_65 : decode cX11_doesOne 65 = .ok (.ifCond .eq 17, 3) := by decide +kernel
theorem dX11_doesOne_68 : decode cX11_doesOne 68 = .ok (.aload_n 0, 1) := by decide +kernel
theorem dX11_doesOne_69 : decode cX11_doesOne 69 = .ok (.iload_n 2, 1) := by decide +kernel
theorem dX11_doesOne_70 : decode cX11_doesOne 70 = .ok (.iconst (-1), 1) := by decide +kernel
theorem dX11_doesOne_71 : decode cX11_doesOne 71 = .ok (.invokevirtual 95, 3) := by decide +kernel
theorem dX11_doesOne_74 : decode cX11_doesOne 74 = .ok (.iconst (-1), 1) := by decide +kernel
theorem dX11_doesOne_75 : decode cX11_doesOne 75 = .ok (.if_icmp .eq 7, 3) := by decide +kernel
theorem dX11_doesOne_78 : decode cX11_doesOne 78 = .ok (.iconst 1, 1) := by decide +kernel
theorem dX11_doesOne_79 : decode cX11_doesOne 79 = .ok (.goto 4, 3) := by decide +kernel
theorem dX11_doesOne_82 : decode cX11_doesOne 82 = .ok (.iconst 0, 1) := by decide +kernel
theorem dX11_doesOne_83 : decode cX11_doesOne 83 = .ok (.ireturn, 1) := by decide +kernel
theorem dX11_doesOne_84 : decode cX11_doesOne 84 = .ok (.aload_n 0, 1) := by decide +kernel
theorem dX11_doesOne_85 : decode cX11_doesOne 85 = .ok (.iload_n 2, 1) := by decide +kernel
theorem dX11_doesOne_86 : decode cX11_doesOne 86 = .ok (.invokevirtual 136, 3) := by decide +kernel
theorem dX11_doesOne_89 : decode cX11_doesOne 89 = .ok (.ifCond .eq 41, 3) := by decide +kernel
theorem dX11_doesOne_92 : decode cX11_doesOne 92 = .ok (.aload_n 0, 1) := by decide +kernel
theorem dX11_doesOne_93 : decode cX11_doesOne 93 = .ok (.iload_n 3, 1) := by decide +kernel
theorem dX11_doesOne_94 : decode cX11_doesOne 94 = .ok (.invokevirtual 136, 3) := by decide +kernel
theorem dX11_doesOne_97 : decode cX11_doesOne 97 = .ok (.ifCond .eq 33, 3) := by decide +kernel
theorem dX11_doesOne_100 : decode cX11_doesOne 100 = .ok (.iload_n 2, 1) := by decide +kernel
theorem dX11_doesOne_101 : decode cX11_doesOne 101 = .ok (.iload_n 3, 1) := by decide +kernel
theorem dX11_doesOne_102 : decode cX11_doesOne 102 = .ok (.if_icmp .eq 28, 3) := by decide +kernel
theorem dX11_doesOne_105 : decode cX11_doesOne 105 = .ok (.aload_n 0, 1) := by decide +kernel
theorem dX11_doesOne_106 : decode cX11_doesOne 106 = .ok (.iload_n 2, 1) := by decide +kernel
theorem dX11_doesOne_107 : decode cX11_doesOne 107 = .ok (.iload_n 3, 1) := by decide +kernel
theorem dX11_doesOne_108 : decode cX11_doesOne 108 = .ok (.aload_n 0, 1) := by decide +kernel
theorem dX11_doesOne_109 : decode cX11_doesOne 109 = .ok (.getfield 34, 3) := by decide +kernel
theorem dX11_doesOne_112 : decode cX11_doesOne 112 = .ok (.iload_n 1, 1) := by decide +kernel
theorem dX11_doesOne_113 : decode cX11_doesOne 113 = .ok (.iaload, 1) := by decide +kernel
theorem dX11_doesOne_114 : decode cX11_doesOne 114 = .ok (.invokevirtual 155, 3) := by decide +kernel
theorem dX11_doesOne_117 : decode cX11_doesOne 117 = .ok (.aload_n 0, 1) := by decide +kernel
theorem dX11_doesOne_118 : decode cX11_doesOne 118 = .ok (.getfield 34, 3) := by decide +kernel
theorem dX11_doesOne_121 : decode cX11_doesOne 121 = .ok (.iload_n 1, 1) := by decide +kernel
theorem dX11_doesOne_122 : decode cX11_doesOne 122 = .ok (.iaload, 1) := by decide +kernel
theorem dX11_doesOne_123 : decode cX11_doesOne 123 = .ok (.if_icmp .ne 7, 3) := by decide +kernel
theorem dX11_doesOne_126 : decode cX11_doesOne 126 = .ok (.iconst 1, 1) := by decide +kernel
theorem dX11_doesOne_127 : decode cX11_doesOne 127 = .ok (.goto 4, 3) := by decide +kernel
theorem dX11_doesOne_130 : decode cX11_doesOne 130 = .ok (.iconst 0, 1) := by decide +kernel
theorem dX11_doesOne_131 : decode cX11_doesOne 131 = .ok (.ireturn, 1) := by decide +kernel
theorem dX11_doesAll_0 : decode cX11_doesAll 0 = .ok (.iconst 0, 1) := by decide +kernel
theorem dX11_doesAll_1 : decode cX11_doesAll 1 = .ok (.istore_n 1, 1) := by decide +kernel
theorem dX11_doesAll_2 : decode cX11_doesAll 2 = .ok (.iconst 0, 1) := by decide +kernel
theorem dX11_doesAll_3 : decode cX11_doesAll 3 = .ok (.istore_n 2, 1) := by decide +kernel
theorem dX11_doesAll_4 : decode cX11_doesAll 4 = .ok (.iconst 0, 1) := by decide +kernel
theorem dX11_doesAll_5 : decode cX11_doesAll 5 = .ok (.istore_n 3, 1) := by decide +kernel
theorem dX11_doesAll_6 : decode cX11_doesAll 6 = .ok (.iconst 0, 1) := by decide +kernel
theorem dX11_doesAll_7 : decode cX11_doesAll 7 = .ok (.istore 4, 2) := by decide +kernel
theorem dX11_doesAll_9 : decode cX11_doesAll 9 = .ok (.aload_n 0, 1) := by decide +kernel
theorem dX11_doesAll_10 : decode cX11_doesAll 10 = .ok (.bipush 6, 2) := by decide +kernel
theorem dX11_doesAll_12 : decode cX11_doesAll 12 = .ok (.invokevirtual 72, 3) := by decide +kernel
theorem dX11_doesAll_15 : decode cX11_doesAll 15 = .ok (.aload_n 0, 1) := by decide +kernel
theorem dX11_doesAll_16 : decode cX11_doesAll 16 = .ok (.iconst 0, 1) := by decide +kernel
theorem dX11_doesAll_17 : decode cX11_doesAll 17 = .ok (.invokevirtual 152, 3) := by decide +kernel
theorem dX11_doesAll_20 : decode cX11_doesAll 20 = .ok (.aload_n 0, 1) := by decide +kernel
theorem dX11_doesAll_21 : decode cX11_doesAll 21 = .ok (.getfield 43, 3) := by decide +kernel
theorem dX11_doesAll_24 : decode cX11_doesAll 24 = .ok (.iconst 0, 1) := by decide +kernel
theorem dX11_doesAll_25 : decode cX11_doesAll 25 = .ok (.iconst 0, 1) := by decide +kernel
theorem dX11_doesAll_26 : decode cX11_doesAll 26 = .ok (.iastore, 1) := by decide +kernel
theorem dX11_doesAll_27 : decode cX11_doesAll 27 = .ok (.iload 4, 2) := by decide +kernel
theorem dX11_doesAll_29 : decode cX11_doesAll 29 = .ok (.aload_n 0, 1) := by decide +kernel
theorem dX11_doesAll_30 : decode cX11_doesAll 30 = .ok (.getfield 202, 3) := by decide +kernel
theorem dX11_doesAll_33 : decode cX11_doesAll 33 = .ok (.if_icmp .ge 150, 3) := by decide +kernel
theorem dX11_doesAll_36 : decode cX11_doesAll 36 = .ok (.aload_n 0, 1) := by decide +kernel
theorem dX11_doesAll_37 : decode cX11_doesAll 37 = .ok (.getfield 25, 3) := by decide +kernel
theorem dX11_doesAll_40 : decode cX11_doesAll 40 = .ok (.iload 4, 2) := by decide +kernel
theorem dX11_doesAll_42 : decode cX11_doesAll 42 = .ok (.iaload, 1) := by decide +kernel
theorem dX11_doesAll_43 : decode cX11_doesAll 43 = .ok (.bipush 40, 2) := by decide +kernel
theorem dX11_doesAll_45 : decode cX11_doesAll 45 = .ok (.if_icmp .ne 38, 3) := by decide +kernel
theorem dX11_doesAll_48 : decode cX11_doesAll 48 = .ok (.aload_n 0, 1) := by decide +kernel
theorem dX11_doesAll_49 : decode cX11_doesAll 49 = .ok (.bipush 6, 2) := by decide +kernel
theorem dX11_doesAll_51 : decode cX11_doesAll 51 = .ok (.invokevirtual 72, 3) := by decide +kernel
theorem dX11_doesAll_54 : decode cX11_doesAll 54 = .ok (.aload_n 0, 1) := by decide +kernel
theorem dX11_doesAll_55 : decode cX11_doesAll 55 = .ok (.getfield 40, 3) := by decide +kernel
theorem dX11_doesAll_58 : decode cX11_doesAll 58 = .ok (.iload_n 1, 1) := by decide +kernel
theorem dX11_doesAll_59 : decode cX11_doesAll 59 = .ok (.iload 4, 2) := by decide +kernel
theorem dX11_doesAll_61 : decode cX11_doesAll 61 = .ok (.iastore, 1) := by decide +kernel
theorem dX11_doesAll_62 : decode cX11_doesAll 62 = .ok (.iinc 1 1, 3) := by decide +kernel
theorem dX11_doesAll_65 : decode cX11_doesAll 65 = .ok (.aload_n 0, 1) := by decide +kernel
theorem dX11_doesAll_66 : decode cX11_doesAll 66 = .ok (.iload_n 1, 1) := by decide +kernel
theorem dX11_doesAll_67 : decode cX11_doesAll 67 = .ok (.invokevirtual 152, 3) := by decide +kernel
theorem dX11_doesAll_70 : decode cX11_doesAll 70 = .ok (.aload_n 0, 1) := by decide +kernel
theorem dX11_doesAll_71 : decode cX11_doesAll 71 = .ok (.getfield 43, 3) := by decide +kernel
theorem dX11_doesAll_74 : decode cX11_doesAll 74 = .ok (.iload_n 1, 1) := by decide +kernel
theorem dX11_doesAll_75 : decode cX11_doesAll 75 = .ok (.iload_n 2, 1) := by decide +kernel
theorem dX11_doesAll_76 : decode cX11_doesAll 76 = .ok (.iastore, 1) := by decide +kernel
theorem dX11_doesAll_77 : decode cX11_doesAll 77 = .ok (.iinc 4 1, 3) := by decide +kernel
theorem dX11_doesAll_80 : decode cX11_doesAll 80 = .ok (.goto (-53), 3) := by decide +kernel
theorem dX11_doesAll_83 : decode cX11_doesAll 83 = .ok (.aload_n 0, 1) := by decide +kernel
theorem dX11_doesAll_84 : decode cX11_doesAll 84 = .ok (.getfield 25, 3) := by decide +kernel
theorem dX11_doesAll_87 : decode cX11_doesAll 87 = .ok (.iload 4, 2) := by decide +kernel
theorem dX11_doesAll_89 : decode cX11_doesAll 89 = .ok (.iaload, 1) := by decide +kernel
theorem dX11_doesAll_90 : decode cX11_doesAll 90 = .ok (.bipush 41, 2) := by decide +kernel
theorem dX11_doesAll_92 : decode cX11_doesAll 92 = .ok (.if_icmp .ne 18, 3) := by decide +kernel
theorem dX11_doesAll_95 : decode cX11_doesAll 95 = .ok (.aload_n 0, 1) := by decide +kernel
theorem dX11_doesAll_96 : decode cX11_doesAll 96 = .ok (.bipush 6, 2) := by decide +kernel
theorem dX11_doesAll_98 : decode cX11_doesAll 98 = .ok (.invokevirtual 82, 3) := by decide +kernel
theorem dX11_doesAll_101 : decode cX11_doesAll 101 = .ok (.iinc 1 (-1), 3) := by decide +kernel
theorem dX11_doesAll_104 : decode cX11_doesAll 104 = .ok (.iinc 4 1, 3) := by decide +kernel
theorem dX11_doesAll_107 : decode cX11_doesAll 107 = .ok (.goto (-80), 3) := by decide +kernel
theorem dX11_doesAll_110 : decode cX11_doesAll 110 = .ok (.aload_n 0, 1) := by decide +kernel
theorem dX11_doesAll_111 : decode cX11_doesAll 111 = .ok (.iload 4, 2) := by decide +kernel
theorem dX11_doesAll_113 : decode cX11_doesAll 113 = .ok (.invokevirtual 211, 3) := by decide +kernel
theorem dX11_doesAll_116 : decode cX11_doesAll 116 = .ok (.ifCond .eq 15, 3) := by decide +kernel
theorem dX11_doesAll_119 : decode cX11_doesAll 119 = .ok (.iinc 2 1, 3) := by decide +kernel
theorem dX11_doesAll_122 : decode cX11_doesAll 122 = .ok (.iinc 3 1, 3) := by decide +kernel
theorem dX11_doesAll_125 : decode cX11_doesAll 125 = .ok (.iinc 4 1, 3) := by decide +kernel
theorem dX11_doesAll_128 : decode cX11_doesAll 128 = .ok (.goto (-101), 3) := by decide +kernel
theorem dX11_doesAll_131 : decode cX11_doesAll 131 = .ok (.aload_n 0, 1) := by decide +kernel
theorem dX11_doesAll_132 : decode cX11_doesAll 132 = .ok (.bipush 6, 2) := by decide +kernel
theorem dX11_doesAll_134 : decode cX11_doesAll 134 = .ok (.invokevirtual 79, 3) := by decide +kernel
theorem dX11_doesAll_137 : decode cX11_doesAll 137 = .ok (.aload_n 0, 1) := by decide +kernel
theorem dX11_doesAll_138 : decode cX11_doesAll 138 = .ok (.iload_n 1, 1) := by decide +kernel
theorem dX11_doesAll_139 : decode cX11_doesAll 139 = .ok (.invokevirtual 159, 3) := by decide +kernel
theorem dX11_doesAll_142 : decode cX11_doesAll 142 = .ok (.aload_n 0, 1) := by decide +kernel
theorem dX11_doesAll_143 : decode cX11_doesAll 143 = .ok (.getfield 43, 3) := by decide +kernel
theorem dX11_doesAll_146 : decode cX11_doesAll 146 = .ok (.iload_n 1, 1) := by decide +kernel
theorem dX11_doesAll_147 : decode cX11_doesAll 147 = .ok (.iaload, 1) := by decide +kernel
theorem dX11_doesAll_148 : decode cX11_doesAll 148 = .ok (.istore_n 2, 1) := by decide +kernel
theorem dX11_doesAll_149 : decode cX11_doesAll 149 = .ok (.iload_n 1, 1) := by decide +kernel
theorem dX11_doesAll_150 : decode cX11_doesAll 150 = .ok (.ifCond .ne 9, 3) := by decide +kernel
theorem dX11_doesAll_153 : decode cX11_doesAll 153 = .ok (.sipush (-1000), 3) := by decide +kernel
theorem dX11_doesAll_156 : decode cX11_doesAll 156 = .ok (.iload_n 3, 1) := by decide +kernel
theorem dX11_doesAll_157 : decode cX11_doesAll 157 = .ok (.isub, 1) := by decide +kernel
theorem dX11_doesAll_158 : decode cX11_doesAll 158 = .ok (.ireturn, 1) := by decide +kernel
theorem dX11_doesAll_159 : decode cX11_doesAll 159 = .ok (.iinc 3 1, 3) := by decide +kernel
theorem dX11_doesAll_162 : decode cX11_doesAll 162 = .ok (.iinc 1 (-1), 3) := by decide +kernel
theorem dX11_doesAll_165 : decode cX11_doesAll 165 = .ok (.aload_n 0, 1) := by decide +kernel
theorem dX11_doesAll_166 : decode cX11_doesAll 166 = .ok (.getfield 37, 3) := by decide +kernel
theorem dX11_doesAll_169 : decode cX11_doesAll 169 = .ok (.aload_n 0, 1) := by decide +kernel
theorem dX11_doesAll_170 : decode cX11_doesAll 170 = .ok (.getfield 40, 3) := by decide +kernel
theorem dX11_doesAll_173 : decode cX11_doesAll 173 = .ok (.iload_n 1, 1) := by decide +kernel
theorem dX11_doesAll_174 : decode cX11_doesAll 174 = .ok (.iaload, 1) := by decide +kernel
theorem dX11_doesAll_175 : decode cX11_doesAll 175 = .ok (.iaload, 1) := by decide +kernel
theorem dX11_doesAll_176 : decode cX11_doesAll 176 = .ok (.iconst 1, 1) := by decide +kernel
theorem dX11_doesAll_177 : decode cX11_doesAll 177 = .ok (.iadd, 1) := by decide +kernel
theorem dX11_doesAll_178 : decode cX11_doesAll 178 = .ok (.istore 4, 2) := by decide +kernel
theorem dX11_doesAll_180 : decode cX11_doesAll 180 = .ok (.goto (-153), 3) := by decide +kernel
theorem dX11_doesAll_183 : decode cX11_doesAll 183 = .ok (.aload_n 0, 1) := by decide +kernel
theorem dX11_doesAll_184 : decode cX11_doesAll 184 = .ok (.bipush 6, 2) := by decide +kernel
theorem dX11_doesAll_186 : decode cX11_doesAll 186 = .ok (.invokevirtual 82, 3) := by decide +kernel
theorem dX11_doesAll_189 : decode cX11_doesAll 189 = .ok (.iload_n 2, 1) := by decide +kernel
theorem dX11_doesAll_190 : decode cX11_doesAll 190 = .ok (.ireturn, 1) := by decide +kernel
theorem dX11_does_0 : decode cX11_does 0 = .ok (.aload_n 0, 1) := by decide +kernel
theorem dX11_does_1 : decode cX11_does 1 = .ok (.invokevirtual 214, 3) := by decide +kernel
theorem dX11_does_4 : decode cX11_does 4 = .ok (.ifCond .ne 11, 3) := by decide +kernel
theorem dX11_does_7 : decode cX11_does 7 = .ok (.bipush (-10), 2) := by decide +kernel
theorem dX11_does_9 : decode cX11_does 9 = .ok (.aload_n 0, 1) := by decide +kernel
theorem dX11_does_10 : decode cX11_does 10 = .ok (.getfield 192, 3) := by decide +kernel
theorem dX11_does_13 : decode cX11_does 13 = .ok (.isub, 1) := by decide +kernel
theorem dX11_does_14 : decode cX11_does 14 = .ok (.ireturn, 1) := by decide +kernel
theorem dX11_does_15 : decode cX11_does 15 = .ok (.aload_n 0, 1) := by decide +kernel
theorem dX11_does_16 : decode cX11_does 16 = .ok (.invokevirtual 133, 3) := by decide +kernel
theorem dX11_does_19 : decode cX11_does 19 = .ok (.aload_n 0, 1) := by decide +kernel
theorem dX11_does_20 : decode cX11_does 20 = .ok (.invokevirtual 218, 3) := by decide +kernel
theorem dX11_does_23 : decode cX11_does 23 = .ok (.istore_n 1, 1) := by decide +kernel
theorem dX11_does_24 : decode cX11_does 24 = .ok (.aload_n 0, 1) := by decide +kernel
theorem dX11_does_25 : decode cX11_does 25 = .ok (.invokevirtual 127, 3) := by decide +kernel
theorem dX11_does_28 : decode cX11_does 28 = .ok (.iload_n 1, 1) := by decide +kernel
theorem dX11_does_29 : decode cX11_does 29 = .ok (.ireturn, 1) := by decide +kernel
theorem dX11_toldOf_0 : decode cX11_toldOf 0 = .ok (.iload_n 1, 1) := by decide +kernel
theorem dX11_toldOf_1 : decode cX11_toldOf 1 = .ok (.iconst 3, 1) := by decide +kernel
theorem dX11_toldOf_2 : decode cX11_toldOf 2 = .ok (.if_icmp .ge 12, 3) := by decide +kernel
theorem dX11_toldOf_5 : decode cX11_toldOf 5 = .ok (.aload_n 0, 1) := by decide +kernel
theorem dX11_toldOf_6 : decode cX11_toldOf 6 = .ok (.getfield 7, 3) := by decide +kernel
theorem dX11_toldOf_9 : decode cX11_toldOf 9 = .ok (.iload_n 1, 1) := by decide +kernel
theorem dX11_toldOf_10 : decode cX11_toldOf 10 = .ok (.iaload, 1) := by decide +kernel
theorem dX11_toldOf_11 : decode cX11_toldOf 11 = .ok (.goto 19, 3) := by decide +kernel
theorem dX11_toldOf_14 : decode cX11_toldOf 14 = .ok (.iload_n 1, 1) := by decide +kernel
theorem dX11_toldOf_15 : decode cX11_toldOf 15 = .ok (.iconst 3, 1) := by decide +kernel
theorem dX11_toldOf_16 : decode cX11_toldOf 16 = .ok (.if_icmp .ne 10, 3) := by decide +kernel
theorem dX11_toldOf_19 : decode cX11_toldOf 19 = .ok (.aload_n 0, 1) := by decide +kernel
theorem dX11_toldOf_20 : decode cX11_toldOf 20 = .ok (.getfield 189, 3) := by decide +kernel
theorem dX11_toldOf_23 : decode cX11_toldOf 23 = .ok (.goto 7, 3) := by decide +kernel
theorem dX11_toldOf_26 : decode cX11_toldOf 26 = .ok (.aload_n 0, 1) := by decide +kernel
theorem dX11_toldOf_27 : decode cX11_toldOf 27 = .ok (.getfield 61, 3) := by decide +kernel
theorem dX11_toldOf_30 : decode cX11_toldOf 30 = .ok (.ireturn, 1) := by decide +kernel
theorem dX11_told_0 : decode cX11_told 0 = .ok (.iload_n 1, 1) := by decide +kernel
theorem dX11_told_1 : decode cX11_told 1 = .ok (.iconst 0, 1) := by decide +kernel
theorem dX11_told_2 : decode cX11_told 2 = .ok (.iconst 4, 1) := by decide +kernel
theorem dX11_told_3 : decode cX11_told 3 = .ok (.invokestatic 50, 3) := by decide +kernel
theorem dX11_told_6 : decode cX11_told 6 = .ok (.ifCond .eq 11, 3) := by decide +kernel
theorem dX11_told_9 : decode cX11_told 9 = .ok (.aload_n 0, 1) := by decide +kernel
theorem dX11_told_10 : decode cX11_told 10 = .ok (.iload_n 1, 1) := by decide +kernel
theorem dX11_told_11 : decode cX11_told 11 = .ok (.invokevirtual 221, 3) := by decide +kernel
theorem dX11_told_14 : decode cX11_told 14 = .ok (.goto 7, 3) := by decide +kernel
theorem dX11_told_17 : decode cX11_told 17 = .ok (.aload_n 0, 1) := by decide +kernel
theorem dX11_told_18 : decode cX11_told 18 = .ok (.invokevirtual 130, 3) := by decide +kernel
theorem dX11_told_21 : decode cX11_told 21 = .ok (.ireturn, 1) := by decide +kernel
theorem dX11_digest_0 : decode cX11_digest 0 = .ok (.ldc2_w 224, 3) := by decide +kernel
theorem dX11_digest_3 : decode cX11_digest 3 = .ok (.lstore_n 1, 1) := by decide +kernel
theorem dX11_digest_4 : decode cX11_digest 4 = .ok (.iconst 0, 1) := by decide +kernel
theorem dX11_digest_5 : decode cX11_digest 5 = .ok (.istore_n 3, 1) := by decide +kernel
theorem dX11_digest_6 : decode cX11_digest 6 = .ok (.iload_n 3, 1) := by decide +kernel
theorem dX11_digest_7 : decode cX11_digest 7 = .ok (.iconst 5, 1) := by decide +kernel
theorem dX11_digest_8 : decode cX11_digest 8 = .ok (.if_icmp .ge 22, 3) := by decide +kernel
theorem dX11_digest_11 : decode cX11_digest 11 = .ok (.ldc2_w 226, 3) := by decide +kernel
theorem dX11_digest_14 : decode cX11_digest 14 = .ok (.lload_n 1, 1) := by decide +kernel
theorem dX11_digest_15 : decode cX11_digest 15 = .ok (.lmul, 1) := by decide +kernel
theorem dX11_digest_16 : decode cX11_digest 16 = .ok (.aload_n 0, 1) := by decide +kernel
theorem dX11_digest_17 : decode cX11_digest 17 = .ok (.iload_n 3, 1) := by decide +kernel
theorem dX11_digest_18 : decode cX11_digest 18 = .ok (.invokevirtual 221, 3) := by decide +kernel
theorem dX11_digest_21 : decode cX11_digest 21 = .ok (.i2l, 1) := by decide +kernel
theorem dX11_digest_22 : decode cX11_digest 22 = .ok (.ladd, 1) := by decide +kernel
theorem dX11_digest_23 : decode cX11_digest 23 = .ok (.lstore_n 1, 1) := by decide +kernel
theorem dX11_digest_24 : decode cX11_digest 24 = .ok (.iinc 3 1, 3) := by decide +kernel
theorem dX11_digest_27 : decode cX11_digest 27 = .ok (.goto (-21), 3) := by decide +kernel
theorem dX11_digest_30 : decode cX11_digest 30 = .ok (.iconst 0, 1) := by decide +kernel
theorem dX11_digest_31 : decode cX11_digest 31 = .ok (.istore_n 3, 1) := by decide +kernel
theorem dX11_digest_32 : decode cX11_digest 32 = .ok (.iload_n 3, 1) := by decide +kernel
theorem dX11_digest_33 : decode cX11_digest 33 = .ok (.bipush 10, 2) := by decide +kernel
theorem dX11_digest_35 : decode cX11_digest 35 = .ok (.if_icmp .ge 22, 3) := by decide +kernel
theorem dX11_digest_38 : decode cX11_digest 38 = .ok (.ldc2_w 226, 3) := by decide +kernel
theorem dX11_digest_41 : decode cX11_digest 41 = .ok (.lload_n 1, 1) := by decide +kernel
theorem dX11_digest_42 : decode cX11_digest 42 = .ok (.lmul, 1) := by decide +kernel
theorem dX11_digest_43 : decode cX11_digest 43 = .ok (.aload_n 0, 1) := by decide +kernel
theorem dX11_digest_44 : decode cX11_digest 44 = .ok (.iload_n 3, 1) := by decide +kernel
theorem dX11_digest_45 : decode cX11_digest 45 = .ok (.invokevirtual 186, 3) := by decide +kernel
theorem dX11_digest_48 : decode cX11_digest 48 = .ok (.i2l, 1) := by decide +kernel
theorem dX11_digest_49 : decode cX11_digest 49 = .ok (.ladd, 1) := by decide +kernel
theorem dX11_digest_50 : decode cX11_digest 50 = .ok (.lstore_n 1, 1) := by decide +kernel
theorem dX11_digest_51 : decode cX11_digest 51 = .ok (.iinc 3 1, 3) := by decide +kernel
theorem dX11_digest_54 : decode cX11_digest 54 = .ok (.goto (-22), 3) := by decide +kernel
theorem dX11_digest_57 : decode cX11_digest 57 = .ok (.iconst 0, 1) := by decide +kernel
theorem dX11_digest_58 : decode cX11_digest 58 = .ok (.istore_n 3, 1) := by decide +kernel
theorem dX11_digest_59 : decode cX11_digest 59 = .ok (.iload_n 3, 1) := by decide +kernel
theorem dX11_digest_60 : decode cX11_digest 60 = .ok (.aload_n 0, 1) := by decide +kernel
theorem dX11_digest_61 : decode cX11_digest 61 = .ok (.getfield 13, 3) := by decide +kernel
theorem dX11_digest_64 : decode cX11_digest 64 = .ok (.iconst 0, 1) := by decide +kernel
theorem dX11_digest_65 : decode cX11_digest 65 = .ok (.iaload, 1) := by decide +kernel
theorem dX11_digest_66 : decode cX11_digest 66 = .ok (.if_icmp .ge 192, 3) := by decide +kernel
theorem dX11_digest_69 : decode cX11_digest 69 = .ok (.iconst 0, 1) := by decide +kernel
theorem dX11_digest_70 : decode cX11_digest 70 = .ok (.istore 4, 2) := by decide +kernel
theorem dX11_digest_72 : decode cX11_digest 72 = .ok (.iload 4, 2) := by decide +kernel
theorem dX11_digest_74 : decode cX11_digest 74 = .ok (.bipush 8, 2) := by decide +kernel
theorem dX11_digest_76 : decode cX11_digest 76 = .ok (.if_icmp .ge 24, 3) := by decide +kernel
theorem dX11_digest_79 : decode cX11_digest 79 = .ok (.ldc2_w 226, 3) := by decide +kernel
theorem dX11_digest_82 : decode cX11_digest 82 = .ok (.lload_n 1, 1) := by decide +kernel
theorem dX11_digest_83 : decode cX11_digest 83 = .ok (.lmul, 1) := by decide +kernel
theorem dX11_digest_84 : decode cX11_digest 84 = .ok (.aload_n 0, 1) := by decide +kernel
theorem dX11_digest_85 : decode cX11_digest 85 = .ok (.iload_n 3, 1) := by decide +kernel
theorem dX11_digest_86 : decode cX11_digest 86 = .ok (.iload 4, 2) := by decide +kernel
theorem dX11_digest_88 : decode cX11_digest 88 = .ok (.invokevirtual 174, 3) := by decide +kernel
theorem dX11_digest_91 : decode cX11_digest 91 = .ok (.i2l, 1) := by decide +kernel
theorem dX11_digest_92 : decode cX11_digest 92 = .ok (.ladd, 1) := by decide +kernel
theorem dX11_digest_93 : decode cX11_digest 93 = .ok (.lstore_n 1, 1) := by decide +kernel
theorem dX11_digest_94 : decode cX11_digest 94 = .ok (.iinc 4 1, 3) := by decide +kernel
theorem dX11_digest_97 : decode cX11_digest 97 = .ok (.goto (-25), 3) := by decide +kernel
theorem dX11_digest_100 : decode cX11_digest 100 = .ok (.iconst 0, 1) := by decide +kernel
theorem dX11_digest_101 : decode cX11_digest 101 = .ok (.istore 4, 2) := by decide +kernel
theorem dX11_digest_103 : decode cX11_digest 103 = .ok (.iload 4, 2) := by decide +kernel
theorem dX11_digest_105 : decode cX11_digest 105 = .ok (.aload_n 0, 1) := by decide +kernel
theorem dX11_digest_106 : decode cX11_digest 106 = .ok (.getfield 13, 3) := by decide +kernel
theorem dX11_digest_109 : decode cX11_digest 109 = .ok (.iload_n 3, 1) := by decide +kernel
theorem dX11_digest_110 : decode cX11_digest 110 = .ok (.invokestatic 54, 3) := by decide +kernel
theorem dX11_digest_113 : decode cX11_digest 113 = .ok (.iconst 0, 1) := by decide +kernel
theorem dX11_digest_114 : decode cX11_digest 114 = .ok (.iadd, 1) := by decide +kernel
theorem dX11_digest_115 : decode cX11_digest 115 = .ok (.iaload, 1) := by decide +kernel
theorem dX11_digest_116 : decode cX11_digest 116 = .ok (.if_icmp .ge 32, 3) := by decide +kernel
theorem dX11_digest_119 : decode cX11_digest 119 = .ok (.ldc2_w 226, 3) := by decide +kernel
theorem dX11_digest_122 : decode cX11_digest 122 = .ok (.lload_n 1, 1) := by decide +kernel
theorem dX11_digest_123 : decode cX11_digest 123 = .ok (.lmul, 1) := by decide +kernel
theorem dX11_digest_124 : decode cX11_digest 124 = .ok (.aload_n 0, 1) := by decide +kernel
theorem dX11_digest_125 : decode cX11_digest 125 = .ok (.getfield 13, 3) := by decide +kernel
theorem dX11_digest_128 : decode cX11_digest 128 = .ok (.iload_n 3, 1) := by decide +kernel
theorem dX11_digest_129 : decode cX11_digest 129 = .ok (.invokestatic 54, 3) := by decide +kernel
theorem dX11_digest_132 : decode cX11_digest 132 = .ok (.bipush 14, 2) := by decide +kernel
theorem dX11_digest_134 : decode cX11_digest 134 = .ok (.iadd, 1) := by decide +kernel
theorem dX11_digest_135 : decode cX11_digest 135 = .ok (.iload 4, 2) := by decide +kernel
theorem dX11_digest_137 : decode cX11_digest 137 = .ok (.iadd, 1) := by decide +kernel
theorem dX11_digest_138 : decode cX11_digest 138 = .ok (.iaload, 1) := by decide +kernel
theorem dX11_digest_139 : decode cX11_digest 139 = .ok (.i2l, 1) := by decide +kernel
theorem dX11_digest_140 : decode cX11_digest 140 = .ok (.ladd, 1) := by decide +kernel
theorem dX11_digest_141 : decode cX11_digest 141 = .ok (.lstore_n 1, 1) := by decide +kernel
theorem dX11_digest_142 : decode cX11_digest 142 = .ok (.iinc 4 1, 3) := by decide +kernel
theorem dX11_digest_145 : decode cX11_digest 145 = .ok (.goto (-42), 3) := by decide +kernel
theorem dX11_digest_148 : decode cX11_digest 148 = .ok (.ldc2_w 226, 3) := by decide +kernel
theorem dX11_digest_151 : decode cX11_digest 151 = .ok (.ldc2_w 226, 3) := by decide +kernel
theorem dX11_digest_154 : decode cX11_digest 154 = .ok (.ldc2_w 226, 3) := by decide +kernel
theorem dX11_digest_157 : decode cX11_digest 157 = .ok (.lload_n 1, 1) := by decide +kernel
theorem dX11_digest_158 : decode cX11_digest 158 = .ok (.lmul, 1) := by decide +kernel
theorem dX11_digest_159 : decode cX11_digest 159 = .ok (.aload_n 0, 1) := by decide +kernel
theorem dX11_digest_160 : decode cX11_digest 160 = .ok (.getfield 13, 3) := by decide +kernel
theorem dX11_digest_163 : decode cX11_digest 163 = .ok (.iload_n 3, 1) := by decide +kernel
theorem dX11_digest_164 : decode cX11_digest 164 = .ok (.invokestatic 54, 3) := by decide +kernel
theorem dX11_digest_167 : decode cX11_digest 167 = .ok (.iconst 5, 1) := by decide +kernel
theorem dX11_digest_168 : decode cX11_digest 168 = .ok (.iadd, 1) := by decide +kernel
theorem dX11_digest_169 : decode cX11_digest 169 = .ok (.iaload, 1) := by decide +kernel
theorem dX11_digest_170 : decode cX11_digest 170 = .ok (.i2l, 1) := by decide +kernel
theorem dX11_digest_171 : decode cX11_digest 171 = .ok (.ladd, 1) := by decide +kernel
theorem dX11_digest_172 : decode cX11_digest 172 = .ok (.lmul, 1) := by decide +kernel
theorem dX11_digest_173 : decode cX11_digest 173 = .ok (.aload_n 0, 1) := by decide +kernel
theorem dX11_digest_174 : decode cX11_digest 174 = .ok (.getfield 13, 3) := by decide +kernel
theorem dX11_digest_177 : decode cX11_digest 177 = .ok (.iload_n 3, 1) := by decide +kernel
theorem dX11_digest_178 : decode cX11_digest 178 = .ok (.invokestatic 54, 3) := by decide +kernel
theorem dX11_digest_181 : decode cX11_digest 181 = .ok (.bipush 6, 2) := by decide +kernel
theorem dX11_digest_183 : decode cX11_digest 183 = .ok (.iadd, 1) := by decide +kernel
theorem dX11_digest_184 : decode cX11_digest 184 = .ok (.iaload, 1) := by decide +kernel
theorem dX11_digest_185 : decode cX11_digest 185 = .ok (.i2l, 1) := by decide +kernel
theorem dX11_digest_186 : decode cX11_digest 186 = .ok (.ladd, 1) := by decide +kernel
theorem dX11_digest_187 : decode cX11_digest 187 = .ok (.lmul, 1) := by decide +kernel
theorem dX11_digest_188 : decode cX11_digest 188 = .ok (.aload_n 0, 1) := by decide +kernel
theorem dX11_digest_189 : decode cX11_digest 189 = .ok (.getfield 13, 3) := by decide +kernel
theorem dX11_digest_192 : decode cX11_digest 192 = .ok (.iload_n 3, 1) := by decide +kernel
theorem dX11_digest_193 : decode cX11_digest 193 = .ok (.invokestatic 54, 3) := by decide +kernel
theorem dX11_digest_196 : decode cX11_digest 196 = .ok (.bipush 7, 2) := by decide +kernel
theorem dX11_digest_198 : decode cX11_digest 198 = .ok (.iadd, 1) := by decide +kernel
theorem dX11_digest_199 : decode cX11_digest 199 = .ok (.iaload, 1) := by decide +kernel
theorem dX11_digest_200 : decode cX11_digest 200 = .ok (.i2l, 1) := by decide +kernel
theorem dX11_digest_201 : decode cX11_digest 201 = .ok (.ladd, 1) := by decide +kernel
theorem dX11_digest_202 : decode cX11_digest 202 = .ok (.lstore_n 1, 1) := by decide +kernel
theorem dX11_digest_203 : decode cX11_digest 203 = .ok (.iconst 0, 1) := by decide +kernel
theorem dX11_digest_204 : decode cX11_digest 204 = .ok (.istore 4, 2) := by decide +kernel
theorem dX11_digest_206 : decode cX11_digest 206 = .ok (.iload 4, 2) := by decide +kernel
theorem dX11_digest_208 : decode cX11_digest 208 = .ok (.aload_n 0, 1) := by decide +kernel
theorem dX11_digest_209 : decode cX11_digest 209 = .ok (.getfield 13, 3) := by decide +kernel
theorem dX11_digest_212 : decode cX11_digest 212 = .ok (.iload_n 3, 1) := by decide +kernel
theorem dX11_digest_213 : decode cX11_digest 213 = .ok (.invokestatic 54, 3) := by decide +kernel
theorem dX11_digest_216 : decode cX11_digest 216 = .ok (.bipush 7, 2) := by decide +kernel
theorem dX11_digest_218 : decode cX11_digest 218 = .ok (.iadd, 1) := by decide +kernel
theorem dX11_digest_219 : decode cX11_digest 219 = .ok (.iaload, 1) := by decide +kernel
theorem dX11_digest_220 : decode cX11_digest 220 = .ok (.if_icmp .ge 32, 3) := by decide +kernel
theorem dX11_digest_223 : decode cX11_digest 223 = .ok (.ldc2_w 226, 3) := by decide +kernel
theorem dX11_digest_226 : decode cX11_digest 226 = .ok (.lload_n 1, 1) := by decide +kernel
theorem dX11_digest_227 : decode cX11_digest 227 = .ok (.lmul, 1) := by decide +kernel
theorem dX11_digest_228 : decode cX11_digest 228 = .ok (.aload_n 0, 1) := by decide +kernel
theorem dX11_digest_229 : decode cX11_digest 229 = .ok (.getfield 13, 3) := by decide +kernel
theorem dX11_digest_232 : decode cX11_digest 232 = .ok (.iload_n 3, 1) := by decide +kernel
theorem dX11_digest_233 : decode cX11_digest 233 = .ok (.invokestatic 54, 3) := by decide +kernel
theorem dX11_digest_236 : decode cX11_digest 236 = .ok (.bipush 8, 2) := by decide +kernel
theorem dX11_digest_238 : decode cX11_digest 238 = .ok (.iadd, 1) := by decide +kernel
theorem dX11_digest_239 : decode cX11_digest 239 = .ok (.iload 4, 2) := by decide +kernel
theorem dX11_digest_241 : decode cX11_digest 241 = .ok (.iadd, 1) := by decide +kernel
theorem dX11_digest_242 : decode cX11_digest 242 = .ok (.iaload, 1) := by decide +kernel
theorem dX11_digest_243 : decode cX11_digest 243 = .ok (.i2l, 1) := by decide +kernel
theorem dX11_digest_244 : decode cX11_digest 244 = .ok (.ladd, 1) := by decide +kernel
theorem dX11_digest_245 : decode cX11_digest 245 = .ok (.lstore_n 1, 1) := by decide +kernel
theorem dX11_digest_246 : decode cX11_digest 246 = .ok (.iinc 4 1, 3) := by decide +kernel
theorem dX11_digest_249 : decode cX11_digest 249 = .ok (.goto (-43), 3) := by decide +kernel
theorem dX11_digest_252 : decode cX11_digest 252 = .ok (.iinc 3 1, 3) := by decide +kernel
theorem dX11_digest_255 : decode cX11_digest 255 = .ok (.goto (-196), 3) := by decide +kernel
theorem dX11_digest_258 : decode cX11_digest 258 = .ok (.iconst 0, 1) := by decide +kernel
theorem dX11_digest_259 : decode cX11_digest 259 = .ok (.istore_n 3, 1) := by decide +kernel
theorem dX11_digest_260 : decode cX11_digest 260 = .ok (.iload_n 3, 1) := by decide +kernel
theorem dX11_digest_261 : decode cX11_digest 261 = .ok (.aload_n 0, 1) := by decide +kernel
theorem dX11_digest_262 : decode cX11_digest 262 = .ok (.getfield 13, 3) := by decide +kernel
theorem dX11_digest_265 : decode cX11_digest 265 = .ok (.iconst 1, 1) := by decide +kernel
theorem dX11_digest_266 : decode cX11_digest 266 = .ok (.iaload, 1) := by decide +kernel
theorem dX11_digest_267 : decode cX11_digest 267 = .ok (.if_icmp .ge 40, 3) := by decide +kernel
theorem dX11_digest_270 : decode cX11_digest 270 = .ok (.iconst 0, 1) := by decide +kernel
theorem dX11_digest_271 : decode cX11_digest 271 = .ok (.istore 4, 2) := by decide +kernel
theorem dX11_digest_273 : decode cX11_digest 273 = .ok (.iload 4, 2) := by decide +kernel
theorem dX11_digest_275 : decode cX11_digest 275 = .ok (.bipush 7, 2) := by decide +kernel
theorem dX11_digest_277 : decode cX11_digest 277 = .ok (.if_icmp .ge 24, 3) := by decide +kernel
theorem dX11_digest_280 : decode cX11_digest 280 = .ok (.ldc2_w 226, 3) := by decide +kernel
theorem dX11_digest_283 : decode cX11_digest 283 = .ok (.lload_n 1, 1) := by decide +kernel
theorem dX11_digest_284 : decode cX11_digest 284 = .ok (.lmul, 1) := by decide +kernel
theorem dX11_digest_285 : decode cX11_digest 285 = .ok (.aload_n 0, 1) := by decide +kernel
theorem dX11_digest_286 : decode cX11_digest 286 = .ok (.iload_n 3, 1) := by decide +kernel
theorem dX11_digest_287 : decode cX11_digest 287 = .ok (.iload 4, 2) := by decide +kernel
theorem dX11_digest_289 : decode cX11_digest 289 = .ok (.invokevirtual 177, 3) := by decide +kernel
theorem dX11_digest_292 : decode cX11_digest 292 = .ok (.i2l, 1) := by decide +kernel
theorem dX11_digest_293 : decode cX11_digest 293 = .ok (.ladd, 1) := by decide +kernel
theorem dX11_digest_294 : decode cX11_digest 294 = .ok (.lstore_n 1, 1) := by decide +kernel
theorem dX11_digest_295 : decode cX11_digest 295 = .ok (.iinc 4 1, 3) := by decide +kernel
theorem dX11_digest_298 : decode cX11_digest 298 = .ok (.goto (-25), 3) := by decide +kernel
theorem dX11_digest_301 : decode cX11_digest 301 = .ok (.iinc 3 1, 3) := by decide +kernel
theorem dX11_digest_304 : decode cX11_digest 304 = .ok (.goto (-44), 3) := by decide +kernel
theorem dX11_digest_307 : decode cX11_digest 307 = .ok (.iconst 0, 1) := by decide +kernel
theorem dX11_digest_308 : decode cX11_digest 308 = .ok (.istore_n 3, 1) := by decide +kernel
theorem dX11_digest_309 : decode cX11_digest 309 = .ok (.iload_n 3, 1) := by decide +kernel
theorem dX11_digest_310 : decode cX11_digest 310 = .ok (.bipush 6, 2) := by decide +kernel
theorem dX11_digest_312 : decode cX11_digest 312 = .ok (.if_icmp .ge 44, 3) := by decide +kernel
theorem dX11_digest_315 : decode cX11_digest 315 = .ok (.iconst 0, 1) := by decide +kernel
theorem dX11_digest_316 : decode cX11_digest 316 = .ok (.istore 4, 2) := by decide +kernel
theorem dX11_digest_318 : decode cX11_digest 318 = .ok (.iload 4, 2) := by decide +kernel
theorem dX11_digest_320 : decode cX11_digest 320 = .ok (.iconst 5, 1) := by decide +kernel
theorem dX11_digest_321 : decode cX11_digest 321 = .ok (.if_icmp .ge 29, 3) := by decide +kernel
theorem dX11_digest_324 : decode cX11_digest 324 = .ok (.ldc2_w 226, 3) := by decide +kernel
theorem dX11_digest_327 : decode cX11_digest 327 = .ok (.lload_n 1, 1) := by decide +kernel
theorem dX11_digest_328 : decode cX11_digest 328 = .ok (.lmul, 1) := by decide +kernel
theorem dX11_digest_329 : decode cX11_digest 329 = .ok (.aload_n 0, 1) := by decide +kernel
theorem dX11_digest_330 : decode cX11_digest 330 = .ok (.getfield 13, 3) := by decide +kernel
theorem dX11_digest_333 : decode cX11_digest 333 = .ok (.iload_n 3, 1) := by decide +kernel
theorem dX11_digest_334 : decode cX11_digest 334 = .ok (.invokestatic 58, 3) := by decide +kernel
theorem dX11_digest_337 : decode cX11_digest 337 = .ok (.iload 4, 2) := by decide +kernel
theorem dX11_digest_339 : decode cX11_digest 339 = .ok (.iadd, 1) := by decide +kernel
theorem dX11_digest_340 : decode cX11_digest 340 = .ok (.iaload, 1) := by decide +kernel
theorem dX11_digest_341 : decode cX11_digest 341 = .ok (.i2l, 1) := by decide +kernel
theorem dX11_digest_342 : decode cX11_digest 342 = .ok (.ladd, 1) := by decide +kernel
theorem dX11_digest_343 : decode cX11_digest 343 = .ok (.lstore_n 1, 1) := by decide +kernel
theorem dX11_digest_344 : decode cX11_digest 344 = .ok (.iinc 4 1, 3) := by decide +kernel
theorem dX11_digest_347 : decode cX11_digest 347 = .ok (.goto (-29), 3) := by decide +kernel
theorem dX11_digest_350 : decode cX11_digest 350 = .ok (.iinc 3 1, 3) := by decide +kernel
theorem dX11_digest_353 : decode cX11_digest 353 = .ok (.goto (-44), 3) := by decide +kernel
theorem dX11_digest_356 : decode cX11_digest 356 = .ok (.iconst 0, 1) := by decide +kernel
theorem dX11_digest_357 : decode cX11_digest 357 = .ok (.istore_n 3, 1) := by decide +kernel
theorem dX11_digest_358 : decode cX11_digest 358 = .ok (.iload_n 3, 1) := by decide +kernel
theorem dX11_digest_359 : decode cX11_digest 359 = .ok (.aload_n 0, 1) := by decide +kernel
theorem dX11_digest_360 : decode cX11_digest 360 = .ok (.getfield 13, 3) := by decide +kernel
theorem dX11_digest_363 : decode cX11_digest 363 = .ok (.iconst 4, 1) := by decide +kernel
theorem dX11_digest_364 : decode cX11_digest 364 = .ok (.iaload, 1) := by decide +kernel
theorem dX11_digest_365 : decode cX11_digest 365 = .ok (.if_icmp .ge 27, 3) := by decide +kernel
theorem dX11_digest_368 : decode cX11_digest 368 = .ok (.ldc2_w 226, 3) := by decide +kernel
theorem dX11_digest_371 : decode cX11_digest 371 = .ok (.lload_n 1, 1) := by decide +kernel
theorem dX11_digest_372 : decode cX11_digest 372 = .ok (.lmul, 1) := by decide +kernel
theorem dX11_digest_373 : decode cX11_digest 373 = .ok (.aload_n 0, 1) := by decide +kernel
theorem dX11_digest_374 : decode cX11_digest 374 = .ok (.getfield 13, 3) := by decide +kernel
theorem dX11_digest_377 : decode cX11_digest 377 = .ok (.sipush 300, 3) := by decide +kernel
theorem dX11_digest_380 : decode cX11_digest 380 = .ok (.iload_n 3, 1) := by decide +kernel
theorem dX11_digest_381 : decode cX11_digest 381 = .ok (.iadd, 1) := by decide +kernel
theorem dX11_digest_382 : decode cX11_digest 382 = .ok (.iaload, 1) := by decide +kernel
theorem dX11_digest_383 : decode cX11_digest 383 = .ok (.i2l, 1) := by decide +kernel
theorem dX11_digest_384 : decode cX11_digest 384 = .ok (.ladd, 1) := by decide +kernel
theorem dX11_digest_385 : decode cX11_digest 385 = .ok (.lstore_n 1, 1) := by decide +kernel
theorem dX11_digest_386 : decode cX11_digest 386 = .ok (.iinc 3 1, 3) := by decide +kernel
theorem dX11_digest_389 : decode cX11_digest 389 = .ok (.goto (-31), 3) := by decide +kernel
theorem dX11_digest_392 : decode cX11_digest 392 = .ok (.ldc2_w 226, 3) := by decide +kernel
theorem dX11_digest_395 : decode cX11_digest 395 = .ok (.lload_n 1, 1) := by decide +kernel
theorem dX11_digest_396 : decode cX11_digest 396 = .ok (.lmul, 1) := by decide +kernel
theorem dX11_digest_397 : decode cX11_digest 397 = .ok (.aload_n 0, 1) := by decide +kernel
theorem dX11_digest_398 : decode cX11_digest 398 = .ok (.invokevirtual 228, 3) := by decide +kernel
theorem dX11_digest_401 : decode cX11_digest 401 = .ok (.i2l, 1) := by decide +kernel
theorem dX11_digest_402 : decode cX11_digest 402 = .ok (.ladd, 1) := by decide +kernel
theorem dX11_digest_403 : decode cX11_digest 403 = .ok (.lreturn, 1) := by decide +kernel
theorem dL_law_0 : decode cL_law 0 = .ok (.new 7, 3) := by decide +kernel
theorem dL_law_3 : decode cL_law 3 = .ok (.dup, 1) := by decide +kernel
theorem dL_law_4 : decode cL_law 4 = .ok (.invokespecial 9, 3) := by decide +kernel
theorem dL_law_7 : decode cL_law 7 = .ok (.astore_n 1, 1) := by decide +kernel
theorem dL_law_8 : decode cL_law 8 = .ok (.new 10, 3) := by decide +kernel
theorem dL_law_11 : decode cL_law 11 = .ok (.dup, 1) := by decide +kernel
theorem dL_law_12 : decode cL_law 12 = .ok (.invokespecial 12, 3) := by decide +kernel
theorem dL_law_15 : decode cL_law 15 = .ok (.astore_n 2, 1) := by decide +kernel
theorem dL_law_16 : decode cL_law 16 = .ok (.iconst 0, 1) := by decide +kernel
theorem dL_law_17 : decode cL_law 17 = .ok (.istore_n 3, 1) := by decide +kernel
theorem dL_law_18 : decode cL_law 18 = .ok (.iload_n 3, 1) := by decide +kernel
theorem dL_law_19 : decode cL_law 19 = .ok (.aload_n 0, 1) := by decide +kernel
theorem dL_law_20 : decode cL_law 20 = .ok (.arraylength, 1) := by decide +kernel
theorem dL_law_21 : decode cL_law 21 = .ok (.bipush 6, 2) := by decide +kernel
theorem dL_law_23 : decode cL_law 23 = .ok (.isub, 1) := by decide +kernel
theorem dL_law_24 : decode cL_law 24 = .ok (.if_icmp .gt 947, 3) := by decide +kernel
theorem dL_law_27 : decode cL_law 27 = .ok (.aload_n 0, 1) := by decide +kernel
theorem dL_law_28 : decode cL_law 28 = .ok (.iload_n 3, 1) := by decide +kernel
theorem dL_law_29 : decode cL_law 29 = .ok (.iaload, 1) := by decide +kernel
theorem dL_law_30 : decode cL_law 30 = .ok (.bipush 31, 2) := by decide +kernel
theorem dL_law_32 : decode cL_law 32 = .ok (.iand, 1) := by decide +kernel
theorem dL_law_33 : decode cL_law 33 = .ok (.tableswitch 932 0 27 #[127, 150, 183, 246, 279, 302, 335, 358, 411, 464, 487, 520, 553, 576, 609, 642, 655, 688, 721, 754, 787, 810, 833, 856, 869, 882, 895, 918], 127) := by decide +kernel
theorem dL_law_160 : decode cL_law 160 = .ok (.aload_n 1, 1) := by decide +kernel
theorem dL_law_161 : decode cL_law 161 = .ok (.aload_n 0, 1) := by decide +kernel
theorem dL_law_162 : decode cL_law 162 = .ok (.iload_n 3, 1) := by decide +kernel
theorem dL_law_163 : decode cL_law 163 = .ok (.iconst 1, 1) := by decide +kernel
theorem dL_law_164 : decode cL_law 164 = .ok (.iadd, 1) := by decide +kernel
theorem dL_law_165 : decode cL_law 165 = .ok (.iaload, 1) := by decide +kernel
theorem dL_law_166 : decode cL_law 166 = .ok (.invokevirtual 13, 3) := by decide +kernel
theorem dL_law_169 : decode cL_law 169 = .ok (.aload_n 2, 1) := by decide +kernel
theorem dL_law_170 : decode cL_law 170 = .ok (.aload_n 0, 1) := by decide +kernel
theorem dL_law_171 : decode cL_law 171 = .ok (.iload_n 3, 1) := by decide +kernel
theorem dL_law_172 : decode cL_law 172 = .ok (.iconst 1, 1) := by decide +kernel
theorem dL_law_173 : decode cL_law 173 = .ok (.iadd, 1) := by decide +kernel
theorem dL_law_174 : decode cL_law 174 = .ok (.iaload, 1) := by decide +kernel
theorem dL_law_175 : decode cL_law 175 = .ok (.invokevirtual 17, 3) := by decide +kernel
theorem dL_law_178 : decode cL_law 178 = .ok (.if_icmp .eq 787, 3) := by decide +kernel
theorem dL_law_181 : decode cL_law 181 = .ok (.iconst 0, 1) := by decide +kernel
theorem dL_law_182 : decode cL_law 182 = .ok (.ireturn, 1) := by decide +kernel
theorem dL_law_183 : decode cL_law 183 = .ok (.aload_n 1, 1) := by decide +kernel
theorem dL_law_184 : decode cL_law 184 = .ok (.aload_n 0, 1) := by decide +kernel
theorem dL_law_185 : decode cL_law 185 = .ok (.iload_n 3, 1) := by decide +kernel
theorem dL_law_186 : decode cL_law 186 = .ok (.iconst 1, 1) := by decide +kernel
theorem dL_law_187 : decode cL_law 187 = .ok (.iadd, 1) := by decide +kernel
theorem dL_law_188 : decode cL_law 188 = .ok (.iaload, 1) := by decide +kernel
theorem dL_law_189 : decode cL_law 189 = .ok (.aload_n 0, 1) := by decide +kernel
theorem dL_law_190 : decode cL_law 190 = .ok (.iload_n 3, 1) := by decide +kernel
theorem dL_law_191 : decode cL_law 191 = .ok (.iconst 2, 1) := by decide +kernel
theorem dL_law_192 : decode cL_law 192 = .ok (.iadd, 1) := by decide +kernel
theorem dL_law_193 : decode cL_law 193 = .ok (.iaload, 1) := by decide +kernel
theorem dL_law_194 : decode cL_law 194 = .ok (.invokevirtual 18, 3) := by decide +kernel
theorem dL_law_197 : decode cL_law 197 = .ok (.aload_n 2, 1) := by decide +kernel
theorem dL_law_198 : decode cL_law 198 = .ok (.aload_n 0, 1) := by decide +kernel
theorem dL_law_199 : decode cL_law 199 = .ok (.iload_n 3, 1) := by decide +kernel
theorem dL_law_200 : decode cL_law 200 = .ok (.iconst 1, 1) := by decide +kernel
theorem dL_law_201 : decode cL_law 201 = .ok (.iadd, 1) := by decide +kernel
theorem dL_law_202 : decode cL_law 202 = .ok (.iaload, 1) := by decide +kernel
theorem dL_law_203 : decode cL_law 203 = .ok (.aload_n 0, 1) := by decide +kernel
theorem dL_law_204 : decode cL_law 204 = .ok (.iload_n 3, 1) := by decide +kernel
theorem dL_law_205 : decode cL_law 205 = .ok (.iconst 2, 1) := by decide +kernel
theorem dL_law_206 : decode cL_law 206 = .ok (.iadd, 1) := by decide +kernel
theorem dL_law_207 : decode cL_law 207 = .ok (.iaload, 1) := by decide +kernel
theorem dL_law_208 : decode cL_law 208 = .ok (.invokevirtual 22, 3) := by decide +kernel
theorem dL_law_211 : decode cL_law 211 = .ok (.if_icmp .eq 754, 3) := by decide +kernel
theorem dL_law_214 : decode cL_law 214 = .ok (.iconst 0, 1) := by decide +kernel
theorem dL_law_215 : decode cL_law 215 = .ok (.ireturn, 1) := by decide +kernel
theorem dL_law_216 : decode cL_law 216 = .ok (.aload_n 1, 1) := by decide +kernel
theorem dL_law_217 : decode cL_law 217 = .ok (.aload_n 0, 1) := by decide +kernel
theorem dL_law_218 : decode cL_law 218 = .ok (.iload_n 3, 1) := by decide +kernel
theorem dL_law_219 : decode cL_law 219 = .ok (.iconst 1, 1) := by decide +kernel
theorem dL_law_220 : decode cL_law 220 = .ok (.iadd, 1) := by decide +kernel
theorem dL_law_221 : decode cL_law 221 = .ok (.iaload, 1) := by decide +kernel
theorem dL_law_222 : decode cL_law 222 = .ok (.aload_n 0, 1) := by decide +kernel
theorem dL_law_223 : decode cL_law 223 = .ok (.iload_n 3, 1) := by decide +kernel
theorem dL_law_224 : decode cL_law 224 = .ok (.iconst 2, 1) := by decide +kernel
theorem dL_law_225 : decode cL_law 225 = .ok (.iadd, 1) := by decide +kernel
theorem dL_law_226 : decode cL_law 226 = .ok (.iaload, 1) := by decide +kernel
theorem dL_law_227 : decode cL_law 227 = .ok (.aload_n 0, 1) := by decide +kernel
theorem dL_law_228 : decode cL_law 228 = .ok (.iload_n 3, 1) := by decide +kernel
theorem dL_law_229 : decode cL_law 229 = .ok (.iconst 3, 1) := by decide +kernel
theorem dL_law_230 : decode cL_law 230 = .ok (.iadd, 1) := by decide +kernel
theorem dL_law_231 : decode cL_law 231 = .ok (.iaload, 1) := by decide +kernel
theorem dL_law_232 : decode cL_law 232 = .ok (.aload_n 0, 1) := by decide +kernel
theorem dL_law_233 : decode cL_law 233 = .ok (.iload_n 3, 1) := by decide +kernel
theorem dL_law_234 : decode cL_law 234 = .ok (.iconst 4, 1) := by decide +kernel
theorem dL_law_235 : decode cL_law 235 = .ok (.iadd, 1) := by decide +kernel
theorem dL_law_236 : decode cL_law 236 = .ok (.iaload, 1) := by decide +kernel
theorem dL_law_237 : decode cL_law 237 = .ok (.aload_n 0, 1) := by decide +kernel
theorem dL_law_238 : decode cL_law 238 = .ok (.iload_n 3, 1) := by decide +kernel
theorem dL_law_239 : decode cL_law 239 = .ok (.iconst 5, 1) := by decide +kernel
theorem dL_law_240 : decode cL_law 240 = .ok (.iadd, 1) := by decide +kernel
theorem dL_law_241 : decode cL_law 241 = .ok (.iaload, 1) := by decide +kernel
theorem dL_law_242 : decode cL_law 242 = .ok (.invokevirtual 23, 3) := by decide +kernel
theorem dL_law_245 : decode cL_law 245 = .ok (.aload_n 2, 1) := by decide +kernel
theorem dL_law_246 : decode cL_law 246 = .ok (.aload_n 0, 1) := by decide +kernel
theorem dL_law_247 : decode cL_law 247 = .ok (.iload_n 3, 1) := by decide +kernel
theorem dL_law_248 : decode cL_law 248 = .ok (.iconst 1, 1) := by decide +kernel
theorem dL_law_249 : decode cL_law 249 = .ok (.iadd, 1) := by decide +kernel
theorem dL_law_250 : decode cL_law 250 = .ok (.iaload, 1) := by decide +kernel
theorem dL_law_251 : decode cL_law 251 = .ok (.aload_n 0, 1) := by decide +kernel
theorem dL_law_252 : decode cL_law 252 = .ok (.iload_n 3, 1) := by decide +kernel
theorem dL_law_253 : decode cL_law 253 = .ok (.iconst 2, 1) := by decide +kernel
theorem dL_law_254 : decode cL_law 254 = .ok (.iadd, 1) := by decide +kernel
theorem dL_law_255 : decode cL_law 255 = .ok (.iaload, 1) := by decide +kernel
theorem dL_law_256 : decode cL_law 256 = .ok (.aload_n 0, 1) := by decide +kernel
theorem dL_law_257 : decode cL_law 257 = .ok (.iload_n 3, 1) := by decide +kernel
theorem dL_law_258 : decode cL_law 258 = .ok (.iconst 3, 1) := by decide +kernel
theorem dL_law_259 : decode cL_law 259 = .ok (.iadd, 1) := by decide +kernel
theorem dL_law_260 : decode cL_law 260 = .ok (.iaload, 1) := by decide +kernel
theorem dL_law_261 : decode cL_law 261 = .ok (.aload_n 0, 1) := by decide +kernel
theorem dL_law_262 : decode cL_law 262 = .ok (.iload_n 3, 1) := by decide +kernel
theorem dL_law_263 : decode cL_law 263 = .ok (.iconst 4, 1) := by decide +kernel
theorem dL_law_264 : decode cL_law 264 = .ok (.iadd, 1) := by decide +kernel
theorem dL_law_265 : decode cL_law 265 = .ok (.iaload, 1) := by decide +kernel
theorem dL_law_266 : decode cL_law 266 = .ok (.aload_n 0, 1) := by decide +kernel
theorem dL_law_267 : decode cL_law 267 = .ok (.iload_n 3, 1) := by decide +kernel
theorem dL_law_268 : decode cL_law 268 = .ok (.iconst 5, 1) := by decide +kernel
theorem dL_law_269 : decode cL_law 269 = .ok (.iadd, 1) := by decide +kernel
theorem dL_law_270 : decode cL_law 270 = .ok (.iaload, 1) := by decide +kernel
theorem dL_law_271 : decode cL_law 271 = .ok (.invokevirtual 27, 3) := by decide +kernel
theorem dL_law_274 : decode cL_law 274 = .ok (.if_icmp .eq 691, 3) := by decide +kernel
theorem dL_law_277 : decode cL_law 277 = .ok (.iconst 0, 1) := by decide +kernel
theorem dL_law_278 : decode cL_law 278 = .ok (.ireturn, 1) := by decide +kernel
theorem dL_law_279 : decode cL_law 279 = .ok (.aload_n 1, 1) := by decide +kernel
theorem dL_law_280 : decode cL_law 280 = .ok (.aload_n 0, 1) := by decide +kernel
theorem dL_law_281 : decode cL_law 281 = .ok (.iload_n 3, 1) := by decide +kernel
theorem dL_law_282 : decode cL_law 282 = .ok (.iconst 1, 1) := by decide +kernel
theorem dL_law_283 : decode cL_law 283 = .ok (.iadd, 1) := by decide +kernel
theorem dL_law_284 : decode cL_law 284 = .ok (.iaload, 1) := by decide +kernel
theorem dL_law_285 : decode cL_law 285 = .ok (.aload_n 0, 1) := by decide +kernel
theorem dL_law_286 : decode cL_law 286 = .ok (.iload_n 3, 1) := by decide +kernel
theorem dL_law_287 : decode cL_law 287 = .ok (.iconst 2, 1) := by decide +kernel
theorem dL_law_288 : decode cL_law 288 = .ok (.iadd, 1) := by decide +kernel
theorem dL_law_289 : decode cL_law 289 = .ok (.iaload, 1) := by decide +kernel
theorem dL_law_290 : decode cL_law 290 = .ok (.invokevirtual 28, 3) := by decide +kernel
theorem dL_law_293 : decode cL_law 293 = .ok (.aload_n 2, 1) := by decide +kernel
theorem dL_law_294 : decode cL_law 294 = .ok (.aload_n 0, 1) := by decide +kernel
theorem dL_law_295 : decode cL_law 295 = .ok (.iload_n 3, 1) := by decide +kernel
theorem dL_law_296 : decode cL_law 296 = .ok (.iconst 1, 1) := by decide +kernel
theorem dL_law_297 : decode cL_law 297 = .ok (.iadd, 1) := by decide +kernel
theorem dL_law_298 : decode cL_law 298 = .ok (.iaload, 1) := by decide +kernel
theorem dL_law_299 : decode cL_law 299 = .ok (.aload_n 0, 1) := by decide +kernel
theorem dL_law_300 : decode cL_law 300 = .ok (.iload_n 3, 1) := by decide +kernel
theorem dL_law_301 : decode cL_law 301 = .ok (.iconst 2, 1) := by decide +kernel
theorem dL_law_302 : decode cL_law 302 = .ok (.iadd, 1) := by decide +kernel
theorem dL_law_303 : decode cL_law 303 = .ok (.iaload, 1) := by decide +kernel
theorem dL_law_304 : decode cL_law 304 = .ok (.invokevirtual 31, 3) := by decide +kernel
theorem dL_law_307 : decode cL_law 307 = .ok (.if_icmp .eq 658, 3) := by decide +kernel
theorem dL_law_310 : decode cL_law 310 = .ok (.iconst 0, 1) := by decide +kernel
theorem dL_law_311 : decode cL_law 311 = .ok (.ireturn, 1) := by decide +kernel
theorem dL_law_312 : decode cL_law 312 = .ok (.aload_n 1, 1) := by decide +kernel
theorem dL_law_313 : decode cL_law 313 = .ok (.aload_n 0, 1) := by decide +kernel
theorem dL_law_314 : decode cL_law 314 = .ok (.iload_n 3, 1) := by decide +kernel
theorem dL_law_315 : decode cL_law 315 = .ok (.iconst 1, 1) := by decide +kernel
theorem dL_law_316 : decode cL_law 316 = .ok (.iadd, 1) := by decide +kernel
theorem dL_law_317 : decode cL_law 317 = .ok (.iaload, 1) := by decide +kernel
theorem dL_law_318 : decode cL_law 318 = .ok (.invokevirtual 32, 3) := by decide +kernel
theorem dL_law_321 : decode cL_law 321 = .ok (.aload_n 2, 1) := by decide +kernel
theorem dL_law_322 : decode cL_law 322 = .ok (.aload_n 0, 1) := by decide +kernel
theorem dL_law_323 : decode cL_law 323 = .ok (.iload_n 3, 1) := by decide +kernel
theorem dL_law_324 : decode cL_law 324 = .ok (.iconst 1, 1) := by decide +kernel
theorem dL_law_325 : decode cL_law 325 = .ok (.iadd, 1) := by decide +kernel
theorem dL_law_326 : decode cL_law 326 = .ok (.iaload, 1) := by decide +kernel
theorem dL_law_327 : decode cL_law 327 = .ok (.invokevirtual 35, 3) := by decide +kernel
theorem dL_law_330 : decode cL_law 330 = .ok (.if_icmp .eq 635, 3) := by decide +kernel
theorem dL_law_333 : decode cL_law 333 = .ok (.iconst 0, 1) := by decide +kernel
theorem dL_law_334 : decode cL_law 334 = .ok (.ireturn, 1) := by decide +kernel
theorem dL_law_335 : decode cL_law 335 = .ok (.aload_n 1, 1) := by decide +kernel
theorem dL_law_336 : decode cL_law 336 = .ok (.aload_n 0, 1) := by decide +kernel
theorem dL_law_337 : decode cL_law 337 = .ok (.iload_n 3, 1) := by decide +kernel
theorem dL_law_338 : decode cL_law 338 = .ok (.iconst 1, 1) := by decide +kernel
theorem dL_law_339 : decode cL_law 339 = .ok (.iadd, 1) := by decide +kernel
theorem dL_law_340 : decode cL_law 340 = .ok (.iaload, 1) := by decide +kernel
theorem dL_law_341 : decode cL_law 341 = .ok (.aload_n 0, 1) := by decide +kernel
theorem dL_law_342 : decode cL_law 342 = .ok (.iload_n 3, 1) := by decide +kernel
theorem dL_law_343 : decode cL_law 343 = .ok (.iconst 2, 1) := by decide +kernel
theorem dL_law_344 : decode cL_law 344 = .ok (.iadd, 1) := by decide +kernel
theorem dL_law_345 : decode cL_law 345 = .ok (.iaload, 1) := by decide +kernel
theorem dL_law_346 : decode cL_law 346 = .ok (.invokevirtual 36, 3) := by decide +kernel
theorem dL_law_349 : decode cL_law 349 = .ok (.aload_n 2, 1) := by decide +kernel
theorem dL_law_350 : decode cL_law 350 = .ok (.aload_n 0, 1) := by decide +kernel
theorem dL_law_351 : decode cL_law 351 = .ok (.iload_n 3, 1) := by decide +kernel
theorem dL_law_352 : decode cL_law 352 = .ok (.iconst 1, 1) := by decide +kernel
theorem dL_law_353 : decode cL_law 353 = .ok (.iadd, 1) := by decide +kernel
theorem dL_law_354 : decode cL_law 354 = .ok (.iaload, 1) := by decide +kernel
theorem dL_law_355 : decode cL_law 355 = .ok (.aload_n 0, 1) := by decide +kernel
theorem dL_law_356 : decode cL_law 356 = .ok (.iload_n 3, 1) := by decide +kernel
theorem dL_law_357 : decode cL_law 357 = .ok (.iconst 2, 1) := by decide +kernel
theorem dL_law_358 : decode cL_law 358 = .ok (.iadd, 1) := by decide +kernel
theorem dL_law_359 : decode cL_law 359 = .ok (.iaload, 1) := by decide +kernel
theorem dL_law_360 : decode cL_law 360 = .ok (.invokevirtual 39, 3) := by decide +kernel
theorem dL_law_363 : decode cL_law 363 = .ok (.if_icmp .eq 602, 3) := by decide +kernel
theorem dL_law_366 : decode cL_law 366 = .ok (.iconst 0, 1) := by decide +kernel
theorem dL_law_367 : decode cL_law 367 = .ok (.ireturn, 1) := by decide +kernel
theorem dL_law_368 : decode cL_law 368 = .ok (.aload_n 1, 1) := by decide +kernel
theorem dL_law_369 : decode cL_law 369 = .ok (.aload_n 0, 1) := by decide +kernel
theorem dL_law_370 : decode cL_law 370 = .ok (.iload_n 3, 1) := by decide +kernel
theorem dL_law_371 : decode cL_law 371 = .ok (.iconst 1, 1) := by decide +kernel
theorem dL_law_372 : decode cL_law 372 = .ok (.iadd, 1) := by decide +kernel
theorem dL_law_373 : decode cL_law 373 = .ok (.iaload, 1) := by decide +kernel
theorem dL_law_374 : decode cL_law 374 = .ok (.invokevirtual 40, 3) := by decide +kernel
theorem dL_law_377 : decode cL_law 377 = .ok (.aload_n 2, 1) := by decide +kernel
theorem dL_law_378 : decode cL_law 378 = .ok (.aload_n 0, 1) := by decide +kernel
theorem dL_law_379 : decode cL_law 379 = .ok (.iload_n 3, 1) := by decide +kernel
theorem dL_law_380 : decode cL_law 380 = .ok (.iconst 1, 1) := by decide +kernel
theorem dL_law_381 : decode cL_law 381 = .ok (.iadd, 1) := by decide +kernel
theorem dL_law_382 : decode cL_law 382 = .ok (.iaload, 1) := by decide +kernel
theorem dL_law_383 : decode cL_law 383 = .ok (.invokevirtual 43, 3) := by decide +kernel
theorem dL_law_386 : decode cL_law 386 = .ok (.if_icmp .eq 579, 3) := by decide +kernel
theorem dL_law_389 : decode cL_law 389 = .ok (.iconst 0, 1) := by decide +kernel
theorem dL_law_390 : decode cL_law 390 = .ok (.ireturn, 1) := by decide +kernel
theorem dL_law_391 : decode cL_law 391 = .ok (.aload_n 1, 1) := by decide +kernel
theorem dL_law_392 : decode cL_law 392 = .ok (.aload_n 0, 1) := by decide +kernel
theorem dL_law_393 : decode cL_law 393 = .ok (.iload_n 3, 1) := by decide +kernel
theorem dL_law_394 : decode cL_law 394 = .ok (.iconst 1, 1) := by decide +kernel
theorem dL_law_395 : decode cL_law 395 = .ok (.iadd, 1) := by decide +kernel
theorem dL_law_396 : decode cL_law 396 = .ok (.iaload, 1) := by decide +kernel
theorem dL_law_397 : decode cL_law 397 = .ok (.aload_n 0, 1) := by decide +kernel
theorem dL_law_398 : decode cL_law 398 = .ok (.iload_n 3, 1) := by decide +kernel
theorem dL_law_399 : decode cL_law 399 = .ok (.iconst 2, 1) := by decide +kernel
theorem dL_law_400 : decode cL_law 400 = .ok (.iadd, 1) := by decide +kernel
theorem dL_law_401 : decode cL_law 401 = .ok (.iaload, 1) := by decide +kernel
theorem dL_law_402 : decode cL_law 402 = .ok (.aload_n 0, 1) := by decide +kernel
theorem dL_law_403 : decode cL_law 403 = .ok (.iload_n 3, 1) := by decide +kernel
theorem dL_law_404 : decode cL_law 404 = .ok (.iconst 3, 1) := by decide +kernel
theorem dL_law_405 : decode cL_law 405 = .ok (.iadd, 1) := by decide +kernel
theorem dL_law_406 : decode cL_law 406 = .ok (.iaload, 1) := by decide +kernel
theorem dL_law_407 : decode cL_law 407 = .ok (.aload_n 0, 1) := by decide +kernel
theorem dL_law_408 : decode cL_law 408 = .ok (.iload_n 3, 1) := by decide +kernel
theorem dL_law_409 : decode cL_law 409 = .ok (.iconst 4, 1) := by decide +kernel
theorem dL_law_410 : decode cL_law 410 = .ok (.iadd, 1) := by decide +kernel
theorem dL_law_411 : decode cL_law 411 = .ok (.iaload, 1) := by decide +kernel
theorem dL_law_412 : decode cL_law 412 = .ok (.invokevirtual 44, 3) := by decide +kernel
theorem dL_law_415 : decode cL_law 415 = .ok (.aload_n 2, 1) := by decide +kernel
theorem dL_law_416 : decode cL_law 416 = .ok (.aload_n 0, 1) := by decide +kernel
theorem dL_law_417 : decode cL_law 417 = .ok (.iload_n 3, 1) := by decide +kernel
theorem dL_law_418 : decode cL_law 418 = .ok (.iconst 1, 1) := by decide +kernel
theorem dL_law_419 : decode cL_law 419 = .ok (.iadd, 1) := by decide +kernel
theorem dL_law_420 : decode cL_law 420 = .ok (.iaload, 1) := by decide +kernel
theorem dL_law_421 : decode cL_law 421 = .ok (.aload_n 0, 1) := by decide +kernel
theorem dL_law_422 : decode cL_law 422 = .ok (.iload_n 3, 1) := by decide +kernel
theorem dL_law_423 : decode cL_law 423 = .ok (.iconst 2, 1) := by decide +kernel
theorem dL_law_424 : decode cL_law 424 = .ok (.iadd, 1) := by decide +kernel
theorem dL_law_425 : decode cL_law 425 = .ok (.iaload, 1) := by decide +kernel
theorem dL_law_426 : decode cL_law 426 = .ok (.aload_n 0, 1) := by decide +kernel
theorem dL_law_427 : decode cL_law 427 = .ok (.iload_n 3, 1) := by decide +kernel
theorem dL_law_428 : decode cL_law 428 = .ok (.iconst 3, 1) := by decide +kernel
theorem dL_law_429 : decode cL_law 429 = .ok (.iadd, 1) := by decide +kernel
theorem dL_law_430 : decode cL_law 430 = .ok (.iaload, 1) := by decide +kernel
theorem dL_law_431 : decode cL_law 431 = .ok (.aload_n 0, 1) := by decide +kernel
theorem dL_law_432 : decode cL_law 432 = .ok (.iload_n 3, 1) := by decide +kernel
theorem dL_law_433 : decode cL_law 433 = .ok (.iconst 4, 1) := by decide +kernel
theorem dL_law_434 : decode cL_law 434 = .ok (.iadd, 1) := by decide +kernel
theorem dL_law_435 : decode cL_law 435 = .ok (.iaload, 1) := by decide +kernel
theorem dL_law_436 : decode cL_law 436 = .ok (.invokevirtual 48, 3) := by decide +kernel
theorem dL_law_439 : decode cL_law 439 = .ok (.if_icmp .eq 526, 3) := by decide +kernel
theorem dL_law_442 : decode cL_law 442 = .ok (.iconst 0, 1) := by decide +kernel
theorem dL_law_443 : decode cL_law 443 = .ok (.ireturn, 1) := by decide +kernel
theorem dL_law_444 : decode cL_law 444 = .ok (.aload_n 1, 1) := by decide +kernel
theorem dL_law_445 : decode cL_law 445 = .ok (.aload_n 0, 1) := by decide +kernel
theorem dL_law_446 : decode cL_law 446 = .ok (.iload_n 3, 1) := by decide +kernel
theorem dL_law_447 : decode cL_law 447 = .ok (.iconst 1, 1) := by decide +kernel
theorem dL_law_448 : decode cL_law 448 = .ok (.iadd, 1) := by decide +kernel
theorem dL_law_449 : decode cL_law 449 = .ok (.iaload, 1) := by decide +kernel
theorem dL_law_450 : decode cL_law 450 = .ok (.aload_n 0, 1) := by decide +kernel
theorem dL_law_451 : decode cL_law 451 = .ok (.iload_n 3, 1) := by decide +kernel
theorem dL_law_452 : decode cL_law 452 = .ok (.iconst 2, 1) := by decide +kernel
theorem dL_law_453 : decode cL_law 453 = .ok (.iadd, 1) := by decide +kernel
theorem dL_law_454 : decode cL_law 454 = .ok (.iaload, 1) := by decide +kernel
theorem dL_law_455 : decode cL_law 455 = .ok (.aload_n 0, 1) := by decide +kernel
theorem dL_law_456 : decode cL_law 456 = .ok (.iload_n 3, 1) := by decide +kernel
theorem dL_law_457 : decode cL_law 457 = .ok (.iconst 3, 1) := by decide +kernel
theorem dL_law_458 : decode cL_law 458 = .ok (.iadd, 1) := by decide +kernel
theorem dL_law_459 : decode cL_law 459 = .ok (.iaload, 1) := by decide +kernel
theorem dL_law_460 : decode cL_law 460 = .ok (.aload_n 0, 1) := by decide +kernel
theorem dL_law_461 : decode cL_law 461 = .ok (.iload_n 3, 1) := by decide +kernel
theorem dL_law_462 : decode cL_law 462 = .ok (.iconst 4, 1) := by decide +kernel
theorem dL_law_463 : decode cL_law 463 = .ok (.iadd, 1) := by decide +kernel
theorem dL_law_464 : decode cL_law 464 = .ok (.iaload, 1) := by decide +kernel
theorem dL_law_465 : decode cL_law 465 = .ok (.invokevirtual 49, 3) := by decide +kernel
theorem dL_law_468 : decode cL_law 468 = .ok (.aload_n 2, 1) := by decide +kernel
theorem dL_law_469 : decode cL_law 469 = .ok (.aload_n 0, 1) := by decide +kernel
theorem dL_law_470 : decode cL_law 470 = .ok (.iload_n 3, 1) := by decide +kernel
theorem dL_law_471 : decode cL_law 471 = .ok (.iconst 1, 1) := by decide +kernel
theorem dL_law_472 : decode cL_law 472 = .ok (.iadd, 1) := by decide +kernel
theorem dL_law_473 : decode cL_law 473 = .ok (.iaload, 1) := by decide +kernel
theorem dL_law_474 : decode cL_law 474 = .ok (.aload_n 0, 1) := by decide +kernel
theorem dL_law_475 : decode cL_law 475 = .ok (.iload_n 3, 1) := by decide +kernel
theorem dL_law_476 : decode cL_law 476 = .ok (.iconst 2, 1) := by decide +kernel
theorem dL_law_477 : decode cL_law 477 = .ok (.iadd, 1) := by decide +kernel
theorem dL_law_478 : decode cL_law 478 = .ok (.iaload, 1) := by decide +kernel
theorem dL_law_479 : decode cL_law 479 = .ok (.aload_n 0, 1) := by decide +kernel
theorem dL_law_480 : decode cL_law 480 = .ok (.iload_n 3, 1) := by decide +kernel
theorem dL_law_481 : decode cL_law 481 = .ok (.iconst 3, 1) := by decide +kernel
theorem dL_law_482 : decode cL_law 482 = .ok (.iadd, 1) := by decide +kernel
theorem dL_law_483 : decode cL_law 483 = .ok (.iaload, 1) := by decide +kernel
theorem dL_law_484 : decode cL_law 484 = .ok (.aload_n 0, 1) := by decide +kernel
theorem dL_law_485 : decode cL_law 485 = .ok (.iload_n 3, 1) := by decide +kernel
theorem dL_law_486 : decode cL_law 486 = .ok (.iconst 4, 1) := by decide +kernel
theorem dL_law_487 : decode cL_law 487 = .ok (.iadd, 1) := by decide +kernel
theorem dL_law_488 : decode cL_law 488 = .ok (.iaload, 1) := by decide +kernel
theorem dL_law_489 : decode cL_law 489 = .ok (.invokevirtual 52, 3) := by decide +kernel
theorem dL_law_492 : decode cL_law 492 = .ok (.if_icmp .eq 473, 3) := by decide +kernel
theorem dL_law_495 : decode cL_law 495 = .ok (.iconst 0, 1) := by decide +kernel
theorem dL_law_496 : decode cL_law 496 = .ok (.ireturn, 1) := by decide +kernel
theorem dL_law_497 : decode cL_law 497 = .ok (.aload_n 1, 1) := by decide +kernel
theorem dL_law_498 : decode cL_law 498 = .ok (.aload_n 0, 1) := by decide +kernel
theorem dL_law_499 : decode cL_law 499 = .ok (.iload_n 3, 1) := by decide +kernel
theorem dL_law_500 : decode cL_law 500 = .ok (.iconst 1, 1) := by decide +kernel
theorem dL_law_501 : decode cL_law 501 = .ok (.iadd, 1) := by decide +kernel
theorem dL_law_502 : decode cL_law 502 = .ok (.iaload, 1) := by decide +kernel
theorem dL_law_503 : decode cL_law 503 = .ok (.invokevirtual 53, 3) := by decide +kernel
theorem dL_law_506 : decode cL_law 506 = .ok (.aload_n 2, 1) := by decide +kernel
theorem dL_law_507 : decode cL_law 507 = .ok (.aload_n 0, 1) := by decide +kernel
theorem dL_law_508 : decode cL_law 508 = .ok (.iload_n 3, 1) := by decide +kernel
theorem dL_law_509 : decode cL_law 509 = .ok (.iconst 1, 1) := by decide +kernel
theorem dL_law_510 : decode cL_law 510 = .ok (.iadd, 1) := by decide +kernel
theorem dL_law_511 : decode cL_law 511 = .ok (.iaload, 1) := by decide +kernel
theorem dL_law_512 : decode cL_law 512 = .ok (.invokevirtual 56, 3) := by decide +kernel
theorem dL_law_515 : decode cL_law 515 = .ok (.if_icmp .eq 450, 3) := by decide +kernel
theorem dL_law_518 : decode cL_law 518 = .ok (.iconst 0, 1) := by decide +kernel
theorem dL_law_519 : decode cL_law 519 = .ok (.ireturn, 1) := by decide +kernel
theorem dL_law_520 : decode cL_law 520 = .ok (.aload_n 1, 1) := by decide +kernel
theorem dL_law_521 : decode cL_law 521 = .ok (.aload_n 0, 1) := by decide +kernel
theorem dL_law_522 : decode cL_law 522 = .ok (.iload_n 3, 1) := by decide +kernel
theorem dL_law_523 : decode cL_law 523 = .ok (.iconst 1, 1) := by decide +kernel
theorem dL_law_524 : decode cL_law 524 = .ok (.iadd, 1) := by decide +kernel
theorem dL_law_525 : decode cL_law 525 = .ok (.iaload, 1) := by decide +kernel
theorem dL_law_526 : decode cL_law 526 = .ok (.aload_n 0, 1) := by decide +kernel
theorem dL_law_527 : decode cL_law 527 = .ok (.iload_n 3, 1) := by decide +kernel
theorem dL_law_528 : decode cL_law 528 = .ok (.iconst 2, 1) := by decide +kernel
theorem dL_law_529 : decode cL_law 529 = .ok (.iadd, 1) := by decide +kernel
theorem dL_law_530 : decode cL_law 530 = .ok (.iaload, 1) := by decide +kernel
theorem dL_law_531 : decode cL_law 531 = .ok (.invokevirtual 57, 3) := by decide +kernel
theorem dL_law_534 : decode cL_law 534 = .ok (.aload_n 2, 1) := by decide +kernel
theorem dL_law_535 : decode cL_law 535 = .ok (.aload_n 0, 1) := by decide +kernel
theorem dL_law_536 : decode cL_law 536 = .ok (.iload_n 3, 1) := by decide +kernel
theorem dL_law_537 : decode cL_law 537 = .ok (.iconst 1, 1) := by decide +kernel
theorem dL_law_538 : decode cL_law 538 = .ok (.iadd, 1) := by decide +kernel
theorem dL_law_539 : decode cL_law 539 = .ok (.iaload, 1) := by decide +kernel
theorem dL_law_540 : decode cL_law 540 = .ok (.aload_n 0, 1) := by decide +kernel
theorem dL_law_541 : decode cL_law 541 = .ok (.iload_n 3, 1) := by decide +kernel
theorem dL_law_542 : decode cL_law 542 = .ok (.iconst 2, 1) := by decide +kernel
theorem dL_law_543 : decode cL_law 543 = .ok (.iadd, 1) := by decide +kernel
theorem dL_law_544 : decode cL_law 544 = .ok (.iaload, 1) := by decide +kernel
theorem dL_law_545 : decode cL_law 545 = .ok (.invokevirtual 60, 3) := by decide +kernel
theorem dL_law_548 : decode cL_law 548 = .ok (.if_icmp .eq 417, 3) := by decide +kernel
theorem dL_law_551 : decode cL_law 551 = .ok (.iconst 0, 1) := by decide +kernel
theorem dL_law_552 : decode cL_law 552 = .ok (.ireturn, 1) := by decide +kernel
theorem dL_law_553 : decode cL_law 553 = .ok (.aload_n 1, 1) := by decide +kernel
theorem dL_law_554 : decode cL_law 554 = .ok (.aload_n 0, 1) := by decide +kernel
theorem dL_law_555 : decode cL_law 555 = .ok (.iload_n 3, 1) := by decide +kernel
theorem dL_law_556 : decode cL_law 556 = .ok (.iconst 1, 1) := by decide +kernel
theorem dL_law_557 : decode cL_law 557 = .ok (.iadd, 1) := by decide +kernel
theorem dL_law_558 : decode cL_law 558 = .ok (.iaload, 1) := by decide +kernel
theorem dL_law_559 : decode cL_law 559 = .ok (.aload_n 0, 1) := by decide +kernel
theorem dL_law_560 : decode cL_law 560 = .ok (.iload_n 3, 1) := by decide +kernel
theorem dL_law_561 : decode cL_law 561 = .ok (.iconst 2, 1) := by decide +kernel
theorem dL_law_562 : decode cL_law 562 = .ok (.iadd, 1) := by decide +kernel
theorem dL_law_563 : decode cL_law 563 = .ok (.iaload, 1) := by decide +kernel
theorem dL_law_564 : decode cL_law 564 = .ok (.invokevirtual 61, 3) := by decide +kernel
theorem dL_law_567 : decode cL_law 567 = .ok (.aload_n 2, 1) := by decide +kernel
theorem dL_law_568 : decode cL_law 568 = .ok (.aload_n 0, 1) := by decide +kernel
theorem dL_law_569 : decode cL_law 569 = .ok (.iload_n 3, 1) := by decide +kernel
theorem dL_law_570 : decode cL_law 570 = .ok (.iconst 1, 1) := by decide +kernel
theorem dL_law_571 : decode cL_law 571 = .ok (.iadd, 1) := by decide +kernel
theorem dL_law_572 : decode cL_law 572 = .ok (.iaload, 1) := by decide +kernel
theorem dL_law_573 : decode cL_law 573 = .ok (.aload_n 0, 1) := by decide +kernel
theorem dL_law_574 : decode cL_law 574 = .ok (.iload_n 3, 1) := by decide +kernel
theorem dL_law_575 : decode cL_law 575 = .ok (.iconst 2, 1) := by decide +kernel
theorem dL_law_576 : decode cL_law 576 = .ok (.iadd, 1) := by decide +kernel
theorem dL_law_577 : decode cL_law 577 = .ok (.iaload, 1) := by decide +kernel
theorem dL_law_578 : decode cL_law 578 = .ok (.invokevirtual 64, 3) := by decide +kernel
theorem dL_law_581 : decode cL_law 581 = .ok (.if_icmp .eq 384, 3) := by decide +kernel
theorem dL_law_584 : decode cL_law 584 = .ok (.iconst 0, 1) := by decide +kernel
theorem dL_law_585 : decode cL_law 585 = .ok (.ireturn, 1) := by decide +kernel
theorem dL_law_586 : decode cL_law 586 = .ok (.aload_n 1, 1) := by decide +kernel
theorem dL_law_587 : decode cL_law 587 = .ok (.aload_n 0, 1) := by decide +kernel
theorem dL_law_588 : decode cL_law 588 = .ok (.iload_n 3, 1) := by decide +kernel
theorem dL_law_589 : decode cL_law 589 = .ok (.iconst 1, 1) := by decide +kernel
theorem dL_law_590 : decode cL_law 590 = .ok (.iadd, 1) := by decide +kernel
theorem dL_law_591 : decode cL_law 591 = .ok (.iaload, 1) := by decide +kernel
theorem dL_law_592 : decode cL_law 592 = .ok (.invokevirtual 65, 3) := by decide +kernel
theorem dL_law_595 : decode cL_law 595 = .ok (.aload_n 2, 1) := by decide +kernel
theorem dL_law_596 : decode cL_law 596 = .ok (.aload_n 0, 1) := by decide +kernel
theorem dL_law_597 : decode cL_law 597 = .ok (.iload_n 3, 1) := by decide +kernel
theorem dL_law_598 : decode cL_law 598 = .ok (.iconst 1, 1) := by decide +kernel
theorem dL_law_599 : decode cL_law 599 = .ok (.iadd, 1) := by decide +kernel
theorem dL_law_600 : decode cL_law 600 = .ok (.iaload, 1) := by decide +kernel
theorem dL_law_601 : decode cL_law 601 = .ok (.invokevirtual 68, 3) := by decide +kernel
theorem dL_law_604 : decode cL_law 604 = .ok (.if_icmp .eq 361, 3) := by decide +kernel
theorem dL_law_607 : decode cL_law 607 = .ok (.iconst 0, 1) := by decide +kernel
theorem dL_law_608 : decode cL_law 608 = .ok (.ireturn, 1) := by decide +kernel
theorem dL_law_609 : decode cL_law 609 = .ok (.aload_n 1, 1) := by decide +kernel
theorem dL_law_610 : decode cL_law 610 = .ok (.aload_n 0, 1) := by decide +kernel
theorem dL_law_611 : decode cL_law 611 = .ok (.iload_n 3, 1) := by decide +kernel
theorem dL_law_612 : decode cL_law 612 = .ok (.iconst 1, 1) := by decide +kernel
theorem dL_law_613 : decode cL_law 613 = .ok (.iadd, 1) := by decide +kernel
theorem dL_law_614 : decode cL_law 614 = .ok (.iaload, 1) := by decide +kernel
theorem dL_law_615 : decode cL_law 615 = .ok (.aload_n 0, 1) := by decide +kernel
theorem dL_law_616 : decode cL_law 616 = .ok (.iload_n 3, 1) := by decide +kernel
theorem dL_law_617 : decode cL_law 617 = .ok (.iconst 2, 1) := by decide +kernel
theorem dL_law_618 : decode cL_law 618 = .ok (.iadd, 1) := by decide +kernel
theorem dL_law_619 : decode cL_law 619 = .ok (.iaload, 1) := by decide +kernel
theorem dL_law_620 : decode cL_law 620 = .ok (.invokevirtual 69, 3) := by decide +kernel
theorem dL_law_623 : decode cL_law 623 = .ok (.aload_n 2, 1) := by decide +kernel
theorem dL_law_624 : decode cL_law 624 = .ok (.aload_n 0, 1) := by decide +kernel
theorem dL_law_625 : decode cL_law 625 = .ok (.iload_n 3, 1) := by decide +kernel
theorem dL_law_626 : decode cL_law 626 = .ok (.iconst 1, 1) := by decide +kernel
theorem dL_law_627 : decode cL_law 627 = .ok (.iadd, 1) := by decide +kernel
theorem dL_law_628 : decode cL_law 628 = .ok (.iaload, 1) := by decide +kernel
theorem dL_law_629 : decode cL_law 629 = .ok (.aload_n 0, 1) := by decide +kernel
theorem dL_law_630 : decode cL_law 630 = .ok (.iload_n 3, 1) := by decide +kernel
theorem dL_law_631 : decode cL_law 631 = .ok (.iconst 2, 1) := by decide +kernel
theorem dL_law_632 : decode cL_law 632 = .ok (.iadd, 1) := by decide +kernel
theorem dL_law_633 : decode cL_law 633 = .ok (.iaload, 1) := by decide +kernel
theorem dL_law_634 : decode cL_law 634 = .ok (.invokevirtual 72, 3) := by decide +kernel
theorem dL_law_637 : decode cL_law 637 = .ok (.if_icmp .eq 328, 3) := by decide +kernel
theorem dL_law_640 : decode cL_law 640 = .ok (.iconst 0, 1) := by decide +kernel
theorem dL_law_641 : decode cL_law 641 = .ok (.ireturn, 1) := by decide +kernel
theorem dL_law_642 : decode cL_law 642 = .ok (.aload_n 1, 1) := by decide +kernel
theorem dL_law_643 : decode cL_law 643 = .ok (.aload_n 0, 1) := by decide +kernel
theorem dL_law_644 : decode cL_law 644 = .ok (.iload_n 3, 1) := by decide +kernel
theorem dL_law_645 : decode cL_law 645 = .ok (.iconst 1, 1) := by decide +kernel
theorem dL_law_646 : decode cL_law 646 = .ok (.iadd, 1) := by decide +kernel
theorem dL_law_647 : decode cL_law 647 = .ok (.iaload, 1) := by decide +kernel
theorem dL_law_648 : decode cL_law 648 = .ok (.aload_n 0, 1) := by decide +kernel
theorem dL_law_649 : decode cL_law 649 = .ok (.iload_n 3, 1) := by decide +kernel
theorem dL_law_650 : decode cL_law 650 = .ok (.iconst 2, 1) := by decide +kernel
theorem dL_law_651 : decode cL_law 651 = .ok (.iadd, 1) := by decide +kernel
theorem dL_law_652 : decode cL_law 652 = .ok (.iaload, 1) := by decide +kernel
theorem dL_law_653 : decode cL_law 653 = .ok (.invokevirtual 73, 3) := by decide +kernel
theorem dL_law_656 : decode cL_law 656 = .ok (.aload_n 2, 1) := by decide +kernel
theorem dL_law_657 : decode cL_law 657 = .ok (.aload_n 0, 1) := by decide +kernel
theorem dL_law_658 : decode cL_law 658 = .ok (.iload_n 3, 1) := by decide +kernel
theorem dL_law_659 : decode cL_law 659 = .ok (.iconst 1, 1) := by decide +kernel
theorem dL_law_660 : decode cL_law 660 = .ok (.iadd, 1) := by decide +kernel
theorem dL_law_661 : decode cL_law 661 = .ok (.iaload, 1) := by decide +kernel
theorem dL_law_662 : decode cL_law 662 = .ok (.aload_n 0, 1) := by decide +kernel
theorem dL_law_663 : decode cL_law 663 = .ok (.iload_n 3, 1) := by decide +kernel
theorem dL_law_664 : decode cL_law 664 = .ok (.iconst 2, 1) := by decide +kernel
theorem dL_law_665 : decode cL_law 665 = .ok (.iadd, 1) := by decide +kernel
theorem dL_law_666 : decode cL_law 666 = .ok (.iaload, 1) := by decide +kernel
theorem dL_law_667 : decode cL_law 667 = .ok (.invokevirtual 76, 3) := by decide +kernel
theorem dL_law_670 : decode cL_law 670 = .ok (.if_icmp .eq 295, 3) := by decide +kernel
theorem dL_law_673 : decode cL_law 673 = .ok (.iconst 0, 1) := by decide +kernel
theorem dL_law_674 : decode cL_law 674 = .ok (.ireturn, 1) := by decide +kernel
theorem dL_law_675 : decode cL_law 675 = .ok (.aload_n 1, 1) := by decide +kernel
theorem dL_law_676 : decode cL_law 676 = .ok (.invokevirtual 77, 3) := by decide +kernel
theorem dL_law_679 : decode cL_law 679 = .ok (.aload_n 2, 1) := by decide +kernel
theorem dL_law_680 : decode cL_law 680 = .ok (.invokevirtual 81, 3) := by decide +kernel
theorem dL_law_683 : decode cL_law 683 = .ok (.if_icmp .eq 282, 3) := by decide +kernel
theorem dL_law_686 : decode cL_law 686 = .ok (.iconst 0, 1) := by decide +kernel
theorem dL_law_687 : decode cL_law 687 = .ok (.ireturn, 1) := by decide +kernel
theorem dL_law_688 : decode cL_law 688 = .ok (.aload_n 1, 1) := by decide +kernel
theorem dL_law_689 : decode cL_law 689 = .ok (.aload_n 0, 1) := by decide +kernel
theorem dL_law_690 : decode cL_law 690 = .ok (.iload_n 3, 1) := by decide +kernel
theorem dL_law_691 : decode cL_law 691 = .ok (.iconst 1, 1) := by decide +kernel
theorem dL_law_692 : decode cL_law 692 = .ok (.iadd, 1) := by decide +kernel
theorem dL_law_693 : decode cL_law 693 = .ok (.iaload, 1) := by decide +kernel
theorem dL_law_694 : decode cL_law 694 = .ok (.aload_n 0, 1) := by decide +kernel
theorem dL_law_695 : decode cL_law 695 = .ok (.iload_n 3, 1) := by decide +kernel
theorem dL_law_696 : decode cL_law 696 = .ok (.iconst 2, 1) := by decide +kernel
theorem dL_law_697 : decode cL_law 697 = .ok (.iadd, 1) := by decide +kernel
theorem dL_law_698 : decode cL_law 698 = .ok (.iaload, 1) := by decide +kernel
theorem dL_law_699 : decode cL_law 699 = .ok (.invokevirtual 82, 3) := by decide +kernel
theorem dL_law_702 : decode cL_law 702 = .ok (.aload_n 2, 1) := by decide +kernel
theorem dL_law_703 : decode cL_law 703 = .ok (.aload_n 0, 1) := by decide +kernel
theorem dL_law_704 : decode cL_law 704 = .ok (.iload_n 3, 1) := by decide +kernel
theorem dL_law_705 : decode cL_law 705 = .ok (.iconst 1, 1) := by decide +kernel
theorem dL_law_706 : decode cL_law 706 = .ok (.iadd, 1) := by decide +kernel
theorem dL_law_707 : decode cL_law 707 = .ok (.iaload, 1) := by decide +kernel
theorem dL_law_708 : decode cL_law 708 = .ok (.aload_n 0, 1) := by decide +kernel
theorem dL_law_709 : decode cL_law 709 = .ok (.iload_n 3, 1) := by decide +kernel
theorem dL_law_710 : decode cL_law 710 = .ok (.iconst 2, 1) := by decide +kernel
theorem dL_law_711 : decode cL_law 711 = .ok (.iadd, 1) := by decide +kernel
theorem dL_law_712 : decode cL_law 712 = .ok (.iaload, 1) := by decide +kernel
theorem dL_law_713 : decode cL_law 713 = .ok (.invokevirtual 85, 3) := by decide +kernel
theorem dL_law_716 : decode cL_law 716 = .ok (.if_icmp .eq 249, 3) := by decide +kernel
theorem dL_law_719 : decode cL_law 719 = .ok (.iconst 0, 1) := by decide +kernel
theorem dL_law_720 : decode cL_law 720 = .ok (.ireturn, 1) := by decide +kernel
theorem dL_law_721 : decode cL_law 721 = .ok (.aload_n 1, 1) := by decide +kernel
theorem dL_law_722 : decode cL_law 722 = .ok (.aload_n 0, 1) := by decide +kernel
theorem dL_law_723 : decode cL_law 723 = .ok (.iload_n 3, 1) := by decide +kernel
theorem dL_law_724 : decode cL_law 724 = .ok (.iconst 1, 1) := by decide +kernel
theorem dL_law_725 : decode cL_law 725 = .ok (.iadd, 1) := by decide +kernel
theorem dL_law_726 : decode cL_law 726 = .ok (.iaload, 1) := by decide +kernel
theorem dL_law_727 : decode cL_law 727 = .ok (.aload_n 0, 1) := by decide +kernel
theorem dL_law_728 : decode cL_law 728 = .ok (.iload_n 3, 1) := by decide +kernel
theorem dL_law_729 : decode cL_law 729 = .ok (.iconst 2, 1) := by decide +kernel
theorem dL_law_730 : decode cL_law 730 = .ok (.iadd, 1) := by decide +kernel
theorem dL_law_731 : decode cL_law 731 = .ok (.iaload, 1) := by decide +kernel
theorem dL_law_732 : decode cL_law 732 = .ok (.invokevirtual 86, 3) := by decide +kernel
theorem dL_law_735 : decode cL_law 735 = .ok (.aload_n 2, 1) := by decide +kernel
theorem dL_law_736 : decode cL_law 736 = .ok (.aload_n 0, 1) := by decide +kernel
theorem dL_law_737 : decode cL_law 737 = .ok (.iload_n 3, 1) := by decide +kernel
theorem dL_law_738 : decode cL_law 738 = .ok (.iconst 1, 1) := by decide +kernel
theorem dL_law_739 : decode cL_law 739 = .ok (.iadd, 1) := by decide +kernel
theorem dL_law_740 : decode cL_law 740 = .ok (.iaload, 1) := by decide +kernel
theorem dL_law_741 : decode cL_law 741 = .ok (.aload_n 0, 1) := by decide +kernel
theorem dL_law_742 : decode cL_law 742 = .ok (.iload_n 3, 1) := by decide +kernel
theorem dL_law_743 : decode cL_law 743 = .ok (.iconst 2, 1) := by decide +kernel
theorem dL_law_744 : decode cL_law 744 = .ok (.iadd, 1) := by decide +kernel
theorem dL_law_745 : decode cL_law 745 = .ok (.iaload, 1) := by decide +kernel
theorem dL_law_746 : decode cL_law 746 = .ok (.invokevirtual 89, 3) := by decide +kernel
theorem dL_law_749 : decode cL_law 749 = .ok (.if_icmp .eq 216, 3) := by decide +kernel
theorem dL_law_752 : decode cL_law 752 = .ok (.iconst 0, 1) := by decide +kernel
theorem dL_law_753 : decode cL_law 753 = .ok (.ireturn, 1) := by decide +kernel
theorem dL_law_754 : decode cL_law 754 = .ok (.aload_n 1, 1) := by decide +kernel
theorem dL_law_755 : decode cL_law 755 = .ok (.aload_n 0, 1) := by decide +kernel
theorem dL_law_756 : decode cL_law 756 = .ok (.iload_n 3, 1) := by decide +kernel
theorem dL_law_757 : decode cL_law 757 = .ok (.iconst 1, 1) := by decide +kernel
theorem dL_law_758 : decode cL_law 758 = .ok (.iadd, 1) := by decide +kernel
theorem dL_law_759 : decode cL_law 759 = .ok (.iaload, 1) := by decide +kernel
theorem dL_law_760 : decode cL_law 760 = .ok (.aload_n 0, 1) := by decide +kernel
theorem dL_law_761 : decode cL_law 761 = .ok (.iload_n 3, 1) := by decide +kernel
theorem dL_law_762 : decode cL_law 762 = .ok (.iconst 2, 1) := by decide +kernel
theorem dL_law_763 : decode cL_law 763 = .ok (.iadd, 1) := by decide +kernel
theorem dL_law_764 : decode cL_law 764 = .ok (.iaload, 1) := by decide +kernel
theorem dL_law_765 : decode cL_law 765 = .ok (.invokevirtual 90, 3) := by decide +kernel
theorem dL_law_768 : decode cL_law 768 = .ok (.aload_n 2, 1) := by decide +kernel
theorem dL_law_769 : decode cL_law 769 = .ok (.aload_n 0, 1) := by decide +kernel
theorem dL_law_770 : decode cL_law 770 = .ok (.iload_n 3, 1) := by decide +kernel
theorem dL_law_771 : decode cL_law 771 = .ok (.iconst 1, 1) := by decide +kernel
theorem dL_law_772 : decode cL_law 772 = .ok (.iadd, 1) := by decide +kernel
theorem dL_law_773 : decode cL_law 773 = .ok (.iaload, 1) := by decide +kernel
theorem dL_law_774 : decode cL_law 774 = .ok (.aload_n 0, 1) := by decide +kernel
theorem dL_law_775 : decode cL_law 775 = .ok (.iload_n 3, 1) := by decide +kernel
theorem dL_law_776 : decode cL_law 776 = .ok (.iconst 2, 1) := by decide +kernel
theorem dL_law_777 : decode cL_law 777 = .ok (.iadd, 1) := by decide +kernel
theorem dL_law_778 : decode cL_law 778 = .ok (.iaload, 1) := by decide +kernel
theorem dL_law_779 : decode cL_law 779 = .ok (.invokevirtual 93, 3) := by decide +kernel
theorem dL_law_782 : decode cL_law 782 = .ok (.if_icmp .eq 183, 3) := by decide +kernel
theorem dL_law_785 : decode cL_law 785 = .ok (.iconst 0, 1) := by decide +kernel
theorem dL_law_786 : decode cL_law 786 = .ok (.ireturn, 1) := by decide +kernel
theorem dL_law_787 : decode cL_law 787 = .ok (.aload_n 1, 1) := by decide +kernel
theorem dL_law_788 : decode cL_law 788 = .ok (.aload_n 0, 1) := by decide +kernel
theorem dL_law_789 : decode cL_law 789 = .ok (.iload_n 3, 1) := by decide +kernel
theorem dL_law_790 : decode cL_law 790 = .ok (.iconst 1, 1) := by decide +kernel
theorem dL_law_791 : decode cL_law 791 = .ok (.iadd, 1) := by decide +kernel
theorem dL_law_792 : decode cL_law 792 = .ok (.iaload, 1) := by decide +kernel
theorem dL_law_793 : decode cL_law 793 = .ok (.aload_n 0, 1) := by decide +kernel
theorem dL_law_794 : decode cL_law 794 = .ok (.iload_n 3, 1) := by decide +kernel
theorem dL_law_795 : decode cL_law 795 = .ok (.iconst 2, 1) := by decide +kernel
theorem dL_law_796 : decode cL_law 796 = .ok (.iadd, 1) := by decide +kernel
theorem dL_law_797 : decode cL_law 797 = .ok (.iaload, 1) := by decide +kernel
theorem dL_law_798 : decode cL_law 798 = .ok (.invokevirtual 94, 3) := by decide +kernel
theorem dL_law_801 : decode cL_law 801 = .ok (.aload_n 2, 1) := by decide +kernel
theorem dL_law_802 : decode cL_law 802 = .ok (.aload_n 0, 1) := by decide +kernel
theorem dL_law_803 : decode cL_law 803 = .ok (.iload_n 3, 1) := by decide +kernel
theorem dL_law_804 : decode cL_law 804 = .ok (.iconst 1, 1) := by decide +kernel
theorem dL_law_805 : decode cL_law 805 = .ok (.iadd, 1) := by decide +kernel
theorem dL_law_806 : decode cL_law 806 = .ok (.iaload, 1) := by decide +kernel
theorem dL_law_807 : decode cL_law 807 = .ok (.aload_n 0, 1) := by decide +kernel
theorem dL_law_808 : decode cL_law 808 = .ok (.iload_n 3, 1) := by decide +kernel
theorem dL_law_809 : decode cL_law 809 = .ok (.iconst 2, 1) := by decide +kernel
theorem dL_law_810 : decode cL_law 810 = .ok (.iadd, 1) := by decide +kernel
theorem dL_law_811 : decode cL_law 811 = .ok (.iaload, 1) := by decide +kernel
theorem dL_law_812 : decode cL_law 812 = .ok (.invokevirtual 97, 3) := by decide +kernel
theorem dL_law_815 : decode cL_law 815 = .ok (.if_icmp .eq 150, 3) := by decide +kernel
theorem dL_law_818 : decode cL_law 818 = .ok (.iconst 0, 1) := by decide +kernel
theorem dL_law_819 : decode cL_law 819 = .ok (.ireturn, 1) := by decide +kernel
theorem dL_law_820 : decode cL_law 820 = .ok (.aload_n 1, 1) := by decide +kernel
theorem dL_law_821 : decode cL_law 821 = .ok (.aload_n 0, 1) := by decide +kernel
theorem dL_law_822 : decode cL_law 822 = .ok (.iload_n 3, 1) := by decide +kernel
theorem dL_law_823 : decode cL_law 823 = .ok (.iconst 1, 1) := by decide +kernel
theorem dL_law_824 : decode cL_law 824 = .ok (.iadd, 1) := by decide +kernel
theorem dL_law_825 : decode cL_law 825 = .ok (.iaload, 1) := by decide +kernel
theorem dL_law_826 : decode cL_law 826 = .ok (.invokevirtual 98, 3) := by decide +kernel
theorem dL_law_829 : decode cL_law 829 = .ok (.aload_n 2, 1) := by decide +kernel
theorem dL_law_830 : decode cL_law 830 = .ok (.aload_n 0, 1) := by decide +kernel
theorem dL_law_831 : decode cL_law 831 = .ok (.iload_n 3, 1) := by decide +kernel
theorem dL_law_832 : decode cL_law 832 = .ok (.iconst 1, 1) := by decide +kernel
theorem dL_law_833 : decode cL_law 833 = .ok (.iadd, 1) := by decide +kernel
theorem dL_law_834 : decode cL_law 834 = .ok (.iaload, 1) := by decide +kernel
theorem dL_law_835 : decode cL_law 835 = .ok (.invokevirtual 101, 3) := by decide +kernel
theorem dL_law_838 : decode cL_law 838 = .ok (.if_icmp .eq 127, 3) := by decide +kernel
theorem dL_law_841 : decode cL_law 841 = .ok (.iconst 0, 1) := by decide +kernel
theorem dL_law_842 : decode cL_law 842 = .ok (.ireturn, 1) := by decide +kernel
theorem dL_law_843 : decode cL_law 843 = .ok (.aload_n 1, 1) := by decide +kernel
theorem dL_law_844 : decode cL_law 844 = .ok (.aload_n 0, 1) := by decide +kernel
theorem dL_law_845 : decode cL_law 845 = .ok (.iload_n 3, 1) := by decide +kernel
theorem dL_law_846 : decode cL_law 846 = .ok (.iconst 1, 1) := by decide +kernel
theorem dL_law_847 : decode cL_law 847 = .ok (.iadd, 1) := by decide +kernel
theorem dL_law_848 : decode cL_law 848 = .ok (.iaload, 1) := by decide +kernel
theorem dL_law_849 : decode cL_law 849 = .ok (.invokevirtual 102, 3) := by decide +kernel
theorem dL_law_852 : decode cL_law 852 = .ok (.aload_n 2, 1) := by decide +kernel
theorem dL_law_853 : decode cL_law 853 = .ok (.aload_n 0, 1) := by decide +kernel
theorem dL_law_854 : decode cL_law 854 = .ok (.iload_n 3, 1) := by decide +kernel
theorem dL_law_855 : decode cL_law 855 = .ok (.iconst 1, 1) := by decide +kernel
theorem dL_law_856 : decode cL_law 856 = .ok (.iadd, 1) := by decide +kernel
theorem dL_law_857 : decode cL_law 857 = .ok (.iaload, 1) := by decide +kernel
theorem dL_law_858 : decode cL_law 858 = .ok (.invokevirtual 105, 3) := by decide +kernel
theorem dL_law_861 : decode cL_law 861 = .ok (.if_icmp .eq 104, 3) := by decide +kernel
theorem dL_law_864 : decode cL_law 864 = .ok (.iconst 0, 1) := by decide +kernel
theorem dL_law_865 : decode cL_law 865 = .ok (.ireturn, 1) := by decide +kernel
theorem dL_law_866 : decode cL_law 866 = .ok (.aload_n 1, 1) := by decide +kernel
theorem dL_law_867 : decode cL_law 867 = .ok (.aload_n 0, 1) := by decide +kernel
theorem dL_law_868 : decode cL_law 868 = .ok (.iload_n 3, 1) := by decide +kernel
theorem dL_law_869 : decode cL_law 869 = .ok (.iconst 1, 1) := by decide +kernel
theorem dL_law_870 : decode cL_law 870 = .ok (.iadd, 1) := by decide +kernel
theorem dL_law_871 : decode cL_law 871 = .ok (.iaload, 1) := by decide +kernel
theorem dL_law_872 : decode cL_law 872 = .ok (.invokevirtual 106, 3) := by decide +kernel
theorem dL_law_875 : decode cL_law 875 = .ok (.aload_n 2, 1) := by decide +kernel
theorem dL_law_876 : decode cL_law 876 = .ok (.aload_n 0, 1) := by decide +kernel
theorem dL_law_877 : decode cL_law 877 = .ok (.iload_n 3, 1) := by decide +kernel
theorem dL_law_878 : decode cL_law 878 = .ok (.iconst 1, 1) := by decide +kernel
theorem dL_law_879 : decode cL_law 879 = .ok (.iadd, 1) := by decide +kernel
theorem dL_law_880 : decode cL_law 880 = .ok (.iaload, 1) := by decide +kernel
theorem dL_law_881 : decode cL_law 881 = .ok (.invokevirtual 109, 3) := by decide +kernel
theorem dL_law_884 : decode cL_law 884 = .ok (.if_icmp .eq 81, 3) := by decide +kernel
theorem dL_law_887 : decode cL_law 887 = .ok (.iconst 0, 1) := by decide +kernel
theorem dL_law_888 : decode cL_law 888 = .ok (.ireturn, 1) := by decide +kernel
theorem dL_law_889 : decode cL_law 889 = .ok (.aload_n 1, 1) := by decide +kernel
theorem dL_law_890 : decode cL_law 890 = .ok (.invokevirtual 110, 3) := by decide +kernel
theorem dL_law_893 : decode cL_law 893 = .ok (.aload_n 2, 1) := by decide +kernel
theorem dL_law_894 : decode cL_law 894 = .ok (.invokevirtual 113, 3) := by decide +kernel
theorem dL_law_897 : decode cL_law 897 = .ok (.if_icmp .eq 68, 3) := by decide +kernel
theorem dL_law_900 : decode cL_law 900 = .ok (.iconst 0, 1) := by decide +kernel
theorem dL_law_901 : decode cL_law 901 = .ok (.ireturn, 1) := by decide +kernel
theorem dL_law_902 : decode cL_law 902 = .ok (.aload_n 1, 1) := by decide +kernel
theorem dL_law_903 : decode cL_law 903 = .ok (.invokevirtual 114, 3) := by decide +kernel
theorem dL_law_906 : decode cL_law 906 = .ok (.aload_n 2, 1) := by decide +kernel
theorem dL_law_907 : decode cL_law 907 = .ok (.invokevirtual 117, 3) := by decide +kernel
theorem dL_law_910 : decode cL_law 910 = .ok (.if_icmp .eq 55, 3) := by decide +kernel
theorem dL_law_913 : decode cL_law 913 = .ok (.iconst 0, 1) := by decide +kernel
theorem dL_law_914 : decode cL_law 914 = .ok (.ireturn, 1) := by decide +kernel
theorem dL_law_915 : decode cL_law 915 = .ok (.aload_n 1, 1) := by decide +kernel
theorem dL_law_916 : decode cL_law 916 = .ok (.invokevirtual 118, 3) := by decide +kernel
theorem dL_law_919 : decode cL_law 919 = .ok (.aload_n 2, 1) := by decide +kernel
theorem dL_law_920 : decode cL_law 920 = .ok (.invokevirtual 121, 3) := by decide +kernel
theorem dL_law_923 : decode cL_law 923 = .ok (.if_icmp .eq 42, 3) := by decide +kernel
theorem dL_law_926 : decode cL_law 926 = .ok (.iconst 0, 1) := by decide +kernel
theorem dL_law_927 : decode cL_law 927 = .ok (.ireturn, 1) := by decide +kernel
theorem dL_law_928 : decode cL_law 928 = .ok (.aload_n 1, 1) := by decide +kernel
theorem dL_law_929 : decode cL_law 929 = .ok (.aload_n 0, 1) := by decide +kernel
theorem dL_law_930 : decode cL_law 930 = .ok (.iload_n 3, 1) := by decide +kernel
theorem dL_law_931 : decode cL_law 931 = .ok (.iconst 1, 1) := by decide +kernel
theorem dL_law_932 : decode cL_law 932 = .ok (.iadd, 1) := by decide +kernel
theorem dL_law_933 : decode cL_law 933 = .ok (.iaload, 1) := by decide +kernel
theorem dL_law_934 : decode cL_law 934 = .ok (.invokevirtual 122, 3) := by decide +kernel
theorem dL_law_937 : decode cL_law 937 = .ok (.aload_n 2, 1) := by decide +kernel
theorem dL_law_938 : decode cL_law 938 = .ok (.aload_n 0, 1) := by decide +kernel
theorem dL_law_939 : decode cL_law 939 = .ok (.iload_n 3, 1) := by decide +kernel
theorem dL_law_940 : decode cL_law 940 = .ok (.iconst 1, 1) := by decide +kernel
theorem dL_law_941 : decode cL_law 941 = .ok (.iadd, 1) := by decide +kernel
theorem dL_law_942 : decode cL_law 942 = .ok (.iaload, 1) := by decide +kernel
theorem dL_law_943 : decode cL_law 943 = .ok (.invokevirtual 125, 3) := by decide +kernel
theorem dL_law_946 : decode cL_law 946 = .ok (.if_icmp .eq 19, 3) := by decide +kernel
theorem dL_law_949 : decode cL_law 949 = .ok (.iconst 0, 1) := by decide +kernel
theorem dL_law_950 : decode cL_law 950 = .ok (.ireturn, 1) := by decide +kernel
theorem dL_law_951 : decode cL_law 951 = .ok (.aload_n 1, 1) := by decide +kernel
theorem dL_law_952 : decode cL_law 952 = .ok (.invokevirtual 126, 3) := by decide +kernel
theorem dL_law_955 : decode cL_law 955 = .ok (.aload_n 2, 1) := by decide +kernel
theorem dL_law_956 : decode cL_law 956 = .ok (.invokevirtual 130, 3) := by decide +kernel
theorem dL_law_959 : decode cL_law 959 = .ok (.lcmp, 1) := by decide +kernel
theorem dL_law_960 : decode cL_law 960 = .ok (.ifCond .eq 5, 3) := by decide +kernel
theorem dL_law_963 : decode cL_law 963 = .ok (.iconst 0, 1) := by decide +kernel
theorem dL_law_964 : decode cL_law 964 = .ok (.ireturn, 1) := by decide +kernel
theorem dL_law_965 : decode cL_law 965 = .ok (.iinc 3 6, 3) := by decide +kernel
theorem dL_law_968 : decode cL_law 968 = .ok (.goto (-950), 3) := by decide +kernel
theorem dL_law_971 : decode cL_law 971 = .ok (.iconst 1, 1) := by decide +kernel
theorem dL_law_972 : decode cL_law 972 = .ok (.ireturn, 1) := by decide +kernel

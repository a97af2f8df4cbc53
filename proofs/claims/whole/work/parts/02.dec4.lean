theorem dX10_loans_42 : decode cX10_loans 42 = .ok (.goto 6, 3) := by decide +kernel
theorem dX10_loans_45 : decode cX10_loans 45 = .ok (.sipush 1000, 3) := by decide +kernel
theorem dX10_loans_48 : decode cX10_loans 48 = .ok (.istore 4, 2) := by decide +kernel
theorem dX10_loans_50 : decode cX10_loans 50 = .ok (.iconst 0, 1) := by decide +kernel
theorem dX10_loans_51 : decode cX10_loans 51 = .ok (.istore 5, 2) := by decide +kernel
theorem dX10_loans_53 : decode cX10_loans 53 = .ok (.iload 5, 2) := by decide +kernel
theorem dX10_loans_55 : decode cX10_loans 55 = .ok (.bipush 16, 2) := by decide +kernel
theorem dX10_loans_57 : decode cX10_loans 57 = .ok (.if_icmp .ge 97, 3) := by decide +kernel
theorem dX10_loans_60 : decode cX10_loans 60 = .ok (.iload_n 1, 1) := by decide +kernel
theorem dX10_loans_61 : decode cX10_loans 61 = .ok (.aload_n 0, 1) := by decide +kernel
theorem dX10_loans_62 : decode cX10_loans 62 = .ok (.getfield 111, 3) := by decide +kernel
theorem dX10_loans_65 : decode cX10_loans 65 = .ok (.iconst 1, 1) := by decide +kernel
theorem dX10_loans_66 : decode cX10_loans 66 = .ok (.isub, 1) := by decide +kernel
theorem dX10_loans_67 : decode cX10_loans 67 = .ok (.if_icmp .ge 87, 3) := by decide +kernel
theorem dX10_loans_70 : decode cX10_loans 70 = .ok (.iload_n 3, 1) := by decide +kernel
theorem dX10_loans_71 : decode cX10_loans 71 = .ok (.ifCond .lt 83, 3) := by decide +kernel
theorem dX10_loans_74 : decode cX10_loans 74 = .ok (.aload_n 0, 1) := by decide +kernel
theorem dX10_loans_75 : decode cX10_loans 75 = .ok (.getfield 60, 3) := by decide +kernel
theorem dX10_loans_78 : decode cX10_loans 78 = .ok (.bipush 16, 2) := by decide +kernel
theorem dX10_loans_80 : decode cX10_loans 80 = .ok (.iload_n 1, 1) := by decide +kernel
theorem dX10_loans_81 : decode cX10_loans 81 = .ok (.imul, 1) := by decide +kernel
theorem dX10_loans_82 : decode cX10_loans 82 = .ok (.bipush 16, 2) := by decide +kernel
theorem dX10_loans_84 : decode cX10_loans 84 = .ok (.iadd, 1) := by decide +kernel
theorem dX10_loans_85 : decode cX10_loans 85 = .ok (.iload 5, 2) := by decide +kernel
theorem dX10_loans_87 : decode cX10_loans 87 = .ok (.iadd, 1) := by decide +kernel
theorem dX10_loans_88 : decode cX10_loans 88 = .ok (.iaload, 1) := by decide +kernel
theorem dX10_loans_89 : decode cX10_loans 89 = .ok (.istore 6, 2) := by decide +kernel
theorem dX10_loans_91 : decode cX10_loans 91 = .ok (.aload_n 0, 1) := by decide +kernel
theorem dX10_loans_92 : decode cX10_loans 92 = .ok (.getfield 63, 3) := by decide +kernel
theorem dX10_loans_95 : decode cX10_loans 95 = .ok (.bipush 16, 2) := by decide +kernel
theorem dX10_loans_97 : decode cX10_loans 97 = .ok (.iload_n 1, 1) := by decide +kernel
theorem dX10_loans_98 : decode cX10_loans 98 = .ok (.imul, 1) := by decide +kernel
theorem dX10_loans_99 : decode cX10_loans 99 = .ok (.bipush 16, 2) := by decide +kernel
theorem dX10_loans_101 : decode cX10_loans 101 = .ok (.iadd, 1) := by decide +kernel
theorem dX10_loans_102 : decode cX10_loans 102 = .ok (.iload 5, 2) := by decide +kernel
theorem dX10_loans_104 : decode cX10_loans 104 = .ok (.iadd, 1) := by decide +kernel
theorem dX10_loans_105 : decode cX10_loans 105 = .ok (.iaload, 1) := by decide +kernel
theorem dX10_loans_106 : decode cX10_loans 106 = .ok (.ifCond .lt 38, 3) := by decide +kernel
theorem dX10_loans_109 : decode cX10_loans 109 = .ok (.iload 6, 2) := by decide +kernel
theorem dX10_loans_111 : decode cX10_loans 111 = .ok (.iload 4, 2) := by decide +kernel
theorem dX10_loans_113 : decode cX10_loans 113 = .ok (.if_icmp .ge 31, 3) := by decide +kernel
theorem dX10_loans_116 : decode cX10_loans 116 = .ok (.aload_n 0, 1) := by decide +kernel
theorem dX10_loans_117 : decode cX10_loans 117 = .ok (.iload_n 3, 1) := by decide +kernel
theorem dX10_loans_118 : decode cX10_loans 118 = .ok (.aload_n 0, 1) := by decide +kernel
theorem dX10_loans_119 : decode cX10_loans 119 = .ok (.getfield 63, 3) := by decide +kernel
theorem dX10_loans_122 : decode cX10_loans 122 = .ok (.bipush 16, 2) := by decide +kernel
theorem dX10_loans_124 : decode cX10_loans 124 = .ok (.iload_n 1, 1) := by decide +kernel
theorem dX10_loans_125 : decode cX10_loans 125 = .ok (.imul, 1) := by decide +kernel
theorem dX10_loans_126 : decode cX10_loans 126 = .ok (.bipush 16, 2) := by decide +kernel
theorem dX10_loans_128 : decode cX10_loans 128 = .ok (.iadd, 1) := by decide +kernel
theorem dX10_loans_129 : decode cX10_loans 129 = .ok (.iload 5, 2) := by decide +kernel
theorem dX10_loans_131 : decode cX10_loans 131 = .ok (.iadd, 1) := by decide +kernel
theorem dX10_loans_132 : decode cX10_loans 132 = .ok (.iaload, 1) := by decide +kernel
theorem dX10_loans_133 : decode cX10_loans 133 = .ok (.invokevirtual 189, 3) := by decide +kernel
theorem dX10_loans_136 : decode cX10_loans 136 = .ok (.ifCond .eq 8, 3) := by decide +kernel
theorem dX10_loans_139 : decode cX10_loans 139 = .ok (.iload 6, 2) := by decide +kernel
theorem dX10_loans_141 : decode cX10_loans 141 = .ok (.goto 5, 3) := by decide +kernel
theorem dX10_loans_144 : decode cX10_loans 144 = .ok (.iload 4, 2) := by decide +kernel
theorem dX10_loans_146 : decode cX10_loans 146 = .ok (.istore 4, 2) := by decide +kernel
theorem dX10_loans_148 : decode cX10_loans 148 = .ok (.iinc 5 1, 3) := by decide +kernel
theorem dX10_loans_151 : decode cX10_loans 151 = .ok (.goto (-98), 3) := by decide +kernel
theorem dX10_loans_154 : decode cX10_loans 154 = .ok (.aload_n 0, 1) := by decide +kernel
theorem dX10_loans_155 : decode cX10_loans 155 = .ok (.getfield 63, 3) := by decide +kernel
theorem dX10_loans_158 : decode cX10_loans 158 = .ok (.bipush 16, 2) := by decide +kernel
theorem dX10_loans_160 : decode cX10_loans 160 = .ok (.iload_n 1, 1) := by decide +kernel
theorem dX10_loans_161 : decode cX10_loans 161 = .ok (.imul, 1) := by decide +kernel
theorem dX10_loans_162 : decode cX10_loans 162 = .ok (.iload_n 2, 1) := by decide +kernel
theorem dX10_loans_163 : decode cX10_loans 163 = .ok (.iadd, 1) := by decide +kernel
theorem dX10_loans_164 : decode cX10_loans 164 = .ok (.iload_n 3, 1) := by decide +kernel
theorem dX10_loans_165 : decode cX10_loans 165 = .ok (.iastore, 1) := by decide +kernel
theorem dX10_loans_166 : decode cX10_loans 166 = .ok (.aload_n 0, 1) := by decide +kernel
theorem dX10_loans_167 : decode cX10_loans 167 = .ok (.getfield 60, 3) := by decide +kernel
theorem dX10_loans_170 : decode cX10_loans 170 = .ok (.bipush 16, 2) := by decide +kernel
theorem dX10_loans_172 : decode cX10_loans 172 = .ok (.iload_n 1, 1) := by decide +kernel
theorem dX10_loans_173 : decode cX10_loans 173 = .ok (.imul, 1) := by decide +kernel
theorem dX10_loans_174 : decode cX10_loans 174 = .ok (.iload_n 2, 1) := by decide +kernel
theorem dX10_loans_175 : decode cX10_loans 175 = .ok (.iadd, 1) := by decide +kernel
theorem dX10_loans_176 : decode cX10_loans 176 = .ok (.iload_n 3, 1) := by decide +kernel
theorem dX10_loans_177 : decode cX10_loans 177 = .ok (.ifCond .ge 9, 3) := by decide +kernel
theorem dX10_loans_180 : decode cX10_loans 180 = .ok (.sipush 1000, 3) := by decide +kernel
theorem dX10_loans_183 : decode cX10_loans 183 = .ok (.goto 17, 3) := by decide +kernel
theorem dX10_loans_186 : decode cX10_loans 186 = .ok (.iload 4, 2) := by decide +kernel
theorem dX10_loans_188 : decode cX10_loans 188 = .ok (.aload_n 0, 1) := by decide +kernel
theorem dX10_loans_189 : decode cX10_loans 189 = .ok (.aload_n 0, 1) := by decide +kernel
theorem dX10_loans_190 : decode cX10_loans 190 = .ok (.getfield 38, 3) := by decide +kernel
theorem dX10_loans_193 : decode cX10_loans 193 = .ok (.iload_n 1, 1) := by decide +kernel
theorem dX10_loans_194 : decode cX10_loans 194 = .ok (.iaload, 1) := by decide +kernel
theorem dX10_loans_195 : decode cX10_loans 195 = .ok (.iload_n 3, 1) := by decide +kernel
theorem dX10_loans_196 : decode cX10_loans 196 = .ok (.invokevirtual 193, 3) := by decide +kernel
theorem dX10_loans_199 : decode cX10_loans 199 = .ok (.iadd, 1) := by decide +kernel
theorem dX10_loans_200 : decode cX10_loans 200 = .ok (.iastore, 1) := by decide +kernel
theorem dX10_loans_201 : decode cX10_loans 201 = .ok (.iinc 2 1, 3) := by decide +kernel
theorem dX10_loans_204 : decode cX10_loans 204 = .ok (.goto (-191), 3) := by decide +kernel
theorem dX10_loans_207 : decode cX10_loans 207 = .ok (.iinc 1 (-1), 3) := by decide +kernel
theorem dX10_loans_210 : decode cX10_loans 210 = .ok (.goto (-203), 3) := by decide +kernel
theorem dX10_loans_213 : decode cX10_loans 213 = .ok (.return_, 1) := by decide +kernel
theorem dX10_lent_0 : decode cX10_lent 0 = .ok (.iload_n 1, 1) := by decide +kernel
theorem dX10_lent_1 : decode cX10_lent 1 = .ok (.i2l, 1) := by decide +kernel
theorem dX10_lent_2 : decode cX10_lent 2 = .ok (.ldc2_w 168, 3) := by decide +kernel
theorem dX10_lent_5 : decode cX10_lent 5 = .ok (.aload_n 0, 1) := by decide +kernel
theorem dX10_lent_6 : decode cX10_lent 6 = .ok (.getfield 111, 3) := by decide +kernel
theorem dX10_lent_9 : decode cX10_lent 9 = .ok (.iconst 1, 1) := by decide +kernel
theorem dX10_lent_10 : decode cX10_lent 10 = .ok (.isub, 1) := by decide +kernel
theorem dX10_lent_11 : decode cX10_lent 11 = .ok (.i2l, 1) := by decide +kernel
theorem dX10_lent_12 : decode cX10_lent 12 = .ok (.invokestatic 74, 3) := by decide +kernel
theorem dX10_lent_15 : decode cX10_lent 15 = .ok (.ifCond .ne 5, 3) := by decide +kernel
theorem dX10_lent_18 : decode cX10_lent 18 = .ok (.iconst (-1), 1) := by decide +kernel
theorem dX10_lent_19 : decode cX10_lent 19 = .ok (.ireturn, 1) := by decide +kernel
theorem dX10_lent_20 : decode cX10_lent 20 = .ok (.aload_n 0, 1) := by decide +kernel
theorem dX10_lent_21 : decode cX10_lent 21 = .ok (.getfield 111, 3) := by decide +kernel
theorem dX10_lent_24 : decode cX10_lent 24 = .ok (.ifCond .ne 5, 3) := by decide +kernel
theorem dX10_lent_27 : decode cX10_lent 27 = .ok (.iconst 0, 1) := by decide +kernel
theorem dX10_lent_28 : decode cX10_lent 28 = .ok (.ireturn, 1) := by decide +kernel
theorem dX10_lent_29 : decode cX10_lent 29 = .ok (.aload_n 0, 1) := by decide +kernel
theorem dX10_lent_30 : decode cX10_lent 30 = .ok (.invokevirtual 196, 3) := by decide +kernel
theorem dX10_lent_33 : decode cX10_lent 33 = .ok (.sipush 1000, 3) := by decide +kernel
theorem dX10_lent_36 : decode cX10_lent 36 = .ok (.istore_n 2, 1) := by decide +kernel
theorem dX10_lent_37 : decode cX10_lent 37 = .ok (.iconst 0, 1) := by decide +kernel
theorem dX10_lent_38 : decode cX10_lent 38 = .ok (.istore_n 3, 1) := by decide +kernel
theorem dX10_lent_39 : decode cX10_lent 39 = .ok (.iload_n 3, 1) := by decide +kernel
theorem dX10_lent_40 : decode cX10_lent 40 = .ok (.bipush 16, 2) := by decide +kernel
theorem dX10_lent_42 : decode cX10_lent 42 = .ok (.if_icmp .ge 30, 3) := by decide +kernel
theorem dX10_lent_45 : decode cX10_lent 45 = .ok (.aload_n 0, 1) := by decide +kernel
theorem dX10_lent_46 : decode cX10_lent 46 = .ok (.getfield 60, 3) := by decide +kernel
theorem dX10_lent_49 : decode cX10_lent 49 = .ok (.iload_n 3, 1) := by decide +kernel
theorem dX10_lent_50 : decode cX10_lent 50 = .ok (.iaload, 1) := by decide +kernel
theorem dX10_lent_51 : decode cX10_lent 51 = .ok (.iload_n 2, 1) := by decide +kernel
theorem dX10_lent_52 : decode cX10_lent 52 = .ok (.if_icmp .ge 12, 3) := by decide +kernel
theorem dX10_lent_55 : decode cX10_lent 55 = .ok (.aload_n 0, 1) := by decide +kernel
theorem dX10_lent_56 : decode cX10_lent 56 = .ok (.getfield 60, 3) := by decide +kernel
theorem dX10_lent_59 : decode cX10_lent 59 = .ok (.iload_n 3, 1) := by decide +kernel
theorem dX10_lent_60 : decode cX10_lent 60 = .ok (.iaload, 1) := by decide +kernel
theorem dX10_lent_61 : decode cX10_lent 61 = .ok (.goto 4, 3) := by decide +kernel
theorem dX10_lent_64 : decode cX10_lent 64 = .ok (.iload_n 2, 1) := by decide +kernel
theorem dX10_lent_65 : decode cX10_lent 65 = .ok (.istore_n 2, 1) := by decide +kernel
theorem dX10_lent_66 : decode cX10_lent 66 = .ok (.iinc 3 1, 3) := by decide +kernel
theorem dX10_lent_69 : decode cX10_lent 69 = .ok (.goto (-30), 3) := by decide +kernel
theorem dX10_lent_72 : decode cX10_lent 72 = .ok (.iload_n 2, 1) := by decide +kernel
theorem dX10_lent_73 : decode cX10_lent 73 = .ok (.sipush 1000, 3) := by decide +kernel
theorem dX10_lent_76 : decode cX10_lent 76 = .ok (.if_icmp .ge 7, 3) := by decide +kernel
theorem dX10_lent_79 : decode cX10_lent 79 = .ok (.iload_n 1, 1) := by decide +kernel
theorem dX10_lent_80 : decode cX10_lent 80 = .ok (.ifCond .ge 17, 3) := by decide +kernel
theorem dX10_lent_83 : decode cX10_lent 83 = .ok (.iload_n 2, 1) := by decide +kernel
theorem dX10_lent_84 : decode cX10_lent 84 = .ok (.sipush 1000, 3) := by decide +kernel
theorem dX10_lent_87 : decode cX10_lent 87 = .ok (.if_icmp .lt 8, 3) := by decide +kernel
theorem dX10_lent_90 : decode cX10_lent 90 = .ok (.bipush (-4), 2) := by decide +kernel
theorem dX10_lent_92 : decode cX10_lent 92 = .ok (.goto 4, 3) := by decide +kernel
theorem dX10_lent_95 : decode cX10_lent 95 = .ok (.iload_n 2, 1) := by decide +kernel
theorem dX10_lent_96 : decode cX10_lent 96 = .ok (.ireturn, 1) := by decide +kernel
theorem dX10_lent_97 : decode cX10_lent 97 = .ok (.iconst (-1), 1) := by decide +kernel
theorem dX10_lent_98 : decode cX10_lent 98 = .ok (.istore_n 3, 1) := by decide +kernel
theorem dX10_lent_99 : decode cX10_lent 99 = .ok (.iconst 0, 1) := by decide +kernel
theorem dX10_lent_100 : decode cX10_lent 100 = .ok (.istore 4, 2) := by decide +kernel
theorem dX10_lent_102 : decode cX10_lent 102 = .ok (.iload 4, 2) := by decide +kernel
theorem dX10_lent_104 : decode cX10_lent 104 = .ok (.iload_n 1, 1) := by decide +kernel
theorem dX10_lent_105 : decode cX10_lent 105 = .ok (.if_icmp .gt 132, 3) := by decide +kernel
theorem dX10_lent_108 : decode cX10_lent 108 = .ok (.iconst (-1), 1) := by decide +kernel
theorem dX10_lent_109 : decode cX10_lent 109 = .ok (.istore 5, 2) := by decide +kernel
theorem dX10_lent_111 : decode cX10_lent 111 = .ok (.iconst 0, 1) := by decide +kernel
theorem dX10_lent_112 : decode cX10_lent 112 = .ok (.istore 6, 2) := by decide +kernel
theorem dX10_lent_114 : decode cX10_lent 114 = .ok (.iload 6, 2) := by decide +kernel
theorem dX10_lent_116 : decode cX10_lent 116 = .ok (.bipush 16, 2) := by decide +kernel
theorem dX10_lent_118 : decode cX10_lent 118 = .ok (.if_icmp .ge 94, 3) := by decide +kernel
theorem dX10_lent_121 : decode cX10_lent 121 = .ok (.aload_n 0, 1) := by decide +kernel
theorem dX10_lent_122 : decode cX10_lent 122 = .ok (.getfield 63, 3) := by decide +kernel
theorem dX10_lent_125 : decode cX10_lent 125 = .ok (.bipush 16, 2) := by decide +kernel
theorem dX10_lent_127 : decode cX10_lent 127 = .ok (.iload 4, 2) := by decide +kernel
theorem dX10_lent_129 : decode cX10_lent 129 = .ok (.imul, 1) := by decide +kernel
theorem dX10_lent_130 : decode cX10_lent 130 = .ok (.iload 6, 2) := by decide +kernel
theorem dX10_lent_132 : decode cX10_lent 132 = .ok (.iadd, 1) := by decide +kernel
theorem dX10_lent_133 : decode cX10_lent 133 = .ok (.iaload, 1) := by decide +kernel
theorem dX10_lent_134 : decode cX10_lent 134 = .ok (.istore 7, 2) := by decide +kernel
theorem dX10_lent_136 : decode cX10_lent 136 = .ok (.iload 7, 2) := by decide +kernel
theorem dX10_lent_138 : decode cX10_lent 138 = .ok (.ifCond .lt 39, 3) := by decide +kernel
theorem dX10_lent_141 : decode cX10_lent 141 = .ok (.aload_n 0, 1) := by decide +kernel
theorem dX10_lent_142 : decode cX10_lent 142 = .ok (.getfield 60, 3) := by decide +kernel
theorem dX10_lent_145 : decode cX10_lent 145 = .ok (.bipush 16, 2) := by decide +kernel
theorem dX10_lent_147 : decode cX10_lent 147 = .ok (.iload 4, 2) := by decide +kernel
theorem dX10_lent_149 : decode cX10_lent 149 = .ok (.imul, 1) := by decide +kernel
theorem dX10_lent_150 : decode cX10_lent 150 = .ok (.iload 6, 2) := by decide +kernel
theorem dX10_lent_152 : decode cX10_lent 152 = .ok (.iadd, 1) := by decide +kernel
theorem dX10_lent_153 : decode cX10_lent 153 = .ok (.iaload, 1) := by decide +kernel
theorem dX10_lent_154 : decode cX10_lent 154 = .ok (.iload_n 2, 1) := by decide +kernel
theorem dX10_lent_155 : decode cX10_lent 155 = .ok (.if_icmp .ne 22, 3) := by decide +kernel
theorem dX10_lent_158 : decode cX10_lent 158 = .ok (.iload 4, 2) := by decide +kernel
theorem dX10_lent_160 : decode cX10_lent 160 = .ok (.ifCond .eq 13, 3) := by decide +kernel
theorem dX10_lent_163 : decode cX10_lent 163 = .ok (.aload_n 0, 1) := by decide +kernel
theorem dX10_lent_164 : decode cX10_lent 164 = .ok (.iload_n 3, 1) := by decide +kernel
theorem dX10_lent_165 : decode cX10_lent 165 = .ok (.iload 7, 2) := by decide +kernel
theorem dX10_lent_167 : decode cX10_lent 167 = .ok (.invokevirtual 189, 3) := by decide +kernel
theorem dX10_lent_170 : decode cX10_lent 170 = .ok (.ifCond .eq 7, 3) := by decide +kernel
theorem dX10_lent_173 : decode cX10_lent 173 = .ok (.iconst 1, 1) := by decide +kernel
theorem dX10_lent_174 : decode cX10_lent 174 = .ok (.goto 4, 3) := by decide +kernel
theorem dX10_lent_177 : decode cX10_lent 177 = .ok (.iconst 0, 1) := by decide +kernel
theorem dX10_lent_178 : decode cX10_lent 178 = .ok (.istore 8, 2) := by decide +kernel
theorem dX10_lent_180 : decode cX10_lent 180 = .ok (.iload 8, 2) := by decide +kernel
theorem dX10_lent_182 : decode cX10_lent 182 = .ok (.ifCond .eq 20, 3) := by decide +kernel
theorem dX10_lent_185 : decode cX10_lent 185 = .ok (.iload 5, 2) := by decide +kernel
theorem dX10_lent_187 : decode cX10_lent 187 = .ok (.ifCond .lt 10, 3) := by decide +kernel
theorem dX10_lent_190 : decode cX10_lent 190 = .ok (.iload 7, 2) := by decide +kernel
theorem dX10_lent_192 : decode cX10_lent 192 = .ok (.iload 5, 2) := by decide +kernel
theorem dX10_lent_194 : decode cX10_lent 194 = .ok (.if_icmp .ge 8, 3) := by decide +kernel
theorem dX10_lent_197 : decode cX10_lent 197 = .ok (.iload 7, 2) := by decide +kernel
theorem dX10_lent_199 : decode cX10_lent 199 = .ok (.goto 5, 3) := by decide +kernel
theorem dX10_lent_202 : decode cX10_lent 202 = .ok (.iload 5, 2) := by decide +kernel
theorem dX10_lent_204 : decode cX10_lent 204 = .ok (.istore 5, 2) := by decide +kernel
theorem dX10_lent_206 : decode cX10_lent 206 = .ok (.iinc 6 1, 3) := by decide +kernel
theorem dX10_lent_209 : decode cX10_lent 209 = .ok (.goto (-95), 3) := by decide +kernel
theorem dX10_lent_212 : decode cX10_lent 212 = .ok (.iload 5, 2) := by decide +kernel
theorem dX10_lent_214 : decode cX10_lent 214 = .ok (.istore_n 3, 1) := by decide +kernel
theorem dX10_lent_215 : decode cX10_lent 215 = .ok (.iload_n 2, 1) := by decide +kernel
theorem dX10_lent_216 : decode cX10_lent 216 = .ok (.aload_n 0, 1) := by decide +kernel
theorem dX10_lent_217 : decode cX10_lent 217 = .ok (.aload_n 0, 1) := by decide +kernel
theorem dX10_lent_218 : decode cX10_lent 218 = .ok (.getfield 38, 3) := by decide +kernel
theorem dX10_lent_221 : decode cX10_lent 221 = .ok (.iload 4, 2) := by decide +kernel
theorem dX10_lent_223 : decode cX10_lent 223 = .ok (.iaload, 1) := by decide +kernel
theorem dX10_lent_224 : decode cX10_lent 224 = .ok (.iload 5, 2) := by decide +kernel
theorem dX10_lent_226 : decode cX10_lent 226 = .ok (.invokevirtual 193, 3) := by decide +kernel
theorem dX10_lent_229 : decode cX10_lent 229 = .ok (.isub, 1) := by decide +kernel
theorem dX10_lent_230 : decode cX10_lent 230 = .ok (.istore_n 2, 1) := by decide +kernel
theorem dX10_lent_231 : decode cX10_lent 231 = .ok (.iinc 4 1, 3) := by decide +kernel
theorem dX10_lent_234 : decode cX10_lent 234 = .ok (.goto (-132), 3) := by decide +kernel
theorem dX10_lent_237 : decode cX10_lent 237 = .ok (.iload_n 3, 1) := by decide +kernel
theorem dX10_lent_238 : decode cX10_lent 238 = .ok (.ireturn, 1) := by decide +kernel
theorem dX10_mustSee_0 : decode cX10_mustSee 0 = .ok (.aload_n 0, 1) := by decide +kernel
theorem dX10_mustSee_1 : decode cX10_mustSee 1 = .ok (.getfield 13, 3) := by decide +kernel
theorem dX10_mustSee_4 : decode cX10_mustSee 4 = .ok (.iconst 0, 1) := by decide +kernel
theorem dX10_mustSee_5 : decode cX10_mustSee 5 = .ok (.iaload, 1) := by decide +kernel
theorem dX10_mustSee_6 : decode cX10_mustSee 6 = .ok (.iconst 2, 1) := by decide +kernel
theorem dX10_mustSee_7 : decode cX10_mustSee 7 = .ok (.if_icmp .ne 7, 3) := by decide +kernel
theorem dX10_mustSee_10 : decode cX10_mustSee 10 = .ok (.iconst 0, 1) := by decide +kernel
theorem dX10_mustSee_11 : decode cX10_mustSee 11 = .ok (.goto 9, 3) := by decide +kernel
theorem dX10_mustSee_14 : decode cX10_mustSee 14 = .ok (.aload_n 0, 1) := by decide +kernel
theorem dX10_mustSee_15 : decode cX10_mustSee 15 = .ok (.getfield 13, 3) := by decide +kernel
theorem dX10_mustSee_18 : decode cX10_mustSee 18 = .ok (.iconst 0, 1) := by decide +kernel
theorem dX10_mustSee_19 : decode cX10_mustSee 19 = .ok (.iaload, 1) := by decide +kernel
theorem dX10_mustSee_20 : decode cX10_mustSee 20 = .ok (.istore_n 1, 1) := by decide +kernel
theorem dX10_mustSee_21 : decode cX10_mustSee 21 = .ok (.iconst 1, 1) := by decide +kernel
theorem dX10_mustSee_22 : decode cX10_mustSee 22 = .ok (.aload_n 0, 1) := by decide +kernel
theorem dX10_mustSee_23 : decode cX10_mustSee 23 = .ok (.getfield 17, 3) := by decide +kernel
theorem dX10_mustSee_26 : decode cX10_mustSee 26 = .ok (.iconst 0, 1) := by decide +kernel
theorem dX10_mustSee_27 : decode cX10_mustSee 27 = .ok (.iaload, 1) := by decide +kernel
theorem dX10_mustSee_28 : decode cX10_mustSee 28 = .ok (.ishl, 1) := by decide +kernel
theorem dX10_mustSee_29 : decode cX10_mustSee 29 = .ok (.iconst 1, 1) := by decide +kernel
theorem dX10_mustSee_30 : decode cX10_mustSee 30 = .ok (.isub, 1) := by decide +kernel
theorem dX10_mustSee_31 : decode cX10_mustSee 31 = .ok (.istore_n 2, 1) := by decide +kernel
theorem dX10_mustSee_32 : decode cX10_mustSee 32 = .ok (.iconst 0, 1) := by decide +kernel
theorem dX10_mustSee_33 : decode cX10_mustSee 33 = .ok (.istore_n 3, 1) := by decide +kernel
theorem dX10_mustSee_34 : decode cX10_mustSee 34 = .ok (.iload_n 3, 1) := by decide +kernel
theorem dX10_mustSee_35 : decode cX10_mustSee 35 = .ok (.iconst 1, 1) := by decide +kernel
theorem dX10_mustSee_36 : decode cX10_mustSee 36 = .ok (.aload_n 0, 1) := by decide +kernel
theorem dX10_mustSee_37 : decode cX10_mustSee 37 = .ok (.getfield 17, 3) := by decide +kernel
theorem dX10_mustSee_40 : decode cX10_mustSee 40 = .ok (.iconst 0, 1) := by decide +kernel
theorem dX10_mustSee_41 : decode cX10_mustSee 41 = .ok (.iaload, 1) := by decide +kernel
theorem dX10_mustSee_42 : decode cX10_mustSee 42 = .ok (.ishl, 1) := by decide +kernel
theorem dX10_mustSee_43 : decode cX10_mustSee 43 = .ok (.if_icmp .ge 117, 3) := by decide +kernel
theorem dX10_mustSee_46 : decode cX10_mustSee 46 = .ok (.iload_n 3, 1) := by decide +kernel
theorem dX10_mustSee_47 : decode cX10_mustSee 47 = .ok (.invokestatic 143, 3) := by decide +kernel
theorem dX10_mustSee_50 : decode cX10_mustSee 50 = .ok (.iload_n 2, 1) := by decide +kernel
theorem dX10_mustSee_51 : decode cX10_mustSee 51 = .ok (.invokestatic 143, 3) := by decide +kernel
theorem dX10_mustSee_54 : decode cX10_mustSee 54 = .ok (.if_icmp .ge 7, 3) := by decide +kernel
theorem dX10_mustSee_57 : decode cX10_mustSee 57 = .ok (.iconst 1, 1) := by decide +kernel
theorem dX10_mustSee_58 : decode cX10_mustSee 58 = .ok (.goto 4, 3) := by decide +kernel
theorem dX10_mustSee_61 : decode cX10_mustSee 61 = .ok (.iconst 0, 1) := by decide +kernel
theorem dX10_mustSee_62 : decode cX10_mustSee 62 = .ok (.istore 4, 2) := by decide +kernel
theorem dX10_mustSee_64 : decode cX10_mustSee 64 = .ok (.iconst 0, 1) := by decide +kernel
theorem dX10_mustSee_65 : decode cX10_mustSee 65 = .ok (.istore 5, 2) := by decide +kernel
theorem dX10_mustSee_67 : decode cX10_mustSee 67 = .ok (.iload 5, 2) := by decide +kernel
theorem dX10_mustSee_69 : decode cX10_mustSee 69 = .ok (.aload_n 0, 1) := by decide +kernel
theorem dX10_mustSee_70 : decode cX10_mustSee 70 = .ok (.getfield 26, 3) := by decide +kernel
theorem dX10_mustSee_73 : decode cX10_mustSee 73 = .ok (.iconst 0, 1) := by decide +kernel
theorem dX10_mustSee_74 : decode cX10_mustSee 74 = .ok (.iaload, 1) := by decide +kernel
theorem dX10_mustSee_75 : decode cX10_mustSee 75 = .ok (.if_icmp .ge 68, 3) := by decide +kernel
theorem dX10_mustSee_78 : decode cX10_mustSee 78 = .ok (.iconst 0, 1) := by decide +kernel
theorem dX10_mustSee_79 : decode cX10_mustSee 79 = .ok (.istore 6, 2) := by decide +kernel
theorem dX10_mustSee_81 : decode cX10_mustSee 81 = .ok (.iload 6, 2) := by decide +kernel
theorem dX10_mustSee_83 : decode cX10_mustSee 83 = .ok (.iload 5, 2) := by decide +kernel
theorem dX10_mustSee_85 : decode cX10_mustSee 85 = .ok (.if_icmp .ge 52, 3) := by decide +kernel
theorem dX10_mustSee_88 : decode cX10_mustSee 88 = .ok (.iload 4, 2) := by decide +kernel
theorem dX10_mustSee_90 : decode cX10_mustSee 90 = .ok (.ifCond .eq 47, 3) := by decide +kernel
theorem dX10_mustSee_93 : decode cX10_mustSee 93 = .ok (.iload_n 1, 1) := by decide +kernel
theorem dX10_mustSee_94 : decode cX10_mustSee 94 = .ok (.aload_n 0, 1) := by decide +kernel
theorem dX10_mustSee_95 : decode cX10_mustSee 95 = .ok (.iload 5, 2) := by decide +kernel
theorem dX10_mustSee_97 : decode cX10_mustSee 97 = .ok (.iload 6, 2) := by decide +kernel
theorem dX10_mustSee_99 : decode cX10_mustSee 99 = .ok (.invokevirtual 136, 3) := by decide +kernel
theorem dX10_mustSee_102 : decode cX10_mustSee 102 = .ok (.iload_n 3, 1) := by decide +kernel
theorem dX10_mustSee_103 : decode cX10_mustSee 103 = .ok (.iand, 1) := by decide +kernel
theorem dX10_mustSee_104 : decode cX10_mustSee 104 = .ok (.iconst 0, 1) := by decide +kernel
theorem dX10_mustSee_105 : decode cX10_mustSee 105 = .ok (.invokestatic 146, 3) := by decide +kernel
theorem dX10_mustSee_108 : decode cX10_mustSee 108 = .ok (.iload_n 1, 1) := by decide +kernel
theorem dX10_mustSee_109 : decode cX10_mustSee 109 = .ok (.aload_n 0, 1) := by decide +kernel
theorem dX10_mustSee_110 : decode cX10_mustSee 110 = .ok (.iload 5, 2) := by decide +kernel
theorem dX10_mustSee_112 : decode cX10_mustSee 112 = .ok (.iload 6, 2) := by decide +kernel
theorem dX10_mustSee_114 : decode cX10_mustSee 114 = .ok (.invokevirtual 136, 3) := by decide +kernel
theorem dX10_mustSee_117 : decode cX10_mustSee 117 = .ok (.iconst 0, 1) := by decide +kernel
theorem dX10_mustSee_118 : decode cX10_mustSee 118 = .ok (.invokestatic 146, 3) := by decide +kernel
theorem dX10_mustSee_121 : decode cX10_mustSee 121 = .ok (.if_icmp .ne 7, 3) := by decide +kernel
theorem dX10_mustSee_124 : decode cX10_mustSee 124 = .ok (.iconst 1, 1) := by decide +kernel
theorem dX10_mustSee_125 : decode cX10_mustSee 125 = .ok (.goto 4, 3) := by decide +kernel
theorem dX10_mustSee_128 : decode cX10_mustSee 128 = .ok (.iconst 0, 1) := by decide +kernel
theorem dX10_mustSee_129 : decode cX10_mustSee 129 = .ok (.istore 4, 2) := by decide +kernel
theorem dX10_mustSee_131 : decode cX10_mustSee 131 = .ok (.iinc 6 1, 3) := by decide +kernel
theorem dX10_mustSee_134 : decode cX10_mustSee 134 = .ok (.goto (-53), 3) := by decide +kernel
theorem dX10_mustSee_137 : decode cX10_mustSee 137 = .ok (.iinc 5 1, 3) := by decide +kernel
theorem dX10_mustSee_140 : decode cX10_mustSee 140 = .ok (.goto (-73), 3) := by decide +kernel
theorem dX10_mustSee_143 : decode cX10_mustSee 143 = .ok (.iload 4, 2) := by decide +kernel
theorem dX10_mustSee_145 : decode cX10_mustSee 145 = .ok (.ifCond .eq 7, 3) := by decide +kernel
theorem dX10_mustSee_148 : decode cX10_mustSee 148 = .ok (.iload_n 3, 1) := by decide +kernel
theorem dX10_mustSee_149 : decode cX10_mustSee 149 = .ok (.goto 4, 3) := by decide +kernel
theorem dX10_mustSee_152 : decode cX10_mustSee 152 = .ok (.iload_n 2, 1) := by decide +kernel
theorem dX10_mustSee_153 : decode cX10_mustSee 153 = .ok (.istore_n 2, 1) := by decide +kernel
theorem dX10_mustSee_154 : decode cX10_mustSee 154 = .ok (.iinc 3 1, 3) := by decide +kernel
theorem dX10_mustSee_157 : decode cX10_mustSee 157 = .ok (.goto (-123), 3) := by decide +kernel
theorem dX10_mustSee_160 : decode cX10_mustSee 160 = .ok (.iload_n 2, 1) := by decide +kernel
theorem dX10_mustSee_161 : decode cX10_mustSee 161 = .ok (.ireturn, 1) := by decide +kernel
theorem dX10_crowd_0 : decode cX10_crowd 0 = .ok (.iload_n 1, 1) := by decide +kernel
theorem dX10_crowd_1 : decode cX10_crowd 1 = .ok (.i2l, 1) := by decide +kernel
theorem dX10_crowd_2 : decode cX10_crowd 2 = .ok (.lconst 0, 1) := by decide +kernel
theorem dX10_crowd_3 : decode cX10_crowd 3 = .ok (.ldc2_w 199, 3) := by decide +kernel
theorem dX10_crowd_6 : decode cX10_crowd 6 = .ok (.invokestatic 74, 3) := by decide +kernel
theorem dX10_crowd_9 : decode cX10_crowd 9 = .ok (.ifCond .eq 25, 3) := by decide +kernel
theorem dX10_crowd_12 : decode cX10_crowd 12 = .ok (.iload_n 2, 1) := by decide +kernel
theorem dX10_crowd_13 : decode cX10_crowd 13 = .ok (.i2l, 1) := by decide +kernel
theorem dX10_crowd_14 : decode cX10_crowd 14 = .ok (.lconst 1, 1) := by decide +kernel
theorem dX10_crowd_15 : decode cX10_crowd 15 = .ok (.ldc2_w 201, 3) := by decide +kernel
theorem dX10_crowd_18 : decode cX10_crowd 18 = .ok (.invokestatic 74, 3) := by decide +kernel
theorem dX10_crowd_21 : decode cX10_crowd 21 = .ok (.ifCond .eq 13, 3) := by decide +kernel
theorem dX10_crowd_24 : decode cX10_crowd 24 = .ok (.iload_n 3, 1) := by decide +kernel
theorem dX10_crowd_25 : decode cX10_crowd 25 = .ok (.i2l, 1) := by decide +kernel
theorem dX10_crowd_26 : decode cX10_crowd 26 = .ok (.lconst 0, 1) := by decide +kernel
theorem dX10_crowd_27 : decode cX10_crowd 27 = .ok (.lconst 1, 1) := by decide +kernel
theorem dX10_crowd_28 : decode cX10_crowd 28 = .ok (.invokestatic 74, 3) := by decide +kernel
theorem dX10_crowd_31 : decode cX10_crowd 31 = .ok (.ifCond .ne 5, 3) := by decide +kernel
theorem dX10_crowd_34 : decode cX10_crowd 34 = .ok (.iconst (-1), 1) := by decide +kernel
theorem dX10_crowd_35 : decode cX10_crowd 35 = .ok (.ireturn, 1) := by decide +kernel
theorem dX10_crowd_36 : decode cX10_crowd 36 = .ok (.iconst (-1), 1) := by decide +kernel
theorem dX10_crowd_37 : decode cX10_crowd 37 = .ok (.istore 4, 2) := by decide +kernel
theorem dX10_crowd_39 : decode cX10_crowd 39 = .ok (.iconst 0, 1) := by decide +kernel
theorem dX10_crowd_40 : decode cX10_crowd 40 = .ok (.istore 5, 2) := by decide +kernel
theorem dX10_crowd_42 : decode cX10_crowd 42 = .ok (.iconst 0, 1) := by decide +kernel
theorem dX10_crowd_43 : decode cX10_crowd 43 = .ok (.istore 6, 2) := by decide +kernel
theorem dX10_crowd_45 : decode cX10_crowd 45 = .ok (.iconst 0, 1) := by decide +kernel
theorem dX10_crowd_46 : decode cX10_crowd 46 = .ok (.istore 7, 2) := by decide +kernel
theorem dX10_crowd_48 : decode cX10_crowd 48 = .ok (.iload 7, 2) := by decide +kernel
theorem dX10_crowd_50 : decode cX10_crowd 50 = .ok (.iload_n 2, 1) := by decide +kernel
theorem dX10_crowd_51 : decode cX10_crowd 51 = .ok (.if_icmp .ge 103, 3) := by decide +kernel
theorem dX10_crowd_54 : decode cX10_crowd 54 = .ok (.ldc2_w 203, 3) := by decide +kernel
theorem dX10_crowd_57 : decode cX10_crowd 57 = .ok (.iload_n 1, 1) := by decide +kernel
theorem dX10_crowd_58 : decode cX10_crowd 58 = .ok (.i2l, 1) := by decide +kernel
theorem dX10_crowd_59 : decode cX10_crowd 59 = .ok (.lmul, 1) := by decide +kernel
theorem dX10_crowd_60 : decode cX10_crowd 60 = .ok (.ldc2_w 205, 3) := by decide +kernel
theorem dX10_crowd_63 : decode cX10_crowd 63 = .ok (.iload 7, 2) := by decide +kernel
theorem dX10_crowd_65 : decode cX10_crowd 65 = .ok (.i2l, 1) := by decide +kernel
theorem dX10_crowd_66 : decode cX10_crowd 66 = .ok (.lmul, 1) := by decide +kernel
theorem dX10_crowd_67 : decode cX10_crowd 67 = .ok (.ladd, 1) := by decide +kernel
theorem dX10_crowd_68 : decode cX10_crowd 68 = .ok (.lconst 1, 1) := by decide +kernel
theorem dX10_crowd_69 : decode cX10_crowd 69 = .ok (.ladd, 1) := by decide +kernel
theorem dX10_crowd_70 : decode cX10_crowd 70 = .ok (.lstore 8, 2) := by decide +kernel
theorem dX10_crowd_72 : decode cX10_crowd 72 = .ok (.lload 8, 2) := by decide +kernel
theorem dX10_crowd_74 : decode cX10_crowd 74 = .ok (.lload 8, 2) := by decide +kernel
theorem dX10_crowd_76 : decode cX10_crowd 76 = .ok (.lmul, 1) := by decide +kernel
theorem dX10_crowd_77 : decode cX10_crowd 77 = .ok (.ldc2_w 207, 3) := by decide +kernel
theorem dX10_crowd_80 : decode cX10_crowd 80 = .ok (.lrem, 1) := by decide +kernel
theorem dX10_crowd_81 : decode cX10_crowd 81 = .ok (.aload_n 0, 1) := by decide +kernel
theorem dX10_crowd_82 : decode cX10_crowd 82 = .ok (.getfield 26, 3) := by decide +kernel
theorem dX10_crowd_85 : decode cX10_crowd 85 = .ok (.iconst 0, 1) := by decide +kernel
theorem dX10_crowd_86 : decode cX10_crowd 86 = .ok (.iaload, 1) := by decide +kernel
theorem dX10_crowd_87 : decode cX10_crowd 87 = .ok (.i2l, 1) := by decide +kernel
theorem dX10_crowd_88 : decode cX10_crowd 88 = .ok (.lrem, 1) := by decide +kernel
theorem dX10_crowd_89 : decode cX10_crowd 89 = .ok (.l2i, 1) := by decide +kernel
theorem dX10_crowd_90 : decode cX10_crowd 90 = .ok (.istore 10, 2) := by decide +kernel
theorem dX10_crowd_92 : decode cX10_crowd 92 = .ok (.iload 4, 2) := by decide +kernel
theorem dX10_crowd_94 : decode cX10_crowd 94 = .ok (.ifCond .ge 7, 3) := by decide +kernel
theorem dX10_crowd_97 : decode cX10_crowd 97 = .ok (.iconst 0, 1) := by decide +kernel
theorem dX10_crowd_98 : decode cX10_crowd 98 = .ok (.goto 16, 3) := by decide +kernel
theorem dX10_crowd_101 : decode cX10_crowd 101 = .ok (.aload_n 0, 1) := by decide +kernel
theorem dX10_crowd_102 : decode cX10_crowd 102 = .ok (.iload 10, 2) := by decide +kernel
theorem dX10_crowd_104 : decode cX10_crowd 104 = .ok (.iload 4, 2) := by decide +kernel
theorem dX10_crowd_106 : decode cX10_crowd 106 = .ok (.invokevirtual 136, 3) := by decide +kernel
theorem dX10_crowd_109 : decode cX10_crowd 109 = .ok (.aload_n 0, 1) := by decide +kernel
theorem dX10_crowd_110 : decode cX10_crowd 110 = .ok (.invokevirtual 140, 3) := by decide +kernel
theorem dX10_crowd_113 : decode cX10_crowd 113 = .ok (.iand, 1) := by decide +kernel
theorem dX10_crowd_114 : decode cX10_crowd 114 = .ok (.istore 11, 2) := by decide +kernel
theorem dX10_crowd_116 : decode cX10_crowd 116 = .ok (.iload 4, 2) := by decide +kernel
theorem dX10_crowd_118 : decode cX10_crowd 118 = .ok (.ifCond .lt 19, 3) := by decide +kernel
theorem dX10_crowd_121 : decode cX10_crowd 121 = .ok (.aload_n 0, 1) := by decide +kernel
theorem dX10_crowd_122 : decode cX10_crowd 122 = .ok (.getfield 13, 3) := by decide +kernel
theorem dX10_crowd_125 : decode cX10_crowd 125 = .ok (.iconst 0, 1) := by decide +kernel
theorem dX10_crowd_126 : decode cX10_crowd 126 = .ok (.iaload, 1) := by decide +kernel
theorem dX10_crowd_127 : decode cX10_crowd 127 = .ok (.iload 11, 2) := by decide +kernel
theorem dX10_crowd_129 : decode cX10_crowd 129 = .ok (.iload 5, 2) := by decide +kernel
theorem dX10_crowd_131 : decode cX10_crowd 131 = .ok (.invokestatic 146, 3) := by decide +kernel
theorem dX10_crowd_134 : decode cX10_crowd 134 = .ok (.ifCond .eq 14, 3) := by decide +kernel
theorem dX10_crowd_137 : decode cX10_crowd 137 = .ok (.iload 11, 2) := by decide +kernel
theorem dX10_crowd_139 : decode cX10_crowd 139 = .ok (.istore 5, 2) := by decide +kernel
theorem dX10_crowd_141 : decode cX10_crowd 141 = .ok (.iload 10, 2) := by decide +kernel
theorem dX10_crowd_143 : decode cX10_crowd 143 = .ok (.istore 4, 2) := by decide +kernel
theorem dX10_crowd_145 : decode cX10_crowd 145 = .ok (.iinc 6 1, 3) := by decide +kernel
theorem dX10_crowd_148 : decode cX10_crowd 148 = .ok (.iinc 7 1, 3) := by decide +kernel
theorem dX10_crowd_151 : decode cX10_crowd 151 = .ok (.goto (-103), 3) := by decide +kernel
theorem dX10_crowd_154 : decode cX10_crowd 154 = .ok (.iload_n 3, 1) := by decide +kernel
theorem dX10_crowd_155 : decode cX10_crowd 155 = .ok (.ifCond .ne 8, 3) := by decide +kernel
theorem dX10_crowd_158 : decode cX10_crowd 158 = .ok (.iload 6, 2) := by decide +kernel
theorem dX10_crowd_160 : decode cX10_crowd 160 = .ok (.goto 5, 3) := by decide +kernel
theorem dX10_crowd_163 : decode cX10_crowd 163 = .ok (.iload 4, 2) := by decide +kernel
theorem dX10_crowd_165 : decode cX10_crowd 165 = .ok (.ireturn, 1) := by decide +kernel
theorem dX10_copies_0 : decode cX10_copies 0 = .ok (.iconst 0, 1) := by decide +kernel
theorem dX10_copies_1 : decode cX10_copies 1 = .ok (.istore_n 3, 1) := by decide +kernel
theorem dX10_copies_2 : decode cX10_copies 2 = .ok (.iload_n 3, 1) := by decide +kernel
theorem dX10_copies_3 : decode cX10_copies 3 = .ok (.iconst 3, 1) := by decide +kernel
theorem dX10_copies_4 : decode cX10_copies 4 = .ok (.if_icmp .ge 29, 3) := by decide +kernel
theorem dX10_copies_7 : decode cX10_copies 7 = .ok (.aload_n 0, 1) := by decide +kernel
theorem dX10_copies_8 : decode cX10_copies 8 = .ok (.getfield 32, 3) := by decide +kernel
theorem dX10_copies_11 : decode cX10_copies 11 = .ok (.iconst 3, 1) := by decide +kernel
theorem dX10_copies_12 : decode cX10_copies 12 = .ok (.iload_n 2, 1) := by decide +kernel
theorem dX10_copies_13 : decode cX10_copies 13 = .ok (.imul, 1) := by decide +kernel
theorem dX10_copies_14 : decode cX10_copies 14 = .ok (.iload_n 3, 1) := by decide +kernel
theorem dX10_copies_15 : decode cX10_copies 15 = .ok (.iadd, 1) := by decide +kernel
theorem dX10_copies_16 : decode cX10_copies 16 = .ok (.aload_n 0, 1) := by decide +kernel
theorem dX10_copies_17 : decode cX10_copies 17 = .ok (.getfield 32, 3) := by decide +kernel
theorem dX10_copies_20 : decode cX10_copies 20 = .ok (.iconst 3, 1) := by decide +kernel
theorem dX10_copies_21 : decode cX10_copies 21 = .ok (.iload_n 1, 1) := by decide +kernel
theorem dX10_copies_22 : decode cX10_copies 22 = .ok (.imul, 1) := by decide +kernel
theorem dX10_copies_23 : decode cX10_copies 23 = .ok (.iload_n 3, 1) := by decide +kernel
theorem dX10_copies_24 : decode cX10_copies 24 = .ok (.iadd, 1) := by decide +kernel
theorem dX10_copies_25 : decode cX10_copies 25 = .ok (.iaload, 1) := by decide +kernel
theorem dX10_copies_26 : decode cX10_copies 26 = .ok (.iastore, 1) := by decide +kernel
theorem dX10_copies_27 : decode cX10_copies 27 = .ok (.iinc 3 1, 3) := by decide +kernel
theorem dX10_copies_30 : decode cX10_copies 30 = .ok (.goto (-28), 3) := by decide +kernel
theorem dX10_copies_33 : decode cX10_copies 33 = .ok (.return_, 1) := by decide +kernel
theorem dX10_keep_0 : decode cX10_keep 0 = .ok (.aload_n 0, 1) := by decide +kernel
theorem dX10_keep_1 : decode cX10_keep 1 = .ok (.getfield 117, 3) := by decide +kernel
theorem dX10_keep_4 : decode cX10_keep 4 = .ok (.iconst 2, 1) := by decide +kernel
theorem dX10_keep_5 : decode cX10_keep 5 = .ok (.if_icmp .ne 6, 3) := by decide +kernel
theorem dX10_keep_8 : decode cX10_keep 8 = .ok (.bipush (-3), 2) := by decide +kernel
theorem dX10_keep_10 : decode cX10_keep 10 = .ok (.ireturn, 1) := by decide +kernel
theorem dX10_keep_11 : decode cX10_keep 11 = .ok (.aload_n 0, 1) := by decide +kernel
theorem dX10_keep_12 : decode cX10_keep 12 = .ok (.dup, 1) := by decide +kernel
theorem dX10_keep_13 : decode cX10_keep 13 = .ok (.getfield 117, 3) := by decide +kernel
theorem dX10_keep_16 : decode cX10_keep 16 = .ok (.iconst 1, 1) := by decide +kernel
theorem dX10_keep_17 : decode cX10_keep 17 = .ok (.iadd, 1) := by decide +kernel
theorem dX10_keep_18 : decode cX10_keep 18 = .ok (.putfield 117, 3) := by decide +kernel
theorem dX10_keep_21 : decode cX10_keep 21 = .ok (.aload_n 0, 1) := by decide +kernel
theorem dX10_keep_22 : decode cX10_keep 22 = .ok (.iconst 0, 1) := by decide +kernel
theorem dX10_keep_23 : decode cX10_keep 23 = .ok (.aload_n 0, 1) := by decide +kernel
theorem dX10_keep_24 : decode cX10_keep 24 = .ok (.getfield 117, 3) := by decide +kernel
theorem dX10_keep_27 : decode cX10_keep 27 = .ok (.invokevirtual 209, 3) := by decide +kernel
theorem dX10_keep_30 : decode cX10_keep 30 = .ok (.aload_n 0, 1) := by decide +kernel
theorem dX10_keep_31 : decode cX10_keep 31 = .ok (.getfield 117, 3) := by decide +kernel
theorem dX10_keep_34 : decode cX10_keep 34 = .ok (.ireturn, 1) := by decide +kernel
theorem dX10_back_0 : decode cX10_back 0 = .ok (.aload_n 0, 1) := by decide +kernel
theorem dX10_back_1 : decode cX10_back 1 = .ok (.getfield 117, 3) := by decide +kernel
theorem dX10_back_4 : decode cX10_back 4 = .ok (.ifCond .ne 6, 3) := by decide +kernel
theorem dX10_back_7 : decode cX10_back 7 = .ok (.bipush (-2), 2) := by decide +kernel
theorem dX10_back_9 : decode cX10_back 9 = .ok (.ireturn, 1) := by decide +kernel
theorem dX10_back_10 : decode cX10_back 10 = .ok (.aload_n 0, 1) := by decide +kernel
theorem dX10_back_11 : decode cX10_back 11 = .ok (.aload_n 0, 1) := by decide +kernel
theorem dX10_back_12 : decode cX10_back 12 = .ok (.getfield 117, 3) := by decide +kernel
theorem dX10_back_15 : decode cX10_back 15 = .ok (.iconst 0, 1) := by decide +kernel
theorem dX10_back_16 : decode cX10_back 16 = .ok (.invokevirtual 209, 3) := by decide +kernel
theorem dX10_back_19 : decode cX10_back 19 = .ok (.aload_n 0, 1) := by decide +kernel
theorem dX10_back_20 : decode cX10_back 20 = .ok (.dup, 1) := by decide +kernel
theorem dX10_back_21 : decode cX10_back 21 = .ok (.getfield 117, 3) := by decide +kernel
theorem dX10_back_24 : decode cX10_back 24 = .ok (.iconst 1, 1) := by decide +kernel
theorem dX10_back_25 : decode cX10_back 25 = .ok (.isub, 1) := by decide +kernel
theorem dX10_back_26 : decode cX10_back 26 = .ok (.putfield 117, 3) := by decide +kernel
theorem dX10_back_29 : decode cX10_back 29 = .ok (.aload_n 0, 1) := by decide +kernel
theorem dX10_back_30 : decode cX10_back 30 = .ok (.iconst 0, 1) := by decide +kernel
theorem dX10_back_31 : decode cX10_back 31 = .ok (.putfield 114, 3) := by decide +kernel
theorem dX10_back_34 : decode cX10_back 34 = .ok (.aload_n 0, 1) := by decide +kernel
theorem dX10_back_35 : decode cX10_back 35 = .ok (.getfield 117, 3) := by decide +kernel
theorem dX10_back_38 : decode cX10_back 38 = .ok (.ireturn, 1) := by decide +kernel
theorem dX10_count_0 : decode cX10_count 0 = .ok (.iload_n 1, 1) := by decide +kernel
theorem dX10_count_1 : decode cX10_count 1 = .ok (.tableswitch 107 0 8 #[51, 58, 65, 75, 80, 85, 90, 95, 102], 51) := by decide +kernel
theorem dX10_count_52 : decode cX10_count 52 = .ok (.aload_n 0, 1) := by decide +kernel
theorem dX10_count_53 : decode cX10_count 53 = .ok (.getfield 26, 3) := by decide +kernel
theorem dX10_count_56 : decode cX10_count 56 = .ok (.iconst 0, 1) := by decide +kernel
theorem dX10_count_57 : decode cX10_count 57 = .ok (.iaload, 1) := by decide +kernel
theorem dX10_count_58 : decode cX10_count 58 = .ok (.ireturn, 1) := by decide +kernel
theorem dX10_count_59 : decode cX10_count 59 = .ok (.aload_n 0, 1) := by decide +kernel
theorem dX10_count_60 : decode cX10_count 60 = .ok (.getfield 17, 3) := by decide +kernel
theorem dX10_count_63 : decode cX10_count 63 = .ok (.iconst 0, 1) := by decide +kernel
theorem dX10_count_64 : decode cX10_count 64 = .ok (.iaload, 1) := by decide +kernel
theorem dX10_count_65 : decode cX10_count 65 = .ok (.ireturn, 1) := by decide +kernel
theorem dX10_count_66 : decode cX10_count 66 = .ok (.aload_n 0, 1) := by decide +kernel
theorem dX10_count_67 : decode cX10_count 67 = .ok (.getfield 32, 3) := by decide +kernel
theorem dX10_count_70 : decode cX10_count 70 = .ok (.iconst 0, 1) := by decide +kernel
theorem dX10_count_71 : decode cX10_count 71 = .ok (.iaload, 1) := by decide +kernel
theorem dX10_count_72 : decode cX10_count 72 = .ok (.invokestatic 143, 3) := by decide +kernel
theorem dX10_count_75 : decode cX10_count 75 = .ok (.ireturn, 1) := by decide +kernel
theorem dX10_count_76 : decode cX10_count 76 = .ok (.aload_n 0, 1) := by decide +kernel
theorem dX10_count_77 : decode cX10_count 77 = .ok (.getfield 111, 3) := by decide +kernel
theorem dX10_count_80 : decode cX10_count 80 = .ok (.ireturn, 1) := by decide +kernel
theorem dX10_count_81 : decode cX10_count 81 = .ok (.aload_n 0, 1) := by decide +kernel
theorem dX10_count_82 : decode cX10_count 82 = .ok (.getfield 114, 3) := by decide +kernel
theorem dX10_count_85 : decode cX10_count 85 = .ok (.ireturn, 1) := by decide +kernel
theorem dX10_count_86 : decode cX10_count 86 = .ok (.aload_n 0, 1) := by decide +kernel
theorem dX10_count_87 : decode cX10_count 87 = .ok (.getfield 117, 3) := by decide +kernel
theorem dX10_count_90 : decode cX10_count 90 = .ok (.ireturn, 1) := by decide +kernel
theorem dX10_count_91 : decode cX10_count 91 = .ok (.aload_n 0, 1) := by decide +kernel
theorem dX10_count_92 : decode cX10_count 92 = .ok (.getfield 78, 3) := by decide +kernel
theorem dX10_count_95 : decode cX10_count 95 = .ok (.ireturn, 1) := by decide +kernel
theorem dX10_count_96 : decode cX10_count 96 = .ok (.aload_n 0, 1) := by decide +kernel
theorem dX10_count_97 : decode cX10_count 97 = .ok (.getfield 13, 3) := by decide +kernel
theorem dX10_count_100 : decode cX10_count 100 = .ok (.iconst 0, 1) := by decide +kernel
theorem dX10_count_101 : decode cX10_count 101 = .ok (.iaload, 1) := by decide +kernel
theorem dX10_count_102 : decode cX10_count 102 = .ok (.ireturn, 1) := by decide +kernel
theorem dX10_count_103 : decode cX10_count 103 = .ok (.aload_n 0, 1) := by decide +kernel
theorem dX10_count_104 : decode cX10_count 104 = .ok (.invokevirtual 140, 3) := by decide +kernel
theorem dX10_count_107 : decode cX10_count 107 = .ok (.ireturn, 1) := by decide +kernel
theorem dX10_count_108 : decode cX10_count 108 = .ok (.iconst (-1), 1) := by decide +kernel
theorem dX10_count_109 : decode cX10_count 109 = .ok (.ireturn, 1) := by decide +kernel
theorem dJ6_bitCount_0f7a4_0 : decode cJ6_bitCount_0f7a4 0 = .ok (.iload_n 0, 1) := by decide +kernel
theorem dJ6_bitCount_0f7a4_1 : decode cJ6_bitCount_0f7a4 1 = .ok (.iload_n 0, 1) := by decide +kernel
theorem dJ6_bitCount_0f7a4_2 : decode cJ6_bitCount_0f7a4 2 = .ok (.iconst 1, 1) := by decide +kernel
theorem dJ6_bitCount_0f7a4_3 : decode cJ6_bitCount_0f7a4 3 = .ok (.iushr, 1) := by decide +kernel
theorem dJ6_bitCount_0f7a4_4 : decode cJ6_bitCount_0f7a4 4 = .ok (.ldc_w 265, 3) := by decide +kernel
theorem dJ6_bitCount_0f7a4_7 : decode cJ6_bitCount_0f7a4 7 = .ok (.iand, 1) := by decide +kernel
theorem dJ6_bitCount_0f7a4_8 : decode cJ6_bitCount_0f7a4 8 = .ok (.isub, 1) := by decide +kernel
theorem dJ6_bitCount_0f7a4_9 : decode cJ6_bitCount_0f7a4 9 = .ok (.istore_n 0, 1) := by decide +kernel
theorem dJ6_bitCount_0f7a4_10 : decode cJ6_bitCount_0f7a4 10 = .ok (.iload_n 0, 1) := by decide +kernel
theorem dJ6_bitCount_0f7a4_11 : decode cJ6_bitCount_0f7a4 11 = .ok (.ldc_w 266, 3) := by decide +kernel
theorem dJ6_bitCount_0f7a4_14 : decode cJ6_bitCount_0f7a4 14 = .ok (.iand, 1) := by decide +kernel
theorem dJ6_bitCount_0f7a4_15 : decode cJ6_bitCount_0f7a4 15 = .ok (.iload_n 0, 1) := by decide +kernel
theorem dJ6_bitCount_0f7a4_16 : decode cJ6_bitCount_0f7a4 16 = .ok (.iconst 2, 1) := by decide +kernel
theorem dJ6_bitCount_0f7a4_17 : decode cJ6_bitCount_0f7a4 17 = .ok (.iushr, 1) := by decide +kernel
theorem dJ6_bitCount_0f7a4_18 : decode cJ6_bitCount_0f7a4 18 = .ok (.ldc_w 266, 3) := by decide +kernel
theorem dJ6_bitCount_0f7a4_21 : decode cJ6_bitCount_0f7a4 21 = .ok (.iand, 1) := by decide +kernel
theorem dJ6_bitCount_0f7a4_22 : decode cJ6_bitCount_0f7a4 22 = .ok (.iadd, 1) := by decide +kernel
theorem dJ6_bitCount_0f7a4_23 : decode cJ6_bitCount_0f7a4 23 = .ok (.istore_n 0, 1) := by decide +kernel
theorem dJ6_bitCount_0f7a4_24 : decode cJ6_bitCount_0f7a4 24 = .ok (.iload_n 0, 1) := by decide +kernel
theorem dJ6_bitCount_0f7a4_25 : decode cJ6_bitCount_0f7a4 25 = .ok (.iload_n 0, 1) := by decide +kernel
theorem dJ6_bitCount_0f7a4_26 : decode cJ6_bitCount_0f7a4 26 = .ok (.iconst 4, 1) := by decide +kernel
theorem dJ6_bitCount_0f7a4_27 : decode cJ6_bitCount_0f7a4 27 = .ok (.iushr, 1) := by decide +kernel
theorem dJ6_bitCount_0f7a4_28 : decode cJ6_bitCount_0f7a4 28 = .ok (.iadd, 1) := by decide +kernel
theorem dJ6_bitCount_0f7a4_29 : decode cJ6_bitCount_0f7a4 29 = .ok (.ldc_w 267, 3) := by decide +kernel
theorem dJ6_bitCount_0f7a4_32 : decode cJ6_bitCount_0f7a4 32 = .ok (.iand, 1) := by decide +kernel
theorem dJ6_bitCount_0f7a4_33 : decode cJ6_bitCount_0f7a4 33 = .ok (.istore_n 0, 1) := by decide +kernel
theorem dJ6_bitCount_0f7a4_34 : decode cJ6_bitCount_0f7a4 34 = .ok (.iload_n 0, 1) := by decide +kernel
theorem dJ6_bitCount_0f7a4_35 : decode cJ6_bitCount_0f7a4 35 = .ok (.iload_n 0, 1) := by decide +kernel
theorem dJ6_bitCount_0f7a4_36 : decode cJ6_bitCount_0f7a4 36 = .ok (.bipush 8, 2) := by decide +kernel
theorem dJ6_bitCount_0f7a4_38 : decode cJ6_bitCount_0f7a4 38 = .ok (.iushr, 1) := by decide +kernel
theorem dJ6_bitCount_0f7a4_39 : decode cJ6_bitCount_0f7a4 39 = .ok (.iadd, 1) := by decide +kernel
theorem dJ6_bitCount_0f7a4_40 : decode cJ6_bitCount_0f7a4 40 = .ok (.istore_n 0, 1) := by decide +kernel
theorem dJ6_bitCount_0f7a4_41 : decode cJ6_bitCount_0f7a4 41 = .ok (.iload_n 0, 1) := by decide +kernel
theorem dJ6_bitCount_0f7a4_42 : decode cJ6_bitCount_0f7a4 42 = .ok (.iload_n 0, 1) := by decide +kernel
theorem dJ6_bitCount_0f7a4_43 : decode cJ6_bitCount_0f7a4 43 = .ok (.bipush 16, 2) := by decide +kernel
theorem dJ6_bitCount_0f7a4_45 : decode cJ6_bitCount_0f7a4 45 = .ok (.iushr, 1) := by decide +kernel
theorem dJ6_bitCount_0f7a4_46 : decode cJ6_bitCount_0f7a4 46 = .ok (.iadd, 1) := by decide +kernel
theorem dJ6_bitCount_0f7a4_47 : decode cJ6_bitCount_0f7a4 47 = .ok (.istore_n 0, 1) := by decide +kernel
theorem dJ6_bitCount_0f7a4_48 : decode cJ6_bitCount_0f7a4 48 = .ok (.iload_n 0, 1) := by decide +kernel
theorem dJ6_bitCount_0f7a4_49 : decode cJ6_bitCount_0f7a4 49 = .ok (.bipush 63, 2) := by decide +kernel
theorem dJ6_bitCount_0f7a4_51 : decode cJ6_bitCount_0f7a4 51 = .ok (.iand, 1) := by decide +kernel
theorem dJ6_bitCount_0f7a4_52 : decode cJ6_bitCount_0f7a4 52 = .ok (.ireturn, 1) := by decide +kernel
theorem dJ9_abs_0f7a4_0 : decode cJ9_abs_0f7a4 0 = .ok (.iload_n 0, 1) := by decide +kernel
theorem dJ9_abs_0f7a4_1 : decode cJ9_abs_0f7a4 1 = .ok (.ifCond .ge 8, 3) := by decide +kernel
theorem dJ9_abs_0f7a4_4 : decode cJ9_abs_0f7a4 4 = .ok (.iload_n 0, 1) := by decide +kernel
theorem dJ9_abs_0f7a4_5 : decode cJ9_abs_0f7a4 5 = .ok (.ineg, 1) := by decide +kernel
theorem dJ9_abs_0f7a4_6 : decode cJ9_abs_0f7a4 6 = .ok (.goto 4, 3) := by decide +kernel
theorem dJ9_abs_0f7a4_9 : decode cJ9_abs_0f7a4 9 = .ok (.iload_n 0, 1) := by decide +kernel
theorem dJ9_abs_0f7a4_10 : decode cJ9_abs_0f7a4 10 = .ok (.ireturn, 1) := by decide +kernel
theorem dJ9_max_7cf53_0 : decode cJ9_max_7cf53 0 = .ok (.iload_n 0, 1) := by decide +kernel
theorem dJ9_max_7cf53_1 : decode cJ9_max_7cf53 1 = .ok (.iload_n 1, 1) := by decide +kernel
theorem dJ9_max_7cf53_2 : decode cJ9_max_7cf53 2 = .ok (.if_icmp .lt 7, 3) := by decide +kernel
theorem dJ9_max_7cf53_5 : decode cJ9_max_7cf53 5 = .ok (.iload_n 0, 1) := by decide +kernel
theorem dJ9_max_7cf53_6 : decode cJ9_max_7cf53 6 = .ok (.goto 4, 3) := by decide +kernel
theorem dJ9_max_7cf53_9 : decode cJ9_max_7cf53 9 = .ok (.iload_n 1, 1) := by decide +kernel
theorem dJ9_max_7cf53_10 : decode cJ9_max_7cf53 10 = .ok (.ireturn, 1) := by decide +kernel
theorem dJ9_min_7cf53_0 : decode cJ9_min_7cf53 0 = .ok (.iload_n 0, 1) := by decide +kernel
theorem dJ9_min_7cf53_1 : decode cJ9_min_7cf53 1 = .ok (.iload_n 1, 1) := by decide +kernel
theorem dJ9_min_7cf53_2 : decode cJ9_min_7cf53 2 = .ok (.if_icmp .gt 7, 3) := by decide +kernel
theorem dJ9_min_7cf53_5 : decode cJ9_min_7cf53 5 = .ok (.iload_n 0, 1) := by decide +kernel
theorem dJ9_min_7cf53_6 : decode cJ9_min_7cf53 6 = .ok (.goto 4, 3) := by decide +kernel
theorem dJ9_min_7cf53_9 : decode cJ9_min_7cf53 9 = .ok (.iload_n 1, 1) := by decide +kernel
theorem dJ9_min_7cf53_10 : decode cJ9_min_7cf53 10 = .ok (.ireturn, 1) := by decide +kernel
theorem dJ0_length_8abf5_0 : decode cJ0_length_8abf5 0 = .ok (.aload_n 0, 1) := by decide +kernel
theorem dJ0_length_8abf5_1 : decode cJ0_length_8abf5 1 = .ok (.getfield 9, 3) := by decide +kernel
theorem dJ0_length_8abf5_4 : decode cJ0_length_8abf5 4 = .ok (.arraylength, 1) := by decide +kernel
theorem dJ0_length_8abf5_5 : decode cJ0_length_8abf5 5 = .ok (.aload_n 0, 1) := by decide +kernel
theorem dJ0_length_8abf5_6 : decode cJ0_length_8abf5 6 = .ok (.invokevirtual 335, 3) := by decide +kernel
theorem dJ0_length_8abf5_9 : decode cJ0_length_8abf5 9 = .ok (.ishr, 1) := by decide +kernel
theorem dJ0_length_8abf5_10 : decode cJ0_length_8abf5 10 = .ok (.ireturn, 1) := by decide +kernel
theorem dJ0_charAt_5068e_0 : decode cJ0_charAt_5068e 0 = .ok (.aload_n 0, 1) := by decide +kernel
theorem dJ0_charAt_5068e_1 : decode cJ0_charAt_5068e 1 = .ok (.invokevirtual 492, 3) := by decide +kernel
theorem dJ0_charAt_5068e_4 : decode cJ0_charAt_5068e 4 = .ok (.ifCond .eq 12, 3) := by decide +kernel
theorem dJ0_charAt_5068e_7 : decode cJ0_charAt_5068e 7 = .ok (.aload_n 0, 1) := by decide +kernel
theorem dJ0_charAt_5068e_8 : decode cJ0_charAt_5068e 8 = .ok (.getfield 9, 3) := by decide +kernel
theorem dJ0_charAt_5068e_11 : decode cJ0_charAt_5068e 11 = .ok (.iload_n 1, 1) := by decide +kernel
theorem dJ0_charAt_5068e_12 : decode cJ0_charAt_5068e 12 = .ok (.invokestatic 495, 3) := by decide +kernel
theorem dJ0_charAt_5068e_15 : decode cJ0_charAt_5068e 15 = .ok (.ireturn, 1) := by decide +kernel
theorem dJ0_charAt_5068e_16 : decode cJ0_charAt_5068e 16 = .ok (.aload_n 0, 1) := by decide +kernel
theorem dJ0_charAt_5068e_17 : decode cJ0_charAt_5068e 17 = .ok (.getfield 9, 3) := by decide +kernel
theorem dJ0_charAt_5068e_20 : decode cJ0_charAt_5068e 20 = .ok (.iload_n 1, 1) := by decide +kernel
theorem dJ0_charAt_5068e_21 : decode cJ0_charAt_5068e 21 = .ok (.invokestatic 498, 3) := by decide +kernel
theorem dJ0_charAt_5068e_24 : decode cJ0_charAt_5068e 24 = .ok (.ireturn, 1) := by decide +kernel
theorem dJ0_coder_7d493_0 : decode cJ0_coder_7d493 0 = .ok (.getstatic 38, 3) := by decide +kernel
theorem dJ0_coder_7d493_3 : decode cJ0_coder_7d493 3 = .ok (.ifCond .eq 10, 3) := by decide +kernel
theorem dJ0_coder_7d493_6 : decode cJ0_coder_7d493 6 = .ok (.aload_n 0, 1) := by decide +kernel
theorem dJ0_coder_7d493_7 : decode cJ0_coder_7d493 7 = .ok (.getfield 15, 3) := by decide +kernel
theorem dJ0_coder_7d493_10 : decode cJ0_coder_7d493 10 = .ok (.goto 4, 3) := by decide +kernel
theorem dJ0_coder_7d493_13 : decode cJ0_coder_7d493 13 = .ok (.iconst 1, 1) := by decide +kernel
theorem dJ0_coder_7d493_14 : decode cJ0_coder_7d493 14 = .ok (.ireturn, 1) := by decide +kernel
theorem dJ0_isLatin1_aae02_0 : decode cJ0_isLatin1_aae02 0 = .ok (.getstatic 38, 3) := by decide +kernel
theorem dJ0_isLatin1_aae02_3 : decode cJ0_isLatin1_aae02 3 = .ok (.ifCond .eq 14, 3) := by decide +kernel
theorem dJ0_isLatin1_aae02_6 : decode cJ0_isLatin1_aae02 6 = .ok (.aload_n 0, 1) := by decide +kernel
theorem dJ0_isLatin1_aae02_7 : decode cJ0_isLatin1_aae02 7 = .ok (.getfield 15, 3) := by decide +kernel
theorem dJ0_isLatin1_aae02_10 : decode cJ0_isLatin1_aae02 10 = .ok (.ifCond .ne 7, 3) := by decide +kernel
theorem dJ0_isLatin1_aae02_13 : decode cJ0_isLatin1_aae02 13 = .ok (.iconst 1, 1) := by decide +kernel
theorem dJ0_isLatin1_aae02_14 : decode cJ0_isLatin1_aae02 14 = .ok (.goto 4, 3) := by decide +kernel
theorem dJ0_isLatin1_aae02_17 : decode cJ0_isLatin1_aae02 17 = .ok (.iconst 0, 1) := by decide +kernel
theorem dJ0_isLatin1_aae02_18 : decode cJ0_isLatin1_aae02 18 = .ok (.ireturn, 1) := by decide +kernel
theorem dJ0_checkIndex_df160_0 : decode cJ0_checkIndex_df160 0 = .ok (.iload_n 0, 1) := by decide +kernel
theorem dJ0_checkIndex_df160_1 : decode cJ0_checkIndex_df160 1 = .ok (.iload_n 1, 1) := by decide +kernel
theorem dJ0_checkIndex_df160_2 : decode cJ0_checkIndex_df160 2 = .ok (.getstatic 1053, 3) := by decide +kernel
theorem dJ0_checkIndex_df160_5 : decode cJ0_checkIndex_df160 5 = .ok (.invokestatic 1059, 3) := by decide +kernel
theorem dJ0_checkIndex_df160_8 : decode cJ0_checkIndex_df160 8 = .ok (.pop, 1) := by decide +kernel
theorem dJ0_checkIndex_df160_9 : decode cJ0_checkIndex_df160 9 = .ok (.return_, 1) := by decide +kernel
theorem dJ1_charAt_3b067_0 : decode cJ1_charAt_3b067 0 = .ok (.iload_n 1, 1) := by decide +kernel
theorem dJ1_charAt_3b067_1 : decode cJ1_charAt_3b067 1 = .ok (.aload_n 0, 1) := by decide +kernel
theorem dJ1_charAt_3b067_2 : decode cJ1_charAt_3b067 2 = .ok (.arraylength, 1) := by decide +kernel
theorem dJ1_charAt_3b067_3 : decode cJ1_charAt_3b067 3 = .ok (.invokestatic 9, 3) := by decide +kernel
theorem dJ1_charAt_3b067_6 : decode cJ1_charAt_3b067 6 = .ok (.aload_n 0, 1) := by decide +kernel
theorem dJ1_charAt_3b067_7 : decode cJ1_charAt_3b067 7 = .ok (.iload_n 1, 1) := by decide +kernel
theorem dJ1_charAt_3b067_8 : decode cJ1_charAt_3b067 8 = .ok (.baload, 1) := by decide +kernel
theorem dJ1_charAt_3b067_9 : decode cJ1_charAt_3b067 9 = .ok (.sipush 255, 3) := by decide +kernel
theorem dJ1_charAt_3b067_12 : decode cJ1_charAt_3b067 12 = .ok (.iand, 1) := by decide +kernel
theorem dJ1_charAt_3b067_13 : decode cJ1_charAt_3b067 13 = .ok (.i2c, 1) := by decide +kernel
theorem dJ1_charAt_3b067_14 : decode cJ1_charAt_3b067 14 = .ok (.ireturn, 1) := by decide +kernel
theorem dJ2_getChar_3b067_0 : decode cJ2_getChar_3b067 0 = .ok (.getstatic 44, 3) := by decide +kernel
theorem dJ2_getChar_3b067_3 : decode cJ2_getChar_3b067 3 = .ok (.ifCond .ne 25, 3) := by decide +kernel
theorem dJ2_getChar_3b067_6 : decode cJ2_getChar_3b067 6 = .ok (.iload_n 1, 1) := by decide +kernel
theorem dJ2_getChar_3b067_7 : decode cJ2_getChar_3b067 7 = .ok (.ifCond .lt 11, 3) := by decide +kernel
theorem dJ2_getChar_3b067_10 : decode cJ2_getChar_3b067 10 = .ok (.iload_n 1, 1) := by decide +kernel
theorem dJ2_getChar_3b067_11 : decode cJ2_getChar_3b067 11 = .ok (.aload_n 0, 1) := by decide +kernel
theorem dJ2_getChar_3b067_12 : decode cJ2_getChar_3b067 12 = .ok (.invokestatic 48, 3) := by decide +kernel
theorem dJ2_getChar_3b067_15 : decode cJ2_getChar_3b067 15 = .ok (.if_icmp .lt 13, 3) := by decide +kernel
theorem dJ2_getChar_3b067_18 : decode cJ2_getChar_3b067 18 = .ok (.new 52, 3) := by decide +kernel
theorem dJ2_getChar_3b067_21 : decode cJ2_getChar_3b067 21 = .ok (.dup, 1) := by decide +kernel
theorem dJ2_getChar_3b067_22 : decode cJ2_getChar_3b067 22 = .ok (.ldc 54, 2) := by decide +kernel
theorem dJ2_getChar_3b067_24 : decode cJ2_getChar_3b067 24 = .ok (.invokespecial 56, 3) := by decide +kernel
theorem dJ2_getChar_3b067_27 : decode cJ2_getChar_3b067 27 = .ok (.athrow, 1) := by decide +kernel
theorem dJ2_getChar_3b067_28 : decode cJ2_getChar_3b067 28 = .ok (.iload_n 1, 1) := by decide +kernel
theorem dJ2_getChar_3b067_29 : decode cJ2_getChar_3b067 29 = .ok (.iconst 1, 1) := by decide +kernel
theorem dJ2_getChar_3b067_30 : decode cJ2_getChar_3b067 30 = .ok (.ishl, 1) := by decide +kernel
theorem dJ2_getChar_3b067_31 : decode cJ2_getChar_3b067 31 = .ok (.istore_n 1, 1) := by decide +kernel
theorem dJ2_getChar_3b067_32 : decode cJ2_getChar_3b067 32 = .ok (.aload_n 0, 1) := by decide +kernel
theorem dJ2_getChar_3b067_33 : decode cJ2_getChar_3b067 33 = .ok (.iload_n 1, 1) := by decide +kernel
theorem dJ2_getChar_3b067_34 : decode cJ2_getChar_3b067 34 = .ok (.iinc 1 1, 3) := by decide +kernel
theorem dJ2_getChar_3b067_37 : decode cJ2_getChar_3b067 37 = .ok (.baload, 1) := by decide +kernel
theorem dJ2_getChar_3b067_38 : decode cJ2_getChar_3b067 38 = .ok (.sipush 255, 3) := by decide +kernel
theorem dJ2_getChar_3b067_41 : decode cJ2_getChar_3b067 41 = .ok (.iand, 1) := by decide +kernel
theorem dJ2_getChar_3b067_42 : decode cJ2_getChar_3b067 42 = .ok (.getstatic 59, 3) := by decide +kernel
theorem dJ2_getChar_3b067_45 : decode cJ2_getChar_3b067 45 = .ok (.ishl, 1) := by decide +kernel
theorem dJ2_getChar_3b067_46 : decode cJ2_getChar_3b067 46 = .ok (.aload_n 0, 1) := by decide +kernel
theorem dJ2_getChar_3b067_47 : decode cJ2_getChar_3b067 47 = .ok (.iload_n 1, 1) := by decide +kernel
theorem dJ2_getChar_3b067_48 : decode cJ2_getChar_3b067 48 = .ok (.baload, 1) := by decide +kernel
theorem dJ2_getChar_3b067_49 : decode cJ2_getChar_3b067 49 = .ok (.sipush 255, 3) := by decide +kernel
theorem dJ2_getChar_3b067_52 : decode cJ2_getChar_3b067 52 = .ok (.iand, 1) := by decide +kernel
theorem dJ2_getChar_3b067_53 : decode cJ2_getChar_3b067 53 = .ok (.getstatic 63, 3) := by decide +kernel
theorem dJ2_getChar_3b067_56 : decode cJ2_getChar_3b067 56 = .ok (.ishl, 1) := by decide +kernel
theorem dJ2_getChar_3b067_57 : decode cJ2_getChar_3b067 57 = .ok (.ior, 1) := by decide +kernel
theorem dJ2_getChar_3b067_58 : decode cJ2_getChar_3b067 58 = .ok (.i2c, 1) := by decide +kernel
theorem dJ2_getChar_3b067_59 : decode cJ2_getChar_3b067 59 = .ok (.ireturn, 1) := by decide +kernel
theorem dJ2_length_9d52b_0 : decode cJ2_length_9d52b 0 = .ok (.aload_n 0, 1) := by decide +kernel
theorem dJ2_length_9d52b_1 : decode cJ2_length_9d52b 1 = .ok (.arraylength, 1) := by decide +kernel
theorem dJ2_length_9d52b_2 : decode cJ2_length_9d52b 2 = .ok (.iconst 1, 1) := by decide +kernel
theorem dJ2_length_9d52b_3 : decode cJ2_length_9d52b 3 = .ok (.ishr, 1) := by decide +kernel
theorem dJ2_length_9d52b_4 : decode cJ2_length_9d52b 4 = .ok (.ireturn, 1) := by decide +kernel
theorem dJ2_charAt_3b067_0 : decode cJ2_charAt_3b067 0 = .ok (.iload_n 1, 1) := by decide +kernel
theorem dJ2_charAt_3b067_1 : decode cJ2_charAt_3b067 1 = .ok (.aload_n 0, 1) := by decide +kernel
theorem dJ2_charAt_3b067_2 : decode cJ2_charAt_3b067 2 = .ok (.invokestatic 67, 3) := by decide +kernel
theorem dJ2_charAt_3b067_5 : decode cJ2_charAt_3b067 5 = .ok (.aload_n 0, 1) := by decide +kernel
theorem dJ2_charAt_3b067_6 : decode cJ2_charAt_3b067 6 = .ok (.iload_n 1, 1) := by decide +kernel
theorem dJ2_charAt_3b067_7 : decode cJ2_charAt_3b067 7 = .ok (.invokestatic 71, 3) := by decide +kernel
theorem dJ2_charAt_3b067_10 : decode cJ2_charAt_3b067 10 = .ok (.ireturn, 1) := by decide +kernel
theorem dJ2_checkIndex_2214a_0 : decode cJ2_checkIndex_2214a 0 = .ok (.iload_n 0, 1) := by decide +kernel
theorem dJ2_checkIndex_2214a_1 : decode cJ2_checkIndex_2214a 1 = .ok (.aload_n 1, 1) := by decide +kernel
theorem dJ2_checkIndex_2214a_2 : decode cJ2_checkIndex_2214a 2 = .ok (.invokestatic 48, 3) := by decide +kernel
theorem dJ2_checkIndex_2214a_5 : decode cJ2_checkIndex_2214a 5 = .ok (.invokestatic 414, 3) := by decide +kernel
theorem dJ2_checkIndex_2214a_8 : decode cJ2_checkIndex_2214a 8 = .ok (.return_, 1) := by decide +kernel
theorem dJ7_fill_d0a16_0 : decode cJ7_fill_d0a16 0 = .ok (.iconst 0, 1) := by decide +kernel
theorem dJ7_fill_d0a16_1 : decode cJ7_fill_d0a16 1 = .ok (.istore_n 3, 1) := by decide +kernel
theorem dJ7_fill_d0a16_2 : decode cJ7_fill_d0a16 2 = .ok (.aload_n 0, 1) := by decide +kernel
theorem dJ7_fill_d0a16_3 : decode cJ7_fill_d0a16 3 = .ok (.arraylength, 1) := by decide +kernel
theorem dJ7_fill_d0a16_4 : decode cJ7_fill_d0a16 4 = .ok (.istore 4, 2) := by decide +kernel
theorem dJ7_fill_d0a16_6 : decode cJ7_fill_d0a16 6 = .ok (.iload_n 3, 1) := by decide +kernel
theorem dJ7_fill_d0a16_7 : decode cJ7_fill_d0a16 7 = .ok (.iload 4, 2) := by decide +kernel
theorem dJ7_fill_d0a16_9 : decode cJ7_fill_d0a16 9 = .ok (.if_icmp .ge 13, 3) := by decide +kernel
theorem dJ7_fill_d0a16_12 : decode cJ7_fill_d0a16 12 = .ok (.aload_n 0, 1) := by decide +kernel
theorem dJ7_fill_d0a16_13 : decode cJ7_fill_d0a16 13 = .ok (.iload_n 3, 1) := by decide +kernel
theorem dJ7_fill_d0a16_14 : decode cJ7_fill_d0a16 14 = .ok (.lload_n 1, 1) := by decide +kernel
theorem dJ7_fill_d0a16_15 : decode cJ7_fill_d0a16 15 = .ok (.lastore, 1) := by decide +kernel
theorem dJ7_fill_d0a16_16 : decode cJ7_fill_d0a16 16 = .ok (.iinc 3 1, 3) := by decide +kernel
theorem dJ7_fill_d0a16_19 : decode cJ7_fill_d0a16 19 = .ok (.goto (-13), 3) := by decide +kernel
theorem dJ7_fill_d0a16_22 : decode cJ7_fill_d0a16 22 = .ok (.return_, 1) := by decide +kernel
theorem dJ3_checkIndex_8e157_0 : decode cJ3_checkIndex_8e157 0 = .ok (.iload_n 0, 1) := by decide +kernel
theorem dJ3_checkIndex_8e157_1 : decode cJ3_checkIndex_8e157 1 = .ok (.ifCond .lt 8, 3) := by decide +kernel
theorem dJ3_checkIndex_8e157_4 : decode cJ3_checkIndex_8e157 4 = .ok (.iload_n 0, 1) := by decide +kernel
theorem dJ3_checkIndex_8e157_5 : decode cJ3_checkIndex_8e157 5 = .ok (.iload_n 1, 1) := by decide +kernel
theorem dJ3_checkIndex_8e157_6 : decode cJ3_checkIndex_8e157 6 = .ok (.if_icmp .lt 10, 3) := by decide +kernel
theorem dJ3_checkIndex_8e157_9 : decode cJ3_checkIndex_8e157 9 = .ok (.aload_n 2, 1) := by decide +kernel
theorem dJ3_checkIndex_8e157_10 : decode cJ3_checkIndex_8e157 10 = .ok (.iload_n 0, 1) := by decide +kernel
theorem dJ3_checkIndex_8e157_11 : decode cJ3_checkIndex_8e157 11 = .ok (.iload_n 1, 1) := by decide +kernel
theorem dJ3_checkIndex_8e157_12 : decode cJ3_checkIndex_8e157 12 = .ok (.invokestatic 95, 3) := by decide +kernel
theorem dJ3_checkIndex_8e157_15 : decode cJ3_checkIndex_8e157 15 = .ok (.athrow, 1) := by decide +kernel
theorem dJ3_checkIndex_8e157_16 : decode cJ3_checkIndex_8e157 16 = .ok (.iload_n 0, 1) := by decide +kernel
theorem dJ3_checkIndex_8e157_17 : decode cJ3_checkIndex_8e157 17 = .ok (.ireturn, 1) := by decide +kernel
theorem dL_law_0 : decode cL_law 0 = .ok (.new 7, 3) := by decide +kernel
theorem dL_law_3 : decode cL_law 3 = .ok (.dup, 1) := by decide +kernel
theorem dL_law_4 : decode cL_law 4 = .ok (.invokespecial 9, 3) := by decide +kernel
theorem dL_law_7 : decode cL_law 7 = .ok (.astore_n 1, 1) := by decide +kernel
theorem dL_law_8 : decode cL_law 8 = .ok (.new 10, 3) := by decide +kernel
theorem dL_law_11 : decode cL_law 11 = .ok (.dup, 1) := by decide +kernel
theorem dL_law_12 : decode cL_law 12 = .ok (.invokespecial 12, 3) := by decide +kernel
theorem dL_law_15 : decode cL_law 15 = .ok (.astore_n 2, 1) := by decide +kernel
theorem dL_law_16 : decode cL_law 16 = .ok (.iconst 0, 1) := by decide +kernel
theorem dL_law_17 : decode cL_law 17 = .ok (.istore_n 3, 1) := by decide +kernel
theorem dL_law_18 : decode cL_law 18 = .ok (.iload_n 3, 1) := by decide +kernel
theorem dL_law_19 : decode cL_law 19 = .ok (.aload_n 0, 1) := by decide +kernel
theorem dL_law_20 : decode cL_law 20 = .ok (.arraylength, 1) := by decide +kernel
theorem dL_law_21 : decode cL_law 21 = .ok (.iconst 4, 1) := by decide +kernel
theorem dL_law_22 : decode cL_law 22 = .ok (.isub, 1) := by decide +kernel
theorem dL_law_23 : decode cL_law 23 = .ok (.if_icmp .gt 763, 3) := by decide +kernel
theorem dL_law_26 : decode cL_law 26 = .ok (.aload_n 0, 1) := by decide +kernel
theorem dL_law_27 : decode cL_law 27 = .ok (.iload_n 3, 1) := by decide +kernel
theorem dL_law_28 : decode cL_law 28 = .ok (.iaload, 1) := by decide +kernel
theorem dL_law_29 : decode cL_law 29 = .ok (.bipush 31, 2) := by decide +kernel
theorem dL_law_31 : decode cL_law 31 = .ok (.iand, 1) := by decide +kernel
theorem dL_law_32 : decode cL_law 32 = .ok (.tableswitch 748 0 24 #[116, 179, 192, 205, 218, 251, 310, 333, 356, 379, 392, 405, 428, 441, 454, 487, 500, 544, 577, 620, 643, 656, 699, 712, 725], 116) := by decide +kernel
theorem dL_law_148 : decode cL_law 148 = .ok (.aload_n 1, 1) := by decide +kernel
theorem dL_law_149 : decode cL_law 149 = .ok (.aload_n 0, 1) := by decide +kernel
theorem dL_law_150 : decode cL_law 150 = .ok (.iload_n 3, 1) := by decide +kernel
theorem dL_law_151 : decode cL_law 151 = .ok (.iconst 1, 1) := by decide +kernel
theorem dL_law_152 : decode cL_law 152 = .ok (.iadd, 1) := by decide +kernel
theorem dL_law_153 : decode cL_law 153 = .ok (.iaload, 1) := by decide +kernel
theorem dL_law_154 : decode cL_law 154 = .ok (.aload_n 0, 1) := by decide +kernel
theorem dL_law_155 : decode cL_law 155 = .ok (.iload_n 3, 1) := by decide +kernel
theorem dL_law_156 : decode cL_law 156 = .ok (.iconst 2, 1) := by decide +kernel
theorem dL_law_157 : decode cL_law 157 = .ok (.iadd, 1) := by decide +kernel
theorem dL_law_158 : decode cL_law 158 = .ok (.iaload, 1) := by decide +kernel
theorem dL_law_159 : decode cL_law 159 = .ok (.i2l, 1) := by decide +kernel
theorem dL_law_160 : decode cL_law 160 = .ok (.bipush 32, 2) := by decide +kernel
theorem dL_law_162 : decode cL_law 162 = .ok (.lshl, 1) := by decide +kernel
theorem dL_law_163 : decode cL_law 163 = .ok (.aload_n 0, 1) := by decide +kernel
theorem dL_law_164 : decode cL_law 164 = .ok (.iload_n 3, 1) := by decide +kernel
theorem dL_law_165 : decode cL_law 165 = .ok (.iconst 3, 1) := by decide +kernel
theorem dL_law_166 : decode cL_law 166 = .ok (.iadd, 1) := by decide +kernel
theorem dL_law_167 : decode cL_law 167 = .ok (.iaload, 1) := by decide +kernel
theorem dL_law_168 : decode cL_law 168 = .ok (.i2l, 1) := by decide +kernel
theorem dL_law_169 : decode cL_law 169 = .ok (.ldc2_w 13, 3) := by decide +kernel
theorem dL_law_172 : decode cL_law 172 = .ok (.land, 1) := by decide +kernel
theorem dL_law_173 : decode cL_law 173 = .ok (.lor, 1) := by decide +kernel
theorem dL_law_174 : decode cL_law 174 = .ok (.invokevirtual 15, 3) := by decide +kernel
theorem dL_law_177 : decode cL_law 177 = .ok (.aload_n 2, 1) := by decide +kernel
theorem dL_law_178 : decode cL_law 178 = .ok (.aload_n 0, 1) := by decide +kernel
theorem dL_law_179 : decode cL_law 179 = .ok (.iload_n 3, 1) := by decide +kernel
theorem dL_law_180 : decode cL_law 180 = .ok (.iconst 1, 1) := by decide +kernel
theorem dL_law_181 : decode cL_law 181 = .ok (.iadd, 1) := by decide +kernel
theorem dL_law_182 : decode cL_law 182 = .ok (.iaload, 1) := by decide +kernel
theorem dL_law_183 : decode cL_law 183 = .ok (.aload_n 0, 1) := by decide +kernel
theorem dL_law_184 : decode cL_law 184 = .ok (.iload_n 3, 1) := by decide +kernel
theorem dL_law_185 : decode cL_law 185 = .ok (.iconst 2, 1) := by decide +kernel
theorem dL_law_186 : decode cL_law 186 = .ok (.iadd, 1) := by decide +kernel
theorem dL_law_187 : decode cL_law 187 = .ok (.iaload, 1) := by decide +kernel
theorem dL_law_188 : decode cL_law 188 = .ok (.i2l, 1) := by decide +kernel
theorem dL_law_189 : decode cL_law 189 = .ok (.bipush 32, 2) := by decide +kernel
theorem dL_law_191 : decode cL_law 191 = .ok (.lshl, 1) := by decide +kernel
theorem dL_law_192 : decode cL_law 192 = .ok (.aload_n 0, 1) := by decide +kernel
theorem dL_law_193 : decode cL_law 193 = .ok (.iload_n 3, 1) := by decide +kernel
theorem dL_law_194 : decode cL_law 194 = .ok (.iconst 3, 1) := by decide +kernel
theorem dL_law_195 : decode cL_law 195 = .ok (.iadd, 1) := by decide +kernel
theorem dL_law_196 : decode cL_law 196 = .ok (.iaload, 1) := by decide +kernel
theorem dL_law_197 : decode cL_law 197 = .ok (.i2l, 1) := by decide +kernel
theorem dL_law_198 : decode cL_law 198 = .ok (.ldc2_w 13, 3) := by decide +kernel
theorem dL_law_201 : decode cL_law 201 = .ok (.land, 1) := by decide +kernel
theorem dL_law_202 : decode cL_law 202 = .ok (.lor, 1) := by decide +kernel
theorem dL_law_203 : decode cL_law 203 = .ok (.invokevirtual 19, 3) := by decide +kernel
theorem dL_law_206 : decode cL_law 206 = .ok (.if_icmp .eq 574, 3) := by decide +kernel
theorem dL_law_209 : decode cL_law 209 = .ok (.iconst 0, 1) := by decide +kernel
theorem dL_law_210 : decode cL_law 210 = .ok (.ireturn, 1) := by decide +kernel
theorem dL_law_211 : decode cL_law 211 = .ok (.aload_n 1, 1) := by decide +kernel
theorem dL_law_212 : decode cL_law 212 = .ok (.invokevirtual 20, 3) := by decide +kernel
theorem dL_law_215 : decode cL_law 215 = .ok (.aload_n 2, 1) := by decide +kernel
theorem dL_law_216 : decode cL_law 216 = .ok (.invokevirtual 24, 3) := by decide +kernel
theorem dL_law_219 : decode cL_law 219 = .ok (.if_icmp .eq 561, 3) := by decide +kernel
theorem dL_law_222 : decode cL_law 222 = .ok (.iconst 0, 1) := by decide +kernel
theorem dL_law_223 : decode cL_law 223 = .ok (.ireturn, 1) := by decide +kernel
theorem dL_law_224 : decode cL_law 224 = .ok (.aload_n 1, 1) := by decide +kernel
theorem dL_law_225 : decode cL_law 225 = .ok (.invokevirtual 25, 3) := by decide +kernel
theorem dL_law_228 : decode cL_law 228 = .ok (.aload_n 2, 1) := by decide +kernel
theorem dL_law_229 : decode cL_law 229 = .ok (.invokevirtual 28, 3) := by decide +kernel
theorem dL_law_232 : decode cL_law 232 = .ok (.if_icmp .eq 548, 3) := by decide +kernel
theorem dL_law_235 : decode cL_law 235 = .ok (.iconst 0, 1) := by decide +kernel
theorem dL_law_236 : decode cL_law 236 = .ok (.ireturn, 1) := by decide +kernel
theorem dL_law_237 : decode cL_law 237 = .ok (.aload_n 1, 1) := by decide +kernel
theorem dL_law_238 : decode cL_law 238 = .ok (.invokevirtual 29, 3) := by decide +kernel
theorem dL_law_241 : decode cL_law 241 = .ok (.aload_n 2, 1) := by decide +kernel
theorem dL_law_242 : decode cL_law 242 = .ok (.invokevirtual 32, 3) := by decide +kernel
theorem dL_law_245 : decode cL_law 245 = .ok (.if_icmp .eq 535, 3) := by decide +kernel
theorem dL_law_248 : decode cL_law 248 = .ok (.iconst 0, 1) := by decide +kernel
theorem dL_law_249 : decode cL_law 249 = .ok (.ireturn, 1) := by decide +kernel
theorem dL_law_250 : decode cL_law 250 = .ok (.aload_n 1, 1) := by decide +kernel
theorem dL_law_251 : decode cL_law 251 = .ok (.aload_n 0, 1) := by decide +kernel
theorem dL_law_252 : decode cL_law 252 = .ok (.iload_n 3, 1) := by decide +kernel
theorem dL_law_253 : decode cL_law 253 = .ok (.iconst 1, 1) := by decide +kernel
theorem dL_law_254 : decode cL_law 254 = .ok (.iadd, 1) := by decide +kernel
theorem dL_law_255 : decode cL_law 255 = .ok (.iaload, 1) := by decide +kernel
theorem dL_law_256 : decode cL_law 256 = .ok (.aload_n 0, 1) := by decide +kernel
theorem dL_law_257 : decode cL_law 257 = .ok (.iload_n 3, 1) := by decide +kernel
theorem dL_law_258 : decode cL_law 258 = .ok (.iconst 2, 1) := by decide +kernel
theorem dL_law_259 : decode cL_law 259 = .ok (.iadd, 1) := by decide +kernel
theorem dL_law_260 : decode cL_law 260 = .ok (.iaload, 1) := by decide +kernel
theorem dL_law_261 : decode cL_law 261 = .ok (.invokevirtual 33, 3) := by decide +kernel
theorem dL_law_264 : decode cL_law 264 = .ok (.aload_n 2, 1) := by decide +kernel
theorem dL_law_265 : decode cL_law 265 = .ok (.aload_n 0, 1) := by decide +kernel
theorem dL_law_266 : decode cL_law 266 = .ok (.iload_n 3, 1) := by decide +kernel
theorem dL_law_267 : decode cL_law 267 = .ok (.iconst 1, 1) := by decide +kernel
theorem dL_law_268 : decode cL_law 268 = .ok (.iadd, 1) := by decide +kernel
theorem dL_law_269 : decode cL_law 269 = .ok (.iaload, 1) := by decide +kernel
theorem dL_law_270 : decode cL_law 270 = .ok (.aload_n 0, 1) := by decide +kernel
theorem dL_law_271 : decode cL_law 271 = .ok (.iload_n 3, 1) := by decide +kernel
theorem dL_law_272 : decode cL_law 272 = .ok (.iconst 2, 1) := by decide +kernel
theorem dL_law_273 : decode cL_law 273 = .ok (.iadd, 1) := by decide +kernel
theorem dL_law_274 : decode cL_law 274 = .ok (.iaload, 1) := by decide +kernel
theorem dL_law_275 : decode cL_law 275 = .ok (.invokevirtual 37, 3) := by decide +kernel
theorem dL_law_278 : decode cL_law 278 = .ok (.if_icmp .eq 502, 3) := by decide +kernel
theorem dL_law_281 : decode cL_law 281 = .ok (.iconst 0, 1) := by decide +kernel
theorem dL_law_282 : decode cL_law 282 = .ok (.ireturn, 1) := by decide +kernel
theorem dL_law_283 : decode cL_law 283 = .ok (.aload_n 1, 1) := by decide +kernel
theorem dL_law_284 : decode cL_law 284 = .ok (.aload_n 0, 1) := by decide +kernel
theorem dL_law_285 : decode cL_law 285 = .ok (.iload_n 3, 1) := by decide +kernel
theorem dL_law_286 : decode cL_law 286 = .ok (.iconst 1, 1) := by decide +kernel
theorem dL_law_287 : decode cL_law 287 = .ok (.iadd, 1) := by decide +kernel
theorem dL_law_288 : decode cL_law 288 = .ok (.iaload, 1) := by decide +kernel
theorem dL_law_289 : decode cL_law 289 = .ok (.aload_n 0, 1) := by decide +kernel
theorem dL_law_290 : decode cL_law 290 = .ok (.iload_n 3, 1) := by decide +kernel
theorem dL_law_291 : decode cL_law 291 = .ok (.iconst 2, 1) := by decide +kernel
theorem dL_law_292 : decode cL_law 292 = .ok (.iadd, 1) := by decide +kernel
theorem dL_law_293 : decode cL_law 293 = .ok (.iaload, 1) := by decide +kernel
theorem dL_law_294 : decode cL_law 294 = .ok (.aload_n 0, 1) := by decide +kernel
theorem dL_law_295 : decode cL_law 295 = .ok (.iload_n 3, 1) := by decide +kernel
theorem dL_law_296 : decode cL_law 296 = .ok (.iconst 3, 1) := by decide +kernel
theorem dL_law_297 : decode cL_law 297 = .ok (.iadd, 1) := by decide +kernel
theorem dL_law_298 : decode cL_law 298 = .ok (.iaload, 1) := by decide +kernel
theorem dL_law_299 : decode cL_law 299 = .ok (.ifCond .eq 7, 3) := by decide +kernel
theorem dL_law_302 : decode cL_law 302 = .ok (.iconst 1, 1) := by decide +kernel
theorem dL_law_303 : decode cL_law 303 = .ok (.goto 4, 3) := by decide +kernel
theorem dL_law_306 : decode cL_law 306 = .ok (.iconst 0, 1) := by decide +kernel
theorem dL_law_307 : decode cL_law 307 = .ok (.invokevirtual 38, 3) := by decide +kernel
theorem dL_law_310 : decode cL_law 310 = .ok (.aload_n 2, 1) := by decide +kernel
theorem dL_law_311 : decode cL_law 311 = .ok (.aload_n 0, 1) := by decide +kernel
theorem dL_law_312 : decode cL_law 312 = .ok (.iload_n 3, 1) := by decide +kernel
theorem dL_law_313 : decode cL_law 313 = .ok (.iconst 1, 1) := by decide +kernel
theorem dL_law_314 : decode cL_law 314 = .ok (.iadd, 1) := by decide +kernel
theorem dL_law_315 : decode cL_law 315 = .ok (.iaload, 1) := by decide +kernel
theorem dL_law_316 : decode cL_law 316 = .ok (.aload_n 0, 1) := by decide +kernel
theorem dL_law_317 : decode cL_law 317 = .ok (.iload_n 3, 1) := by decide +kernel
theorem dL_law_318 : decode cL_law 318 = .ok (.iconst 2, 1) := by decide +kernel
theorem dL_law_319 : decode cL_law 319 = .ok (.iadd, 1) := by decide +kernel
theorem dL_law_320 : decode cL_law 320 = .ok (.iaload, 1) := by decide +kernel
theorem dL_law_321 : decode cL_law 321 = .ok (.aload_n 0, 1) := by decide +kernel
theorem dL_law_322 : decode cL_law 322 = .ok (.iload_n 3, 1) := by decide +kernel
theorem dL_law_323 : decode cL_law 323 = .ok (.iconst 3, 1) := by decide +kernel
theorem dL_law_324 : decode cL_law 324 = .ok (.iadd, 1) := by decide +kernel
theorem dL_law_325 : decode cL_law 325 = .ok (.iaload, 1) := by decide +kernel
theorem dL_law_326 : decode cL_law 326 = .ok (.ifCond .eq 7, 3) := by decide +kernel
theorem dL_law_329 : decode cL_law 329 = .ok (.iconst 1, 1) := by decide +kernel
theorem dL_law_330 : decode cL_law 330 = .ok (.goto 4, 3) := by decide +kernel
theorem dL_law_333 : decode cL_law 333 = .ok (.iconst 0, 1) := by decide +kernel
theorem dL_law_334 : decode cL_law 334 = .ok (.invokevirtual 42, 3) := by decide +kernel
theorem dL_law_337 : decode cL_law 337 = .ok (.if_icmp .eq 443, 3) := by decide +kernel
theorem dL_law_340 : decode cL_law 340 = .ok (.iconst 0, 1) := by decide +kernel
theorem dL_law_341 : decode cL_law 341 = .ok (.ireturn, 1) := by decide +kernel
theorem dL_law_342 : decode cL_law 342 = .ok (.aload_n 1, 1) := by decide +kernel
theorem dL_law_343 : decode cL_law 343 = .ok (.aload_n 0, 1) := by decide +kernel
theorem dL_law_344 : decode cL_law 344 = .ok (.iload_n 3, 1) := by decide +kernel
theorem dL_law_345 : decode cL_law 345 = .ok (.iconst 1, 1) := by decide +kernel
theorem dL_law_346 : decode cL_law 346 = .ok (.iadd, 1) := by decide +kernel
theorem dL_law_347 : decode cL_law 347 = .ok (.iaload, 1) := by decide +kernel
theorem dL_law_348 : decode cL_law 348 = .ok (.invokevirtual 43, 3) := by decide +kernel
theorem dL_law_351 : decode cL_law 351 = .ok (.aload_n 2, 1) := by decide +kernel
theorem dL_law_352 : decode cL_law 352 = .ok (.aload_n 0, 1) := by decide +kernel
theorem dL_law_353 : decode cL_law 353 = .ok (.iload_n 3, 1) := by decide +kernel
theorem dL_law_354 : decode cL_law 354 = .ok (.iconst 1, 1) := by decide +kernel
theorem dL_law_355 : decode cL_law 355 = .ok (.iadd, 1) := by decide +kernel
theorem dL_law_356 : decode cL_law 356 = .ok (.iaload, 1) := by decide +kernel
theorem dL_law_357 : decode cL_law 357 = .ok (.invokevirtual 47, 3) := by decide +kernel
theorem dL_law_360 : decode cL_law 360 = .ok (.if_icmp .eq 420, 3) := by decide +kernel
theorem dL_law_363 : decode cL_law 363 = .ok (.iconst 0, 1) := by decide +kernel
theorem dL_law_364 : decode cL_law 364 = .ok (.ireturn, 1) := by decide +kernel
theorem dL_law_365 : decode cL_law 365 = .ok (.aload_n 1, 1) := by decide +kernel
theorem dL_law_366 : decode cL_law 366 = .ok (.aload_n 0, 1) := by decide +kernel
theorem dL_law_367 : decode cL_law 367 = .ok (.iload_n 3, 1) := by decide +kernel
theorem dL_law_368 : decode cL_law 368 = .ok (.iconst 1, 1) := by decide +kernel
theorem dL_law_369 : decode cL_law 369 = .ok (.iadd, 1) := by decide +kernel
theorem dL_law_370 : decode cL_law 370 = .ok (.iaload, 1) := by decide +kernel
theorem dL_law_371 : decode cL_law 371 = .ok (.invokevirtual 48, 3) := by decide +kernel
theorem dL_law_374 : decode cL_law 374 = .ok (.aload_n 2, 1) := by decide +kernel
theorem dL_law_375 : decode cL_law 375 = .ok (.aload_n 0, 1) := by decide +kernel
theorem dL_law_376 : decode cL_law 376 = .ok (.iload_n 3, 1) := by decide +kernel
theorem dL_law_377 : decode cL_law 377 = .ok (.iconst 1, 1) := by decide +kernel
theorem dL_law_378 : decode cL_law 378 = .ok (.iadd, 1) := by decide +kernel
theorem dL_law_379 : decode cL_law 379 = .ok (.iaload, 1) := by decide +kernel
theorem dL_law_380 : decode cL_law 380 = .ok (.invokevirtual 51, 3) := by decide +kernel
theorem dL_law_383 : decode cL_law 383 = .ok (.if_icmp .eq 397, 3) := by decide +kernel
theorem dL_law_386 : decode cL_law 386 = .ok (.iconst 0, 1) := by decide +kernel
theorem dL_law_387 : decode cL_law 387 = .ok (.ireturn, 1) := by decide +kernel
theorem dL_law_388 : decode cL_law 388 = .ok (.aload_n 1, 1) := by decide +kernel
theorem dL_law_389 : decode cL_law 389 = .ok (.aload_n 0, 1) := by decide +kernel
theorem dL_law_390 : decode cL_law 390 = .ok (.iload_n 3, 1) := by decide +kernel
theorem dL_law_391 : decode cL_law 391 = .ok (.iconst 1, 1) := by decide +kernel
theorem dL_law_392 : decode cL_law 392 = .ok (.iadd, 1) := by decide +kernel
theorem dL_law_393 : decode cL_law 393 = .ok (.iaload, 1) := by decide +kernel
theorem dL_law_394 : decode cL_law 394 = .ok (.invokevirtual 52, 3) := by decide +kernel
theorem dL_law_397 : decode cL_law 397 = .ok (.aload_n 2, 1) := by decide +kernel
theorem dL_law_398 : decode cL_law 398 = .ok (.aload_n 0, 1) := by decide +kernel
theorem dL_law_399 : decode cL_law 399 = .ok (.iload_n 3, 1) := by decide +kernel
theorem dL_law_400 : decode cL_law 400 = .ok (.iconst 1, 1) := by decide +kernel
theorem dL_law_401 : decode cL_law 401 = .ok (.iadd, 1) := by decide +kernel
theorem dL_law_402 : decode cL_law 402 = .ok (.iaload, 1) := by decide +kernel
theorem dL_law_403 : decode cL_law 403 = .ok (.invokevirtual 55, 3) := by decide +kernel
theorem dL_law_406 : decode cL_law 406 = .ok (.if_icmp .eq 374, 3) := by decide +kernel
theorem dL_law_409 : decode cL_law 409 = .ok (.iconst 0, 1) := by decide +kernel
theorem dL_law_410 : decode cL_law 410 = .ok (.ireturn, 1) := by decide +kernel
theorem dL_law_411 : decode cL_law 411 = .ok (.aload_n 1, 1) := by decide +kernel
theorem dL_law_412 : decode cL_law 412 = .ok (.invokevirtual 56, 3) := by decide +kernel
theorem dL_law_415 : decode cL_law 415 = .ok (.aload_n 2, 1) := by decide +kernel
theorem dL_law_416 : decode cL_law 416 = .ok (.invokevirtual 59, 3) := by decide +kernel
theorem dL_law_419 : decode cL_law 419 = .ok (.if_icmp .eq 361, 3) := by decide +kernel
theorem dL_law_422 : decode cL_law 422 = .ok (.iconst 0, 1) := by decide +kernel
theorem dL_law_423 : decode cL_law 423 = .ok (.ireturn, 1) := by decide +kernel
theorem dL_law_424 : decode cL_law 424 = .ok (.aload_n 1, 1) := by decide +kernel
theorem dL_law_425 : decode cL_law 425 = .ok (.invokevirtual 60, 3) := by decide +kernel
theorem dL_law_428 : decode cL_law 428 = .ok (.aload_n 2, 1) := by decide +kernel
theorem dL_law_429 : decode cL_law 429 = .ok (.invokevirtual 63, 3) := by decide +kernel
theorem dL_law_432 : decode cL_law 432 = .ok (.if_icmp .eq 348, 3) := by decide +kernel
theorem dL_law_435 : decode cL_law 435 = .ok (.iconst 0, 1) := by decide +kernel
theorem dL_law_436 : decode cL_law 436 = .ok (.ireturn, 1) := by decide +kernel
theorem dL_law_437 : decode cL_law 437 = .ok (.aload_n 1, 1) := by decide +kernel
theorem dL_law_438 : decode cL_law 438 = .ok (.aload_n 0, 1) := by decide +kernel
theorem dL_law_439 : decode cL_law 439 = .ok (.iload_n 3, 1) := by decide +kernel
theorem dL_law_440 : decode cL_law 440 = .ok (.iconst 1, 1) := by decide +kernel
theorem dL_law_441 : decode cL_law 441 = .ok (.iadd, 1) := by decide +kernel
theorem dL_law_442 : decode cL_law 442 = .ok (.iaload, 1) := by decide +kernel
theorem dL_law_443 : decode cL_law 443 = .ok (.invokevirtual 64, 3) := by decide +kernel
theorem dL_law_446 : decode cL_law 446 = .ok (.aload_n 2, 1) := by decide +kernel
theorem dL_law_447 : decode cL_law 447 = .ok (.aload_n 0, 1) := by decide +kernel
theorem dL_law_448 : decode cL_law 448 = .ok (.iload_n 3, 1) := by decide +kernel
theorem dL_law_449 : decode cL_law 449 = .ok (.iconst 1, 1) := by decide +kernel
theorem dL_law_450 : decode cL_law 450 = .ok (.iadd, 1) := by decide +kernel
theorem dL_law_451 : decode cL_law 451 = .ok (.iaload, 1) := by decide +kernel
theorem dL_law_452 : decode cL_law 452 = .ok (.invokevirtual 67, 3) := by decide +kernel
theorem dL_law_455 : decode cL_law 455 = .ok (.if_icmp .eq 325, 3) := by decide +kernel
theorem dL_law_458 : decode cL_law 458 = .ok (.iconst 0, 1) := by decide +kernel
theorem dL_law_459 : decode cL_law 459 = .ok (.ireturn, 1) := by decide +kernel
theorem dL_law_460 : decode cL_law 460 = .ok (.aload_n 1, 1) := by decide +kernel
theorem dL_law_461 : decode cL_law 461 = .ok (.invokevirtual 68, 3) := by decide +kernel
theorem dL_law_464 : decode cL_law 464 = .ok (.aload_n 2, 1) := by decide +kernel
theorem dL_law_465 : decode cL_law 465 = .ok (.invokevirtual 71, 3) := by decide +kernel
theorem dL_law_468 : decode cL_law 468 = .ok (.if_icmp .eq 312, 3) := by decide +kernel
theorem dL_law_471 : decode cL_law 471 = .ok (.iconst 0, 1) := by decide +kernel
theorem dL_law_472 : decode cL_law 472 = .ok (.ireturn, 1) := by decide +kernel
theorem dL_law_473 : decode cL_law 473 = .ok (.aload_n 1, 1) := by decide +kernel
theorem dL_law_474 : decode cL_law 474 = .ok (.invokevirtual 72, 3) := by decide +kernel
theorem dL_law_477 : decode cL_law 477 = .ok (.aload_n 2, 1) := by decide +kernel
theorem dL_law_478 : decode cL_law 478 = .ok (.invokevirtual 75, 3) := by decide +kernel
theorem dL_law_481 : decode cL_law 481 = .ok (.if_icmp .eq 299, 3) := by decide +kernel
theorem dL_law_484 : decode cL_law 484 = .ok (.iconst 0, 1) := by decide +kernel
theorem dL_law_485 : decode cL_law 485 = .ok (.ireturn, 1) := by decide +kernel
theorem dL_law_486 : decode cL_law 486 = .ok (.aload_n 1, 1) := by decide +kernel
theorem dL_law_487 : decode cL_law 487 = .ok (.aload_n 0, 1) := by decide +kernel
theorem dL_law_488 : decode cL_law 488 = .ok (.iload_n 3, 1) := by decide +kernel
theorem dL_law_489 : decode cL_law 489 = .ok (.iconst 1, 1) := by decide +kernel
theorem dL_law_490 : decode cL_law 490 = .ok (.iadd, 1) := by decide +kernel
theorem dL_law_491 : decode cL_law 491 = .ok (.iaload, 1) := by decide +kernel
theorem dL_law_492 : decode cL_law 492 = .ok (.aload_n 0, 1) := by decide +kernel
theorem dL_law_493 : decode cL_law 493 = .ok (.iload_n 3, 1) := by decide +kernel
theorem dL_law_494 : decode cL_law 494 = .ok (.iconst 2, 1) := by decide +kernel
theorem dL_law_495 : decode cL_law 495 = .ok (.iadd, 1) := by decide +kernel
theorem dL_law_496 : decode cL_law 496 = .ok (.iaload, 1) := by decide +kernel
theorem dL_law_497 : decode cL_law 497 = .ok (.invokevirtual 76, 3) := by decide +kernel
theorem dL_law_500 : decode cL_law 500 = .ok (.aload_n 2, 1) := by decide +kernel
theorem dL_law_501 : decode cL_law 501 = .ok (.aload_n 0, 1) := by decide +kernel
theorem dL_law_502 : decode cL_law 502 = .ok (.iload_n 3, 1) := by decide +kernel
theorem dL_law_503 : decode cL_law 503 = .ok (.iconst 1, 1) := by decide +kernel
theorem dL_law_504 : decode cL_law 504 = .ok (.iadd, 1) := by decide +kernel
theorem dL_law_505 : decode cL_law 505 = .ok (.iaload, 1) := by decide +kernel
theorem dL_law_506 : decode cL_law 506 = .ok (.aload_n 0, 1) := by decide +kernel
theorem dL_law_507 : decode cL_law 507 = .ok (.iload_n 3, 1) := by decide +kernel
theorem dL_law_508 : decode cL_law 508 = .ok (.iconst 2, 1) := by decide +kernel
theorem dL_law_509 : decode cL_law 509 = .ok (.iadd, 1) := by decide +kernel
theorem dL_law_510 : decode cL_law 510 = .ok (.iaload, 1) := by decide +kernel
theorem dL_law_511 : decode cL_law 511 = .ok (.invokevirtual 79, 3) := by decide +kernel
theorem dL_law_514 : decode cL_law 514 = .ok (.if_icmp .eq 266, 3) := by decide +kernel
theorem dL_law_517 : decode cL_law 517 = .ok (.iconst 0, 1) := by decide +kernel
theorem dL_law_518 : decode cL_law 518 = .ok (.ireturn, 1) := by decide +kernel
theorem dL_law_519 : decode cL_law 519 = .ok (.aload_n 1, 1) := by decide +kernel
theorem dL_law_520 : decode cL_law 520 = .ok (.invokevirtual 80, 3) := by decide +kernel
theorem dL_law_523 : decode cL_law 523 = .ok (.aload_n 2, 1) := by decide +kernel
theorem dL_law_524 : decode cL_law 524 = .ok (.invokevirtual 83, 3) := by decide +kernel
theorem dL_law_527 : decode cL_law 527 = .ok (.if_icmp .eq 253, 3) := by decide +kernel
theorem dL_law_530 : decode cL_law 530 = .ok (.iconst 0, 1) := by decide +kernel
theorem dL_law_531 : decode cL_law 531 = .ok (.ireturn, 1) := by decide +kernel
theorem dL_law_532 : decode cL_law 532 = .ok (.aload_n 1, 1) := by decide +kernel
theorem dL_law_533 : decode cL_law 533 = .ok (.aload_n 0, 1) := by decide +kernel
theorem dL_law_534 : decode cL_law 534 = .ok (.iload_n 3, 1) := by decide +kernel
theorem dL_law_535 : decode cL_law 535 = .ok (.iconst 1, 1) := by decide +kernel
theorem dL_law_536 : decode cL_law 536 = .ok (.iadd, 1) := by decide +kernel
theorem dL_law_537 : decode cL_law 537 = .ok (.iaload, 1) := by decide +kernel
theorem dL_law_538 : decode cL_law 538 = .ok (.aload_n 0, 1) := by decide +kernel
theorem dL_law_539 : decode cL_law 539 = .ok (.iload_n 3, 1) := by decide +kernel
theorem dL_law_540 : decode cL_law 540 = .ok (.iconst 2, 1) := by decide +kernel
theorem dL_law_541 : decode cL_law 541 = .ok (.iadd, 1) := by decide +kernel
theorem dL_law_542 : decode cL_law 542 = .ok (.iaload, 1) := by decide +kernel
theorem dL_law_543 : decode cL_law 543 = .ok (.aload_n 0, 1) := by decide +kernel
theorem dL_law_544 : decode cL_law 544 = .ok (.iload_n 3, 1) := by decide +kernel
theorem dL_law_545 : decode cL_law 545 = .ok (.iconst 3, 1) := by decide +kernel
theorem dL_law_546 : decode cL_law 546 = .ok (.iadd, 1) := by decide +kernel
theorem dL_law_547 : decode cL_law 547 = .ok (.iaload, 1) := by decide +kernel
theorem dL_law_548 : decode cL_law 548 = .ok (.invokevirtual 84, 3) := by decide +kernel
theorem dL_law_551 : decode cL_law 551 = .ok (.aload_n 2, 1) := by decide +kernel
theorem dL_law_552 : decode cL_law 552 = .ok (.aload_n 0, 1) := by decide +kernel
theorem dL_law_553 : decode cL_law 553 = .ok (.iload_n 3, 1) := by decide +kernel
theorem dL_law_554 : decode cL_law 554 = .ok (.iconst 1, 1) := by decide +kernel
theorem dL_law_555 : decode cL_law 555 = .ok (.iadd, 1) := by decide +kernel
theorem dL_law_556 : decode cL_law 556 = .ok (.iaload, 1) := by decide +kernel
theorem dL_law_557 : decode cL_law 557 = .ok (.aload_n 0, 1) := by decide +kernel
theorem dL_law_558 : decode cL_law 558 = .ok (.iload_n 3, 1) := by decide +kernel
theorem dL_law_559 : decode cL_law 559 = .ok (.iconst 2, 1) := by decide +kernel
theorem dL_law_560 : decode cL_law 560 = .ok (.iadd, 1) := by decide +kernel
theorem dL_law_561 : decode cL_law 561 = .ok (.iaload, 1) := by decide +kernel
theorem dL_law_562 : decode cL_law 562 = .ok (.aload_n 0, 1) := by decide +kernel
theorem dL_law_563 : decode cL_law 563 = .ok (.iload_n 3, 1) := by decide +kernel
theorem dL_law_564 : decode cL_law 564 = .ok (.iconst 3, 1) := by decide +kernel
theorem dL_law_565 : decode cL_law 565 = .ok (.iadd, 1) := by decide +kernel
theorem dL_law_566 : decode cL_law 566 = .ok (.iaload, 1) := by decide +kernel
theorem dL_law_567 : decode cL_law 567 = .ok (.invokevirtual 88, 3) := by decide +kernel
theorem dL_law_570 : decode cL_law 570 = .ok (.lcmp, 1) := by decide +kernel
theorem dL_law_571 : decode cL_law 571 = .ok (.ifCond .eq 209, 3) := by decide +kernel
theorem dL_law_574 : decode cL_law 574 = .ok (.iconst 0, 1) := by decide +kernel
theorem dL_law_575 : decode cL_law 575 = .ok (.ireturn, 1) := by decide +kernel
theorem dL_law_576 : decode cL_law 576 = .ok (.aload_n 1, 1) := by decide +kernel
theorem dL_law_577 : decode cL_law 577 = .ok (.aload_n 0, 1) := by decide +kernel
theorem dL_law_578 : decode cL_law 578 = .ok (.iload_n 3, 1) := by decide +kernel
theorem dL_law_579 : decode cL_law 579 = .ok (.iconst 1, 1) := by decide +kernel
theorem dL_law_580 : decode cL_law 580 = .ok (.iadd, 1) := by decide +kernel
theorem dL_law_581 : decode cL_law 581 = .ok (.iaload, 1) := by decide +kernel
theorem dL_law_582 : decode cL_law 582 = .ok (.aload_n 0, 1) := by decide +kernel
theorem dL_law_583 : decode cL_law 583 = .ok (.iload_n 3, 1) := by decide +kernel
theorem dL_law_584 : decode cL_law 584 = .ok (.iconst 2, 1) := by decide +kernel
theorem dL_law_585 : decode cL_law 585 = .ok (.iadd, 1) := by decide +kernel
theorem dL_law_586 : decode cL_law 586 = .ok (.iaload, 1) := by decide +kernel
theorem dL_law_587 : decode cL_law 587 = .ok (.invokevirtual 89, 3) := by decide +kernel
theorem dL_law_590 : decode cL_law 590 = .ok (.aload_n 2, 1) := by decide +kernel
theorem dL_law_591 : decode cL_law 591 = .ok (.aload_n 0, 1) := by decide +kernel
theorem dL_law_592 : decode cL_law 592 = .ok (.iload_n 3, 1) := by decide +kernel
theorem dL_law_593 : decode cL_law 593 = .ok (.iconst 1, 1) := by decide +kernel
theorem dL_law_594 : decode cL_law 594 = .ok (.iadd, 1) := by decide +kernel
theorem dL_law_595 : decode cL_law 595 = .ok (.iaload, 1) := by decide +kernel
theorem dL_law_596 : decode cL_law 596 = .ok (.aload_n 0, 1) := by decide +kernel
theorem dL_law_597 : decode cL_law 597 = .ok (.iload_n 3, 1) := by decide +kernel
theorem dL_law_598 : decode cL_law 598 = .ok (.iconst 2, 1) := by decide +kernel
theorem dL_law_599 : decode cL_law 599 = .ok (.iadd, 1) := by decide +kernel
theorem dL_law_600 : decode cL_law 600 = .ok (.iaload, 1) := by decide +kernel
theorem dL_law_601 : decode cL_law 601 = .ok (.invokevirtual 92, 3) := by decide +kernel
theorem dL_law_604 : decode cL_law 604 = .ok (.if_icmp .eq 176, 3) := by decide +kernel
theorem dL_law_607 : decode cL_law 607 = .ok (.iconst 0, 1) := by decide +kernel
theorem dL_law_608 : decode cL_law 608 = .ok (.ireturn, 1) := by decide +kernel
theorem dL_law_609 : decode cL_law 609 = .ok (.aload_n 1, 1) := by decide +kernel
theorem dL_law_610 : decode cL_law 610 = .ok (.aload_n 0, 1) := by decide +kernel
theorem dL_law_611 : decode cL_law 611 = .ok (.iload_n 3, 1) := by decide +kernel
theorem dL_law_612 : decode cL_law 612 = .ok (.iconst 1, 1) := by decide +kernel
theorem dL_law_613 : decode cL_law 613 = .ok (.iadd, 1) := by decide +kernel
theorem dL_law_614 : decode cL_law 614 = .ok (.iaload, 1) := by decide +kernel
theorem dL_law_615 : decode cL_law 615 = .ok (.aload_n 0, 1) := by decide +kernel
theorem dL_law_616 : decode cL_law 616 = .ok (.iload_n 3, 1) := by decide +kernel
theorem dL_law_617 : decode cL_law 617 = .ok (.iconst 2, 1) := by decide +kernel
theorem dL_law_618 : decode cL_law 618 = .ok (.iadd, 1) := by decide +kernel
theorem dL_law_619 : decode cL_law 619 = .ok (.iaload, 1) := by decide +kernel
theorem dL_law_620 : decode cL_law 620 = .ok (.aload_n 0, 1) := by decide +kernel
theorem dL_law_621 : decode cL_law 621 = .ok (.iload_n 3, 1) := by decide +kernel
theorem dL_law_622 : decode cL_law 622 = .ok (.iconst 3, 1) := by decide +kernel
theorem dL_law_623 : decode cL_law 623 = .ok (.iadd, 1) := by decide +kernel
theorem dL_law_624 : decode cL_law 624 = .ok (.iaload, 1) := by decide +kernel
theorem dL_law_625 : decode cL_law 625 = .ok (.invokevirtual 93, 3) := by decide +kernel
theorem dL_law_628 : decode cL_law 628 = .ok (.aload_n 2, 1) := by decide +kernel
theorem dL_law_629 : decode cL_law 629 = .ok (.aload_n 0, 1) := by decide +kernel
theorem dL_law_630 : decode cL_law 630 = .ok (.iload_n 3, 1) := by decide +kernel
theorem dL_law_631 : decode cL_law 631 = .ok (.iconst 1, 1) := by decide +kernel
theorem dL_law_632 : decode cL_law 632 = .ok (.iadd, 1) := by decide +kernel
theorem dL_law_633 : decode cL_law 633 = .ok (.iaload, 1) := by decide +kernel
theorem dL_law_634 : decode cL_law 634 = .ok (.aload_n 0, 1) := by decide +kernel
theorem dL_law_635 : decode cL_law 635 = .ok (.iload_n 3, 1) := by decide +kernel
theorem dL_law_636 : decode cL_law 636 = .ok (.iconst 2, 1) := by decide +kernel
theorem dL_law_637 : decode cL_law 637 = .ok (.iadd, 1) := by decide +kernel
theorem dL_law_638 : decode cL_law 638 = .ok (.iaload, 1) := by decide +kernel
theorem dL_law_639 : decode cL_law 639 = .ok (.aload_n 0, 1) := by decide +kernel
theorem dL_law_640 : decode cL_law 640 = .ok (.iload_n 3, 1) := by decide +kernel
theorem dL_law_641 : decode cL_law 641 = .ok (.iconst 3, 1) := by decide +kernel
theorem dL_law_642 : decode cL_law 642 = .ok (.iadd, 1) := by decide +kernel
theorem dL_law_643 : decode cL_law 643 = .ok (.iaload, 1) := by decide +kernel
theorem dL_law_644 : decode cL_law 644 = .ok (.invokevirtual 97, 3) := by decide +kernel
theorem dL_law_647 : decode cL_law 647 = .ok (.if_icmp .eq 133, 3) := by decide +kernel
theorem dL_law_650 : decode cL_law 650 = .ok (.iconst 0, 1) := by decide +kernel
theorem dL_law_651 : decode cL_law 651 = .ok (.ireturn, 1) := by decide +kernel
theorem dL_law_652 : decode cL_law 652 = .ok (.aload_n 1, 1) := by decide +kernel
theorem dL_law_653 : decode cL_law 653 = .ok (.aload_n 0, 1) := by decide +kernel
theorem dL_law_654 : decode cL_law 654 = .ok (.iload_n 3, 1) := by decide +kernel
theorem dL_law_655 : decode cL_law 655 = .ok (.iconst 1, 1) := by decide +kernel
theorem dL_law_656 : decode cL_law 656 = .ok (.iadd, 1) := by decide +kernel
theorem dL_law_657 : decode cL_law 657 = .ok (.iaload, 1) := by decide +kernel
theorem dL_law_658 : decode cL_law 658 = .ok (.invokevirtual 98, 3) := by decide +kernel
theorem dL_law_661 : decode cL_law 661 = .ok (.aload_n 2, 1) := by decide +kernel
theorem dL_law_662 : decode cL_law 662 = .ok (.aload_n 0, 1) := by decide +kernel
theorem dL_law_663 : decode cL_law 663 = .ok (.iload_n 3, 1) := by decide +kernel
theorem dL_law_664 : decode cL_law 664 = .ok (.iconst 1, 1) := by decide +kernel
theorem dL_law_665 : decode cL_law 665 = .ok (.iadd, 1) := by decide +kernel
theorem dL_law_666 : decode cL_law 666 = .ok (.iaload, 1) := by decide +kernel
theorem dL_law_667 : decode cL_law 667 = .ok (.invokevirtual 101, 3) := by decide +kernel
theorem dL_law_670 : decode cL_law 670 = .ok (.if_icmp .eq 110, 3) := by decide +kernel
theorem dL_law_673 : decode cL_law 673 = .ok (.iconst 0, 1) := by decide +kernel
theorem dL_law_674 : decode cL_law 674 = .ok (.ireturn, 1) := by decide +kernel
theorem dL_law_675 : decode cL_law 675 = .ok (.aload_n 1, 1) := by decide +kernel
theorem dL_law_676 : decode cL_law 676 = .ok (.invokevirtual 102, 3) := by decide +kernel
theorem dL_law_679 : decode cL_law 679 = .ok (.aload_n 2, 1) := by decide +kernel
theorem dL_law_680 : decode cL_law 680 = .ok (.invokevirtual 105, 3) := by decide +kernel
theorem dL_law_683 : decode cL_law 683 = .ok (.if_icmp .eq 97, 3) := by decide +kernel
theorem dL_law_686 : decode cL_law 686 = .ok (.iconst 0, 1) := by decide +kernel
theorem dL_law_687 : decode cL_law 687 = .ok (.ireturn, 1) := by decide +kernel
theorem dL_law_688 : decode cL_law 688 = .ok (.aload_n 1, 1) := by decide +kernel
theorem dL_law_689 : decode cL_law 689 = .ok (.aload_n 0, 1) := by decide +kernel
theorem dL_law_690 : decode cL_law 690 = .ok (.iload_n 3, 1) := by decide +kernel
theorem dL_law_691 : decode cL_law 691 = .ok (.iconst 1, 1) := by decide +kernel
theorem dL_law_692 : decode cL_law 692 = .ok (.iadd, 1) := by decide +kernel
theorem dL_law_693 : decode cL_law 693 = .ok (.iaload, 1) := by decide +kernel
theorem dL_law_694 : decode cL_law 694 = .ok (.aload_n 0, 1) := by decide +kernel
theorem dL_law_695 : decode cL_law 695 = .ok (.iload_n 3, 1) := by decide +kernel
theorem dL_law_696 : decode cL_law 696 = .ok (.iconst 2, 1) := by decide +kernel
theorem dL_law_697 : decode cL_law 697 = .ok (.iadd, 1) := by decide +kernel
theorem dL_law_698 : decode cL_law 698 = .ok (.iaload, 1) := by decide +kernel
theorem dL_law_699 : decode cL_law 699 = .ok (.aload_n 0, 1) := by decide +kernel
theorem dL_law_700 : decode cL_law 700 = .ok (.iload_n 3, 1) := by decide +kernel
theorem dL_law_701 : decode cL_law 701 = .ok (.iconst 3, 1) := by decide +kernel
theorem dL_law_702 : decode cL_law 702 = .ok (.iadd, 1) := by decide +kernel
theorem dL_law_703 : decode cL_law 703 = .ok (.iaload, 1) := by decide +kernel
theorem dL_law_704 : decode cL_law 704 = .ok (.invokevirtual 106, 3) := by decide +kernel
theorem dL_law_707 : decode cL_law 707 = .ok (.aload_n 2, 1) := by decide +kernel
theorem dL_law_708 : decode cL_law 708 = .ok (.aload_n 0, 1) := by decide +kernel
theorem dL_law_709 : decode cL_law 709 = .ok (.iload_n 3, 1) := by decide +kernel
theorem dL_law_710 : decode cL_law 710 = .ok (.iconst 1, 1) := by decide +kernel
theorem dL_law_711 : decode cL_law 711 = .ok (.iadd, 1) := by decide +kernel
theorem dL_law_712 : decode cL_law 712 = .ok (.iaload, 1) := by decide +kernel
theorem dL_law_713 : decode cL_law 713 = .ok (.aload_n 0, 1) := by decide +kernel
theorem dL_law_714 : decode cL_law 714 = .ok (.iload_n 3, 1) := by decide +kernel
theorem dL_law_715 : decode cL_law 715 = .ok (.iconst 2, 1) := by decide +kernel
theorem dL_law_716 : decode cL_law 716 = .ok (.iadd, 1) := by decide +kernel
theorem dL_law_717 : decode cL_law 717 = .ok (.iaload, 1) := by decide +kernel
theorem dL_law_718 : decode cL_law 718 = .ok (.aload_n 0, 1) := by decide +kernel
theorem dL_law_719 : decode cL_law 719 = .ok (.iload_n 3, 1) := by decide +kernel
theorem dL_law_720 : decode cL_law 720 = .ok (.iconst 3, 1) := by decide +kernel
theorem dL_law_721 : decode cL_law 721 = .ok (.iadd, 1) := by decide +kernel
theorem dL_law_722 : decode cL_law 722 = .ok (.iaload, 1) := by decide +kernel
theorem dL_law_723 : decode cL_law 723 = .ok (.invokevirtual 109, 3) := by decide +kernel
theorem dL_law_726 : decode cL_law 726 = .ok (.if_icmp .eq 54, 3) := by decide +kernel
theorem dL_law_729 : decode cL_law 729 = .ok (.iconst 0, 1) := by decide +kernel
theorem dL_law_730 : decode cL_law 730 = .ok (.ireturn, 1) := by decide +kernel
theorem dL_law_731 : decode cL_law 731 = .ok (.aload_n 1, 1) := by decide +kernel
theorem dL_law_732 : decode cL_law 732 = .ok (.invokevirtual 110, 3) := by decide +kernel
theorem dL_law_735 : decode cL_law 735 = .ok (.aload_n 2, 1) := by decide +kernel
theorem dL_law_736 : decode cL_law 736 = .ok (.invokevirtual 113, 3) := by decide +kernel
theorem dL_law_739 : decode cL_law 739 = .ok (.if_icmp .eq 41, 3) := by decide +kernel
theorem dL_law_742 : decode cL_law 742 = .ok (.iconst 0, 1) := by decide +kernel
theorem dL_law_743 : decode cL_law 743 = .ok (.ireturn, 1) := by decide +kernel
theorem dL_law_744 : decode cL_law 744 = .ok (.aload_n 1, 1) := by decide +kernel
theorem dL_law_745 : decode cL_law 745 = .ok (.invokevirtual 114, 3) := by decide +kernel
theorem dL_law_748 : decode cL_law 748 = .ok (.aload_n 2, 1) := by decide +kernel
theorem dL_law_749 : decode cL_law 749 = .ok (.invokevirtual 117, 3) := by decide +kernel
theorem dL_law_752 : decode cL_law 752 = .ok (.if_icmp .eq 28, 3) := by decide +kernel
theorem dL_law_755 : decode cL_law 755 = .ok (.iconst 0, 1) := by decide +kernel
theorem dL_law_756 : decode cL_law 756 = .ok (.ireturn, 1) := by decide +kernel
theorem dL_law_757 : decode cL_law 757 = .ok (.aload_n 1, 1) := by decide +kernel
theorem dL_law_758 : decode cL_law 758 = .ok (.aload_n 0, 1) := by decide +kernel
theorem dL_law_759 : decode cL_law 759 = .ok (.iload_n 3, 1) := by decide +kernel
theorem dL_law_760 : decode cL_law 760 = .ok (.iconst 1, 1) := by decide +kernel
theorem dL_law_761 : decode cL_law 761 = .ok (.iadd, 1) := by decide +kernel
theorem dL_law_762 : decode cL_law 762 = .ok (.iaload, 1) := by decide +kernel
theorem dL_law_763 : decode cL_law 763 = .ok (.invokevirtual 118, 3) := by decide +kernel
theorem dL_law_766 : decode cL_law 766 = .ok (.aload_n 2, 1) := by decide +kernel
theorem dL_law_767 : decode cL_law 767 = .ok (.aload_n 0, 1) := by decide +kernel
theorem dL_law_768 : decode cL_law 768 = .ok (.iload_n 3, 1) := by decide +kernel
theorem dL_law_769 : decode cL_law 769 = .ok (.iconst 1, 1) := by decide +kernel
theorem dL_law_770 : decode cL_law 770 = .ok (.iadd, 1) := by decide +kernel
theorem dL_law_771 : decode cL_law 771 = .ok (.iaload, 1) := by decide +kernel
theorem dL_law_772 : decode cL_law 772 = .ok (.invokevirtual 121, 3) := by decide +kernel
theorem dL_law_775 : decode cL_law 775 = .ok (.if_icmp .eq 5, 3) := by decide +kernel
theorem dL_law_778 : decode cL_law 778 = .ok (.iconst 0, 1) := by decide +kernel
theorem dL_law_779 : decode cL_law 779 = .ok (.ireturn, 1) := by decide +kernel
theorem dL_law_780 : decode cL_law 780 = .ok (.iinc 3 4, 3) := by decide +kernel
theorem dL_law_783 : decode cL_law 783 = .ok (.goto (-765), 3) := by decide +kernel
theorem dL_law_786 : decode cL_law 786 = .ok (.iconst 1, 1) := by decide +kernel
theorem dL_law_787 : decode cL_law 787 = .ok (.ireturn, 1) := by decide +kernel

theorem dL_cell_0 : decode cL_cell 0 = .ok (.iload_n 1, 1) := by decide +kernel
theorem dL_cell_1 : decode cL_cell 1 = .ok (.aload_n 0, 1) := by decide +kernel
theorem dL_cell_2 : decode cL_cell 2 = .ok (.arraylength, 1) := by decide +kernel
theorem dL_cell_3 : decode cL_cell 3 = .ok (.if_icmp .ge 9, 3) := by decide +kernel
theorem dL_cell_6 : decode cL_cell 6 = .ok (.aload_n 0, 1) := by decide +kernel
theorem dL_cell_7 : decode cL_cell 7 = .ok (.iload_n 1, 1) := by decide +kernel
theorem dL_cell_8 : decode cL_cell 8 = .ok (.iaload, 1) := by decide +kernel
theorem dL_cell_9 : decode cL_cell 9 = .ok (.goto 15, 3) := by decide +kernel
theorem dL_cell_12 : decode cL_cell 12 = .ok (.sipush 7919, 3) := by decide +kernel
theorem dL_cell_15 : decode cL_cell 15 = .ok (.iload_n 1, 1) := by decide +kernel
theorem dL_cell_16 : decode cL_cell 16 = .ok (.iconst 3, 1) := by decide +kernel
theorem dL_cell_17 : decode cL_cell 17 = .ok (.iadd, 1) := by decide +kernel
theorem dL_cell_18 : decode cL_cell 18 = .ok (.imul, 1) := by decide +kernel
theorem dL_cell_19 : decode cL_cell 19 = .ok (.iload_n 1, 1) := by decide +kernel
theorem dL_cell_20 : decode cL_cell 20 = .ok (.bipush 11, 2) := by decide +kernel
theorem dL_cell_22 : decode cL_cell 22 = .ok (.iadd, 1) := by decide +kernel
theorem dL_cell_23 : decode cL_cell 23 = .ok (.imul, 1) := by decide +kernel
theorem dL_cell_24 : decode cL_cell 24 = .ok (.ireturn, 1) := by decide +kernel
theorem dL_low_0 : decode cL_low 0 = .ok (.iload_n 0, 1) := by decide +kernel
theorem dL_low_1 : decode cL_low 1 = .ok (.ldc 7, 2) := by decide +kernel
theorem dL_low_3 : decode cL_low 3 = .ok (.iand, 1) := by decide +kernel
theorem dL_low_4 : decode cL_low 4 = .ok (.iload_n 1, 1) := by decide +kernel
theorem dL_low_5 : decode cL_low 5 = .ok (.irem, 1) := by decide +kernel
theorem dL_low_6 : decode cL_low 6 = .ok (.ireturn, 1) := by decide +kernel
theorem dL_digest_0 : decode cL_digest 0 = .ok (.ldc2_w 8, 3) := by decide +kernel
theorem dL_digest_3 : decode cL_digest 3 = .ok (.aload_n 0, 1) := by decide +kernel
theorem dL_digest_4 : decode cL_digest 4 = .ok (.invokevirtual 10, 3) := by decide +kernel
theorem dL_digest_7 : decode cL_digest 7 = .ok (.ldc 16, 2) := by decide +kernel
theorem dL_digest_9 : decode cL_digest 9 = .ok (.fmul, 1) := by decide +kernel
theorem dL_digest_10 : decode cL_digest 10 = .ok (.f2i, 1) := by decide +kernel
theorem dL_digest_11 : decode cL_digest 11 = .ok (.i2l, 1) := by decide +kernel
theorem dL_digest_12 : decode cL_digest 12 = .ok (.ladd, 1) := by decide +kernel
theorem dL_digest_13 : decode cL_digest 13 = .ok (.lstore_n 1, 1) := by decide +kernel
theorem dL_digest_14 : decode cL_digest 14 = .ok (.iconst 0, 1) := by decide +kernel
theorem dL_digest_15 : decode cL_digest 15 = .ok (.istore_n 3, 1) := by decide +kernel
theorem dL_digest_16 : decode cL_digest 16 = .ok (.iload_n 3, 1) := by decide +kernel
theorem dL_digest_17 : decode cL_digest 17 = .ok (.bipush 12, 2) := by decide +kernel
theorem dL_digest_19 : decode cL_digest 19 = .ok (.if_icmp .ge 22, 3) := by decide +kernel
theorem dL_digest_22 : decode cL_digest 22 = .ok (.ldc2_w 17, 3) := by decide +kernel
theorem dL_digest_25 : decode cL_digest 25 = .ok (.lload_n 1, 1) := by decide +kernel
theorem dL_digest_26 : decode cL_digest 26 = .ok (.lmul, 1) := by decide +kernel
theorem dL_digest_27 : decode cL_digest 27 = .ok (.aload_n 0, 1) := by decide +kernel
theorem dL_digest_28 : decode cL_digest 28 = .ok (.iload_n 3, 1) := by decide +kernel
theorem dL_digest_29 : decode cL_digest 29 = .ok (.invokevirtual 19, 3) := by decide +kernel
theorem dL_digest_32 : decode cL_digest 32 = .ok (.i2l, 1) := by decide +kernel
theorem dL_digest_33 : decode cL_digest 33 = .ok (.ladd, 1) := by decide +kernel
theorem dL_digest_34 : decode cL_digest 34 = .ok (.lstore_n 1, 1) := by decide +kernel
theorem dL_digest_35 : decode cL_digest 35 = .ok (.iinc 3 1, 3) := by decide +kernel
theorem dL_digest_38 : decode cL_digest 38 = .ok (.goto (-22), 3) := by decide +kernel
theorem dL_digest_41 : decode cL_digest 41 = .ok (.iconst 0, 1) := by decide +kernel
theorem dL_digest_42 : decode cL_digest 42 = .ok (.istore_n 3, 1) := by decide +kernel
theorem dL_digest_43 : decode cL_digest 43 = .ok (.iload_n 3, 1) := by decide +kernel
theorem dL_digest_44 : decode cL_digest 44 = .ok (.aload_n 0, 1) := by decide +kernel
theorem dL_digest_45 : decode cL_digest 45 = .ok (.iconst 1, 1) := by decide +kernel
theorem dL_digest_46 : decode cL_digest 46 = .ok (.invokevirtual 19, 3) := by decide +kernel
theorem dL_digest_49 : decode cL_digest 49 = .ok (.if_icmp .ge 71, 3) := by decide +kernel
theorem dL_digest_52 : decode cL_digest 52 = .ok (.iconst 0, 1) := by decide +kernel
theorem dL_digest_53 : decode cL_digest 53 = .ok (.istore 4, 2) := by decide +kernel
theorem dL_digest_55 : decode cL_digest 55 = .ok (.iload 4, 2) := by decide +kernel
theorem dL_digest_57 : decode cL_digest 57 = .ok (.bipush 10, 2) := by decide +kernel
theorem dL_digest_59 : decode cL_digest 59 = .ok (.if_icmp .ge 24, 3) := by decide +kernel
theorem dL_digest_62 : decode cL_digest 62 = .ok (.ldc2_w 17, 3) := by decide +kernel
theorem dL_digest_65 : decode cL_digest 65 = .ok (.lload_n 1, 1) := by decide +kernel
theorem dL_digest_66 : decode cL_digest 66 = .ok (.lmul, 1) := by decide +kernel
theorem dL_digest_67 : decode cL_digest 67 = .ok (.aload_n 0, 1) := by decide +kernel
theorem dL_digest_68 : decode cL_digest 68 = .ok (.iload_n 3, 1) := by decide +kernel
theorem dL_digest_69 : decode cL_digest 69 = .ok (.iload 4, 2) := by decide +kernel
theorem dL_digest_71 : decode cL_digest 71 = .ok (.invokevirtual 23, 3) := by decide +kernel
theorem dL_digest_74 : decode cL_digest 74 = .ok (.i2l, 1) := by decide +kernel
theorem dL_digest_75 : decode cL_digest 75 = .ok (.ladd, 1) := by decide +kernel
theorem dL_digest_76 : decode cL_digest 76 = .ok (.lstore_n 1, 1) := by decide +kernel
theorem dL_digest_77 : decode cL_digest 77 = .ok (.iinc 4 1, 3) := by decide +kernel
theorem dL_digest_80 : decode cL_digest 80 = .ok (.goto (-25), 3) := by decide +kernel
theorem dL_digest_83 : decode cL_digest 83 = .ok (.iconst 0, 1) := by decide +kernel
theorem dL_digest_84 : decode cL_digest 84 = .ok (.istore 4, 2) := by decide +kernel
theorem dL_digest_86 : decode cL_digest 86 = .ok (.iload 4, 2) := by decide +kernel
theorem dL_digest_88 : decode cL_digest 88 = .ok (.bipush 6, 2) := by decide +kernel
theorem dL_digest_90 : decode cL_digest 90 = .ok (.if_icmp .ge 24, 3) := by decide +kernel
theorem dL_digest_93 : decode cL_digest 93 = .ok (.ldc2_w 17, 3) := by decide +kernel
theorem dL_digest_96 : decode cL_digest 96 = .ok (.lload_n 1, 1) := by decide +kernel
theorem dL_digest_97 : decode cL_digest 97 = .ok (.lmul, 1) := by decide +kernel
theorem dL_digest_98 : decode cL_digest 98 = .ok (.aload_n 0, 1) := by decide +kernel
theorem dL_digest_99 : decode cL_digest 99 = .ok (.iload_n 3, 1) := by decide +kernel
theorem dL_digest_100 : decode cL_digest 100 = .ok (.iload 4, 2) := by decide +kernel
theorem dL_digest_102 : decode cL_digest 102 = .ok (.invokevirtual 27, 3) := by decide +kernel
theorem dL_digest_105 : decode cL_digest 105 = .ok (.i2l, 1) := by decide +kernel
theorem dL_digest_106 : decode cL_digest 106 = .ok (.ladd, 1) := by decide +kernel
theorem dL_digest_107 : decode cL_digest 107 = .ok (.lstore_n 1, 1) := by decide +kernel
theorem dL_digest_108 : decode cL_digest 108 = .ok (.iinc 4 1, 3) := by decide +kernel
theorem dL_digest_111 : decode cL_digest 111 = .ok (.goto (-25), 3) := by decide +kernel
theorem dL_digest_114 : decode cL_digest 114 = .ok (.iinc 3 1, 3) := by decide +kernel
theorem dL_digest_117 : decode cL_digest 117 = .ok (.goto (-74), 3) := by decide +kernel
theorem dL_digest_120 : decode cL_digest 120 = .ok (.iconst 0, 1) := by decide +kernel
theorem dL_digest_121 : decode cL_digest 121 = .ok (.istore_n 3, 1) := by decide +kernel
theorem dL_digest_122 : decode cL_digest 122 = .ok (.iload_n 3, 1) := by decide +kernel
theorem dL_digest_123 : decode cL_digest 123 = .ok (.aload_n 0, 1) := by decide +kernel
theorem dL_digest_124 : decode cL_digest 124 = .ok (.bipush 6, 2) := by decide +kernel
theorem dL_digest_126 : decode cL_digest 126 = .ok (.invokevirtual 19, 3) := by decide +kernel
theorem dL_digest_129 : decode cL_digest 129 = .ok (.if_icmp .ge 68, 3) := by decide +kernel
theorem dL_digest_132 : decode cL_digest 132 = .ok (.iconst 0, 1) := by decide +kernel
theorem dL_digest_133 : decode cL_digest 133 = .ok (.istore 4, 2) := by decide +kernel
theorem dL_digest_135 : decode cL_digest 135 = .ok (.iload 4, 2) := by decide +kernel
theorem dL_digest_137 : decode cL_digest 137 = .ok (.bipush 11, 2) := by decide +kernel
theorem dL_digest_139 : decode cL_digest 139 = .ok (.if_icmp .ge 24, 3) := by decide +kernel
theorem dL_digest_142 : decode cL_digest 142 = .ok (.ldc2_w 17, 3) := by decide +kernel
theorem dL_digest_145 : decode cL_digest 145 = .ok (.lload_n 1, 1) := by decide +kernel
theorem dL_digest_146 : decode cL_digest 146 = .ok (.lmul, 1) := by decide +kernel
theorem dL_digest_147 : decode cL_digest 147 = .ok (.aload_n 0, 1) := by decide +kernel
theorem dL_digest_148 : decode cL_digest 148 = .ok (.iload_n 3, 1) := by decide +kernel
theorem dL_digest_149 : decode cL_digest 149 = .ok (.iload 4, 2) := by decide +kernel
theorem dL_digest_151 : decode cL_digest 151 = .ok (.invokevirtual 30, 3) := by decide +kernel
theorem dL_digest_154 : decode cL_digest 154 = .ok (.i2l, 1) := by decide +kernel
theorem dL_digest_155 : decode cL_digest 155 = .ok (.ladd, 1) := by decide +kernel
theorem dL_digest_156 : decode cL_digest 156 = .ok (.lstore_n 1, 1) := by decide +kernel
theorem dL_digest_157 : decode cL_digest 157 = .ok (.iinc 4 1, 3) := by decide +kernel
theorem dL_digest_160 : decode cL_digest 160 = .ok (.goto (-25), 3) := by decide +kernel
theorem dL_digest_163 : decode cL_digest 163 = .ok (.ldc2_w 17, 3) := by decide +kernel
theorem dL_digest_166 : decode cL_digest 166 = .ok (.ldc2_w 17, 3) := by decide +kernel
theorem dL_digest_169 : decode cL_digest 169 = .ok (.lload_n 1, 1) := by decide +kernel
theorem dL_digest_170 : decode cL_digest 170 = .ok (.lmul, 1) := by decide +kernel
theorem dL_digest_171 : decode cL_digest 171 = .ok (.aload_n 0, 1) := by decide +kernel
theorem dL_digest_172 : decode cL_digest 172 = .ok (.iload_n 3, 1) := by decide +kernel
theorem dL_digest_173 : decode cL_digest 173 = .ok (.invokevirtual 33, 3) := by decide +kernel
theorem dL_digest_176 : decode cL_digest 176 = .ok (.ldc 37, 2) := by decide +kernel
theorem dL_digest_178 : decode cL_digest 178 = .ok (.fmul, 1) := by decide +kernel
theorem dL_digest_179 : decode cL_digest 179 = .ok (.f2i, 1) := by decide +kernel
theorem dL_digest_180 : decode cL_digest 180 = .ok (.i2l, 1) := by decide +kernel
theorem dL_digest_181 : decode cL_digest 181 = .ok (.ladd, 1) := by decide +kernel
theorem dL_digest_182 : decode cL_digest 182 = .ok (.lmul, 1) := by decide +kernel
theorem dL_digest_183 : decode cL_digest 183 = .ok (.aload_n 0, 1) := by decide +kernel
theorem dL_digest_184 : decode cL_digest 184 = .ok (.iload_n 3, 1) := by decide +kernel
theorem dL_digest_185 : decode cL_digest 185 = .ok (.invokevirtual 38, 3) := by decide +kernel
theorem dL_digest_188 : decode cL_digest 188 = .ok (.i2l, 1) := by decide +kernel
theorem dL_digest_189 : decode cL_digest 189 = .ok (.ladd, 1) := by decide +kernel
theorem dL_digest_190 : decode cL_digest 190 = .ok (.lstore_n 1, 1) := by decide +kernel
theorem dL_digest_191 : decode cL_digest 191 = .ok (.iinc 3 1, 3) := by decide +kernel
theorem dL_digest_194 : decode cL_digest 194 = .ok (.goto (-72), 3) := by decide +kernel
theorem dL_digest_197 : decode cL_digest 197 = .ok (.lload_n 1, 1) := by decide +kernel
theorem dL_digest_198 : decode cL_digest 198 = .ok (.lreturn, 1) := by decide +kernel
theorem dL_act_0 : decode cL_act 0 = .ok (.iload_n 1, 1) := by decide +kernel
theorem dL_act_1 : decode cL_act 1 = .ok (.iconst 4, 1) := by decide +kernel
theorem dL_act_2 : decode cL_act 2 = .ok (.ishr, 1) := by decide +kernel
theorem dL_act_3 : decode cL_act 3 = .ok (.aload_n 0, 1) := by decide +kernel
theorem dL_act_4 : decode cL_act 4 = .ok (.iconst 1, 1) := by decide +kernel
theorem dL_act_5 : decode cL_act 5 = .ok (.invokevirtual 19, 3) := by decide +kernel
theorem dL_act_8 : decode cL_act 8 = .ok (.iconst 1, 1) := by decide +kernel
theorem dL_act_9 : decode cL_act 9 = .ok (.iadd, 1) := by decide +kernel
theorem dL_act_10 : decode cL_act 10 = .ok (.invokestatic 41, 3) := by decide +kernel
theorem dL_act_13 : decode cL_act 13 = .ok (.istore_n 3, 1) := by decide +kernel
theorem dL_act_14 : decode cL_act 14 = .ok (.iload_n 1, 1) := by decide +kernel
theorem dL_act_15 : decode cL_act 15 = .ok (.iconst 4, 1) := by decide +kernel
theorem dL_act_16 : decode cL_act 16 = .ok (.ishr, 1) := by decide +kernel
theorem dL_act_17 : decode cL_act 17 = .ok (.aload_n 0, 1) := by decide +kernel
theorem dL_act_18 : decode cL_act 18 = .ok (.bipush 6, 2) := by decide +kernel
theorem dL_act_20 : decode cL_act 20 = .ok (.invokevirtual 19, 3) := by decide +kernel
theorem dL_act_23 : decode cL_act 23 = .ok (.iconst 1, 1) := by decide +kernel
theorem dL_act_24 : decode cL_act 24 = .ok (.iadd, 1) := by decide +kernel
theorem dL_act_25 : decode cL_act 25 = .ok (.invokestatic 41, 3) := by decide +kernel
theorem dL_act_28 : decode cL_act 28 = .ok (.istore 4, 2) := by decide +kernel
theorem dL_act_30 : decode cL_act 30 = .ok (.iload_n 1, 1) := by decide +kernel
theorem dL_act_31 : decode cL_act 31 = .ok (.bipush 15, 2) := by decide +kernel
theorem dL_act_33 : decode cL_act 33 = .ok (.iand, 1) := by decide +kernel
theorem dL_act_34 : decode cL_act 34 = .ok (.tableswitch 314 0 14 #[74, 89, 89, 141, 153, 159, 172, 172, 200, 212, 218, 218, 236, 257, 309], 74) := by decide +kernel
theorem dL_act_108 : decode cL_act 108 = .ok (.aload_n 0, 1) := by decide +kernel
theorem dL_act_109 : decode cL_act 109 = .ok (.sipush 900, 3) := by decide +kernel
theorem dL_act_112 : decode cL_act 112 = .ok (.iload_n 2, 1) := by decide +kernel
theorem dL_act_113 : decode cL_act 113 = .ok (.ldc 46, 2) := by decide +kernel
theorem dL_act_115 : decode cL_act 115 = .ok (.invokestatic 41, 3) := by decide +kernel
theorem dL_act_118 : decode cL_act 118 = .ok (.iadd, 1) := by decide +kernel
theorem dL_act_119 : decode cL_act 119 = .ok (.invokevirtual 47, 3) := by decide +kernel
theorem dL_act_122 : decode cL_act 122 = .ok (.ireturn, 1) := by decide +kernel
theorem dL_act_123 : decode cL_act 123 = .ok (.aload_n 0, 1) := by decide +kernel
theorem dL_act_124 : decode cL_act 124 = .ok (.aload_n 0, 1) := by decide +kernel
theorem dL_act_125 : decode cL_act 125 = .ok (.iconst 1, 1) := by decide +kernel
theorem dL_act_126 : decode cL_act 126 = .ok (.invokevirtual 19, 3) := by decide +kernel
theorem dL_act_129 : decode cL_act 129 = .ok (.iconst 1, 1) := by decide +kernel
theorem dL_act_130 : decode cL_act 130 = .ok (.isub, 1) := by decide +kernel
theorem dL_act_131 : decode cL_act 131 = .ok (.bipush 90, 2) := by decide +kernel
theorem dL_act_133 : decode cL_act 133 = .ok (.iload_n 2, 1) := by decide +kernel
theorem dL_act_134 : decode cL_act 134 = .ok (.ldc 46, 2) := by decide +kernel
theorem dL_act_136 : decode cL_act 136 = .ok (.invokestatic 41, 3) := by decide +kernel
theorem dL_act_139 : decode cL_act 139 = .ok (.iadd, 1) := by decide +kernel
theorem dL_act_140 : decode cL_act 140 = .ok (.bipush 30, 2) := by decide +kernel
theorem dL_act_142 : decode cL_act 142 = .ok (.iload_n 2, 1) := by decide +kernel
theorem dL_act_143 : decode cL_act 143 = .ok (.iconst 3, 1) := by decide +kernel
theorem dL_act_144 : decode cL_act 144 = .ok (.ishr, 1) := by decide +kernel
theorem dL_act_145 : decode cL_act 145 = .ok (.sipush 3000, 3) := by decide +kernel
theorem dL_act_148 : decode cL_act 148 = .ok (.invokestatic 41, 3) := by decide +kernel
theorem dL_act_151 : decode cL_act 151 = .ok (.iadd, 1) := by decide +kernel
theorem dL_act_152 : decode cL_act 152 = .ok (.iload_n 2, 1) := by decide +kernel
theorem dL_act_153 : decode cL_act 153 = .ok (.bipush 7, 2) := by decide +kernel
theorem dL_act_155 : decode cL_act 155 = .ok (.ishr, 1) := by decide +kernel
theorem dL_act_156 : decode cL_act 156 = .ok (.sipush 2000, 3) := by decide +kernel
theorem dL_act_159 : decode cL_act 159 = .ok (.invokestatic 41, 3) := by decide +kernel
theorem dL_act_162 : decode cL_act 162 = .ok (.iload_n 2, 1) := by decide +kernel
theorem dL_act_163 : decode cL_act 163 = .ok (.bipush 11, 2) := by decide +kernel
theorem dL_act_165 : decode cL_act 165 = .ok (.ishr, 1) := by decide +kernel
theorem dL_act_166 : decode cL_act 166 = .ok (.bipush 103, 2) := by decide +kernel
theorem dL_act_168 : decode cL_act 168 = .ok (.invokestatic 41, 3) := by decide +kernel
theorem dL_act_171 : decode cL_act 171 = .ok (.invokevirtual 50, 3) := by decide +kernel
theorem dL_act_174 : decode cL_act 174 = .ok (.ireturn, 1) := by decide +kernel
theorem dL_act_175 : decode cL_act 175 = .ok (.aload_n 0, 1) := by decide +kernel
theorem dL_act_176 : decode cL_act 176 = .ok (.iload_n 2, 1) := by decide +kernel
theorem dL_act_177 : decode cL_act 177 = .ok (.sipush 300, 3) := by decide +kernel
theorem dL_act_180 : decode cL_act 180 = .ok (.invokestatic 41, 3) := by decide +kernel
theorem dL_act_183 : decode cL_act 183 = .ok (.invokevirtual 54, 3) := by decide +kernel
theorem dL_act_186 : decode cL_act 186 = .ok (.ireturn, 1) := by decide +kernel
theorem dL_act_187 : decode cL_act 187 = .ok (.aload_n 0, 1) := by decide +kernel
theorem dL_act_188 : decode cL_act 188 = .ok (.iload_n 3, 1) := by decide +kernel
theorem dL_act_189 : decode cL_act 189 = .ok (.invokevirtual 57, 3) := by decide +kernel
theorem dL_act_192 : decode cL_act 192 = .ok (.ireturn, 1) := by decide +kernel
theorem dL_act_193 : decode cL_act 193 = .ok (.aload_n 0, 1) := by decide +kernel
theorem dL_act_194 : decode cL_act 194 = .ok (.iload 4, 2) := by decide +kernel
theorem dL_act_196 : decode cL_act 196 = .ok (.iload_n 2, 1) := by decide +kernel
theorem dL_act_197 : decode cL_act 197 = .ok (.bipush 102, 2) := by decide +kernel
theorem dL_act_199 : decode cL_act 199 = .ok (.invokestatic 41, 3) := by decide +kernel
theorem dL_act_202 : decode cL_act 202 = .ok (.invokevirtual 60, 3) := by decide +kernel
theorem dL_act_205 : decode cL_act 205 = .ok (.ireturn, 1) := by decide +kernel
theorem dL_act_206 : decode cL_act 206 = .ok (.aload_n 0, 1) := by decide +kernel
theorem dL_act_207 : decode cL_act 207 = .ok (.iload 4, 2) := by decide +kernel
theorem dL_act_209 : decode cL_act 209 = .ok (.iload_n 2, 1) := by decide +kernel
theorem dL_act_210 : decode cL_act 210 = .ok (.iload_n 2, 1) := by decide +kernel
theorem dL_act_211 : decode cL_act 211 = .ok (.bipush 20, 2) := by decide +kernel
theorem dL_act_213 : decode cL_act 213 = .ok (.ishr, 1) := by decide +kernel
theorem dL_act_214 : decode cL_act 214 = .ok (.iconst 1, 1) := by decide +kernel
theorem dL_act_215 : decode cL_act 215 = .ok (.iand, 1) := by decide +kernel
theorem dL_act_216 : decode cL_act 216 = .ok (.ifCond .ne 9, 3) := by decide +kernel
theorem dL_act_219 : decode cL_act 219 = .ok (.sipush 5000, 3) := by decide +kernel
theorem dL_act_222 : decode cL_act 222 = .ok (.goto 5, 3) := by decide +kernel
theorem dL_act_225 : decode cL_act 225 = .ok (.ldc 46, 2) := by decide +kernel
theorem dL_act_227 : decode cL_act 227 = .ok (.invokestatic 41, 3) := by decide +kernel
theorem dL_act_230 : decode cL_act 230 = .ok (.invokevirtual 63, 3) := by decide +kernel
theorem dL_act_233 : decode cL_act 233 = .ok (.ireturn, 1) := by decide +kernel
theorem dL_act_234 : decode cL_act 234 = .ok (.aload_n 0, 1) := by decide +kernel
theorem dL_act_235 : decode cL_act 235 = .ok (.iload_n 3, 1) := by decide +kernel
theorem dL_act_236 : decode cL_act 236 = .ok (.iload_n 2, 1) := by decide +kernel
theorem dL_act_237 : decode cL_act 237 = .ok (.ldc 66, 2) := by decide +kernel
theorem dL_act_239 : decode cL_act 239 = .ok (.invokestatic 41, 3) := by decide +kernel
theorem dL_act_242 : decode cL_act 242 = .ok (.invokevirtual 67, 3) := by decide +kernel
theorem dL_act_245 : decode cL_act 245 = .ok (.ireturn, 1) := by decide +kernel
theorem dL_act_246 : decode cL_act 246 = .ok (.aload_n 0, 1) := by decide +kernel
theorem dL_act_247 : decode cL_act 247 = .ok (.iload_n 3, 1) := by decide +kernel
theorem dL_act_248 : decode cL_act 248 = .ok (.invokevirtual 70, 3) := by decide +kernel
theorem dL_act_251 : decode cL_act 251 = .ok (.ireturn, 1) := by decide +kernel
theorem dL_act_252 : decode cL_act 252 = .ok (.aload_n 0, 1) := by decide +kernel
theorem dL_act_253 : decode cL_act 253 = .ok (.iload 4, 2) := by decide +kernel
theorem dL_act_255 : decode cL_act 255 = .ok (.iload_n 2, 1) := by decide +kernel
theorem dL_act_256 : decode cL_act 256 = .ok (.iconst 3, 1) := by decide +kernel
theorem dL_act_257 : decode cL_act 257 = .ok (.iand, 1) := by decide +kernel
theorem dL_act_258 : decode cL_act 258 = .ok (.ifCond .ne 7, 3) := by decide +kernel
theorem dL_act_261 : decode cL_act 261 = .ok (.iconst 1, 1) := by decide +kernel
theorem dL_act_262 : decode cL_act 262 = .ok (.goto 4, 3) := by decide +kernel
theorem dL_act_265 : decode cL_act 265 = .ok (.iconst 0, 1) := by decide +kernel
theorem dL_act_266 : decode cL_act 266 = .ok (.invokevirtual 73, 3) := by decide +kernel
theorem dL_act_269 : decode cL_act 269 = .ok (.ireturn, 1) := by decide +kernel
theorem dL_act_270 : decode cL_act 270 = .ok (.aload_n 0, 1) := by decide +kernel
theorem dL_act_271 : decode cL_act 271 = .ok (.iload 4, 2) := by decide +kernel
theorem dL_act_273 : decode cL_act 273 = .ok (.iload_n 2, 1) := by decide +kernel
theorem dL_act_274 : decode cL_act 274 = .ok (.bipush 12, 2) := by decide +kernel
theorem dL_act_276 : decode cL_act 276 = .ok (.invokestatic 41, 3) := by decide +kernel
theorem dL_act_279 : decode cL_act 279 = .ok (.iload_n 2, 1) := by decide +kernel
theorem dL_act_280 : decode cL_act 280 = .ok (.iconst 4, 1) := by decide +kernel
theorem dL_act_281 : decode cL_act 281 = .ok (.ishr, 1) := by decide +kernel
theorem dL_act_282 : decode cL_act 282 = .ok (.bipush 11, 2) := by decide +kernel
theorem dL_act_284 : decode cL_act 284 = .ok (.invokestatic 41, 3) := by decide +kernel
theorem dL_act_287 : decode cL_act 287 = .ok (.invokevirtual 77, 3) := by decide +kernel
theorem dL_act_290 : decode cL_act 290 = .ok (.ireturn, 1) := by decide +kernel
theorem dL_act_291 : decode cL_act 291 = .ok (.iload_n 2, 1) := by decide +kernel
theorem dL_act_292 : decode cL_act 292 = .ok (.iconst 1, 1) := by decide +kernel
theorem dL_act_293 : decode cL_act 293 = .ok (.iand, 1) := by decide +kernel
theorem dL_act_294 : decode cL_act 294 = .ok (.ifCond .ne 18, 3) := by decide +kernel
theorem dL_act_297 : decode cL_act 297 = .ok (.aload_n 0, 1) := by decide +kernel
theorem dL_act_298 : decode cL_act 298 = .ok (.iload_n 2, 1) := by decide +kernel
theorem dL_act_299 : decode cL_act 299 = .ok (.iconst 1, 1) := by decide +kernel
theorem dL_act_300 : decode cL_act 300 = .ok (.ishr, 1) := by decide +kernel
theorem dL_act_301 : decode cL_act 301 = .ok (.ldc 81, 2) := by decide +kernel
theorem dL_act_303 : decode cL_act 303 = .ok (.invokestatic 41, 3) := by decide +kernel
theorem dL_act_306 : decode cL_act 306 = .ok (.invokevirtual 82, 3) := by decide +kernel
theorem dL_act_309 : decode cL_act 309 = .ok (.goto 33, 3) := by decide +kernel
theorem dL_act_312 : decode cL_act 312 = .ok (.aload_n 0, 1) := by decide +kernel
theorem dL_act_313 : decode cL_act 313 = .ok (.iload_n 2, 1) := by decide +kernel
theorem dL_act_314 : decode cL_act 314 = .ok (.iconst 1, 1) := by decide +kernel
theorem dL_act_315 : decode cL_act 315 = .ok (.ishr, 1) := by decide +kernel
theorem dL_act_316 : decode cL_act 316 = .ok (.iconst 3, 1) := by decide +kernel
theorem dL_act_317 : decode cL_act 317 = .ok (.iand, 1) := by decide +kernel
theorem dL_act_318 : decode cL_act 318 = .ok (.ifCond .ne 7, 3) := by decide +kernel
theorem dL_act_321 : decode cL_act 321 = .ok (.iload_n 2, 1) := by decide +kernel
theorem dL_act_322 : decode cL_act 322 = .ok (.goto 17, 3) := by decide +kernel
theorem dL_act_325 : decode cL_act 325 = .ok (.ldc 85, 2) := by decide +kernel
theorem dL_act_327 : decode cL_act 327 = .ok (.iload_n 2, 1) := by decide +kernel
theorem dL_act_328 : decode cL_act 328 = .ok (.iconst 3, 1) := by decide +kernel
theorem dL_act_329 : decode cL_act 329 = .ok (.ishr, 1) := by decide +kernel
theorem dL_act_330 : decode cL_act 330 = .ok (.bipush 50, 2) := by decide +kernel
theorem dL_act_332 : decode cL_act 332 = .ok (.invokestatic 41, 3) := by decide +kernel
theorem dL_act_335 : decode cL_act 335 = .ok (.bipush 19, 2) := by decide +kernel
theorem dL_act_337 : decode cL_act 337 = .ok (.ishl, 1) := by decide +kernel
theorem dL_act_338 : decode cL_act 338 = .ok (.isub, 1) := by decide +kernel
theorem dL_act_339 : decode cL_act 339 = .ok (.invokevirtual 86, 3) := by decide +kernel
theorem dL_act_342 : decode cL_act 342 = .ok (.ireturn, 1) := by decide +kernel
theorem dL_act_343 : decode cL_act 343 = .ok (.aload_n 0, 1) := by decide +kernel
theorem dL_act_344 : decode cL_act 344 = .ok (.invokevirtual 89, 3) := by decide +kernel
theorem dL_act_347 : decode cL_act 347 = .ok (.ireturn, 1) := by decide +kernel
theorem dL_act_348 : decode cL_act 348 = .ok (.aload_n 0, 1) := by decide +kernel
theorem dL_act_349 : decode cL_act 349 = .ok (.iload_n 3, 1) := by decide +kernel
theorem dL_act_350 : decode cL_act 350 = .ok (.invokevirtual 93, 3) := by decide +kernel
theorem dL_act_353 : decode cL_act 353 = .ok (.ireturn, 1) := by decide +kernel
theorem dL_holds_0 : decode cL_holds 0 = .ok (.iconst 0, 1) := by decide +kernel
theorem dL_holds_1 : decode cL_holds 1 = .ok (.istore_n 1, 1) := by decide +kernel
theorem dL_holds_2 : decode cL_holds 2 = .ok (.iconst 0, 1) := by decide +kernel
theorem dL_holds_3 : decode cL_holds 3 = .ok (.istore_n 2, 1) := by decide +kernel
theorem dL_holds_4 : decode cL_holds 4 = .ok (.iconst 0, 1) := by decide +kernel
theorem dL_holds_5 : decode cL_holds 5 = .ok (.istore_n 3, 1) := by decide +kernel
theorem dL_holds_6 : decode cL_holds 6 = .ok (.iconst 0, 1) := by decide +kernel
theorem dL_holds_7 : decode cL_holds 7 = .ok (.istore 4, 2) := by decide +kernel
theorem dL_holds_9 : decode cL_holds 9 = .ok (.iconst 0, 1) := by decide +kernel
theorem dL_holds_10 : decode cL_holds 10 = .ok (.istore 5, 2) := by decide +kernel
theorem dL_holds_12 : decode cL_holds 12 = .ok (.iconst 0, 1) := by decide +kernel
theorem dL_holds_13 : decode cL_holds 13 = .ok (.istore 6, 2) := by decide +kernel
theorem dL_holds_15 : decode cL_holds 15 = .ok (.iload 6, 2) := by decide +kernel
theorem dL_holds_17 : decode cL_holds 17 = .ok (.aload_n 0, 1) := by decide +kernel
theorem dL_holds_18 : decode cL_holds 18 = .ok (.iconst 1, 1) := by decide +kernel
theorem dL_holds_19 : decode cL_holds 19 = .ok (.invokevirtual 19, 3) := by decide +kernel
theorem dL_holds_22 : decode cL_holds 22 = .ok (.if_icmp .ge 293, 3) := by decide +kernel
theorem dL_holds_25 : decode cL_holds 25 = .ok (.aload_n 0, 1) := by decide +kernel
theorem dL_holds_26 : decode cL_holds 26 = .ok (.iload 6, 2) := by decide +kernel
theorem dL_holds_28 : decode cL_holds 28 = .ok (.iconst 2, 1) := by decide +kernel
theorem dL_holds_29 : decode cL_holds 29 = .ok (.invokevirtual 23, 3) := by decide +kernel
theorem dL_holds_32 : decode cL_holds 32 = .ok (.istore 7, 2) := by decide +kernel
theorem dL_holds_34 : decode cL_holds 34 = .ok (.iload 5, 2) := by decide +kernel
theorem dL_holds_36 : decode cL_holds 36 = .ok (.iload 7, 2) := by decide +kernel
theorem dL_holds_38 : decode cL_holds 38 = .ok (.iadd, 1) := by decide +kernel
theorem dL_holds_39 : decode cL_holds 39 = .ok (.istore 5, 2) := by decide +kernel
theorem dL_holds_41 : decode cL_holds 41 = .ok (.iload 7, 2) := by decide +kernel
theorem dL_holds_43 : decode cL_holds 43 = .ok (.ifCond .le 176, 3) := by decide +kernel
theorem dL_holds_46 : decode cL_holds 46 = .ok (.aload_n 0, 1) := by decide +kernel
theorem dL_holds_47 : decode cL_holds 47 = .ok (.iload 6, 2) := by decide +kernel
theorem dL_holds_49 : decode cL_holds 49 = .ok (.iconst 0, 1) := by decide +kernel
theorem dL_holds_50 : decode cL_holds 50 = .ok (.invokevirtual 27, 3) := by decide +kernel
theorem dL_holds_53 : decode cL_holds 53 = .ok (.aload_n 0, 1) := by decide +kernel
theorem dL_holds_54 : decode cL_holds 54 = .ok (.iload 6, 2) := by decide +kernel
theorem dL_holds_56 : decode cL_holds 56 = .ok (.iconst 1, 1) := by decide +kernel
theorem dL_holds_57 : decode cL_holds 57 = .ok (.invokevirtual 27, 3) := by decide +kernel
theorem dL_holds_60 : decode cL_holds 60 = .ok (.iadd, 1) := by decide +kernel
theorem dL_holds_61 : decode cL_holds 61 = .ok (.aload_n 0, 1) := by decide +kernel
theorem dL_holds_62 : decode cL_holds 62 = .ok (.iload 6, 2) := by decide +kernel
theorem dL_holds_64 : decode cL_holds 64 = .ok (.iconst 2, 1) := by decide +kernel
theorem dL_holds_65 : decode cL_holds 65 = .ok (.invokevirtual 27, 3) := by decide +kernel
theorem dL_holds_68 : decode cL_holds 68 = .ok (.iadd, 1) := by decide +kernel
theorem dL_holds_69 : decode cL_holds 69 = .ok (.istore 8, 2) := by decide +kernel
theorem dL_holds_71 : decode cL_holds 71 = .ok (.aload_n 0, 1) := by decide +kernel
theorem dL_holds_72 : decode cL_holds 72 = .ok (.iload 6, 2) := by decide +kernel
theorem dL_holds_74 : decode cL_holds 74 = .ok (.iconst 2, 1) := by decide +kernel
theorem dL_holds_75 : decode cL_holds 75 = .ok (.invokevirtual 27, 3) := by decide +kernel
theorem dL_holds_78 : decode cL_holds 78 = .ok (.aload_n 0, 1) := by decide +kernel
theorem dL_holds_79 : decode cL_holds 79 = .ok (.iload 6, 2) := by decide +kernel
theorem dL_holds_81 : decode cL_holds 81 = .ok (.iconst 3, 1) := by decide +kernel
theorem dL_holds_82 : decode cL_holds 82 = .ok (.invokevirtual 27, 3) := by decide +kernel
theorem dL_holds_85 : decode cL_holds 85 = .ok (.iadd, 1) := by decide +kernel
theorem dL_holds_86 : decode cL_holds 86 = .ok (.istore 9, 2) := by decide +kernel
theorem dL_holds_88 : decode cL_holds 88 = .ok (.iload 7, 2) := by decide +kernel
theorem dL_holds_90 : decode cL_holds 90 = .ok (.iconst 3, 1) := by decide +kernel
theorem dL_holds_91 : decode cL_holds 91 = .ok (.if_icmp .eq 62, 3) := by decide +kernel
theorem dL_holds_94 : decode cL_holds 94 = .ok (.iload 9, 2) := by decide +kernel
theorem dL_holds_96 : decode cL_holds 96 = .ok (.aload_n 0, 1) := by decide +kernel
theorem dL_holds_97 : decode cL_holds 97 = .ok (.bipush 7, 2) := by decide +kernel
theorem dL_holds_99 : decode cL_holds 99 = .ok (.invokevirtual 19, 3) := by decide +kernel
theorem dL_holds_102 : decode cL_holds 102 = .ok (.if_icmp .gt 55, 3) := by decide +kernel
theorem dL_holds_105 : decode cL_holds 105 = .ok (.aload_n 0, 1) := by decide +kernel
theorem dL_holds_106 : decode cL_holds 106 = .ok (.iload 6, 2) := by decide +kernel
theorem dL_holds_108 : decode cL_holds 108 = .ok (.bipush 9, 2) := by decide +kernel
theorem dL_holds_110 : decode cL_holds 110 = .ok (.invokevirtual 23, 3) := by decide +kernel
theorem dL_holds_113 : decode cL_holds 113 = .ok (.ifCond .gt 8, 3) := by decide +kernel
theorem dL_holds_116 : decode cL_holds 116 = .ok (.iload 9, 2) := by decide +kernel
theorem dL_holds_118 : decode cL_holds 118 = .ok (.ifCond .ne 39, 3) := by decide +kernel
theorem dL_holds_121 : decode cL_holds 121 = .ok (.aload_n 0, 1) := by decide +kernel
theorem dL_holds_122 : decode cL_holds 122 = .ok (.iload 6, 2) := by decide +kernel
theorem dL_holds_124 : decode cL_holds 124 = .ok (.iconst 4, 1) := by decide +kernel
theorem dL_holds_125 : decode cL_holds 125 = .ok (.invokevirtual 27, 3) := by decide +kernel
theorem dL_holds_128 : decode cL_holds 128 = .ok (.ifCond .gt 25, 3) := by decide +kernel
theorem dL_holds_131 : decode cL_holds 131 = .ok (.aload_n 0, 1) := by decide +kernel
theorem dL_holds_132 : decode cL_holds 132 = .ok (.iload 6, 2) := by decide +kernel
theorem dL_holds_134 : decode cL_holds 134 = .ok (.bipush 9, 2) := by decide +kernel
theorem dL_holds_136 : decode cL_holds 136 = .ok (.invokevirtual 23, 3) := by decide +kernel
theorem dL_holds_139 : decode cL_holds 139 = .ok (.ifCond .eq 14, 3) := by decide +kernel
theorem dL_holds_142 : decode cL_holds 142 = .ok (.iload 9, 2) := by decide +kernel
theorem dL_holds_144 : decode cL_holds 144 = .ok (.aload_n 0, 1) := by decide +kernel
theorem dL_holds_145 : decode cL_holds 145 = .ok (.bipush 7, 2) := by decide +kernel
theorem dL_holds_147 : decode cL_holds 147 = .ok (.invokevirtual 19, 3) := by decide +kernel
theorem dL_holds_150 : decode cL_holds 150 = .ok (.if_icmp .ne 7, 3) := by decide +kernel
theorem dL_holds_153 : decode cL_holds 153 = .ok (.iconst 1, 1) := by decide +kernel
theorem dL_holds_154 : decode cL_holds 154 = .ok (.goto 4, 3) := by decide +kernel
theorem dL_holds_157 : decode cL_holds 157 = .ok (.iconst 0, 1) := by decide +kernel
theorem dL_holds_158 : decode cL_holds 158 = .ok (.istore 10, 2) := by decide +kernel
theorem dL_holds_160 : decode cL_holds 160 = .ok (.iload 8, 2) := by decide +kernel
theorem dL_holds_162 : decode cL_holds 162 = .ok (.aload_n 0, 1) := by decide +kernel
theorem dL_holds_163 : decode cL_holds 163 = .ok (.iload 6, 2) := by decide +kernel
theorem dL_holds_165 : decode cL_holds 165 = .ok (.iconst 5, 1) := by decide +kernel
theorem dL_holds_166 : decode cL_holds 166 = .ok (.invokevirtual 27, 3) := by decide +kernel
theorem dL_holds_169 : decode cL_holds 169 = .ok (.if_icmp .ne 48, 3) := by decide +kernel
theorem dL_holds_172 : decode cL_holds 172 = .ok (.iload 8, 2) := by decide +kernel
theorem dL_holds_174 : decode cL_holds 174 = .ok (.aload_n 0, 1) := by decide +kernel
theorem dL_holds_175 : decode cL_holds 175 = .ok (.iload 6, 2) := by decide +kernel
theorem dL_holds_177 : decode cL_holds 177 = .ok (.iconst 0, 1) := by decide +kernel
theorem dL_holds_178 : decode cL_holds 178 = .ok (.invokevirtual 23, 3) := by decide +kernel
theorem dL_holds_181 : decode cL_holds 181 = .ok (.aload_n 0, 1) := by decide +kernel
theorem dL_holds_182 : decode cL_holds 182 = .ok (.iload 6, 2) := by decide +kernel
theorem dL_holds_184 : decode cL_holds 184 = .ok (.iconst 4, 1) := by decide +kernel
theorem dL_holds_185 : decode cL_holds 185 = .ok (.invokevirtual 23, 3) := by decide +kernel
theorem dL_holds_188 : decode cL_holds 188 = .ok (.iadd, 1) := by decide +kernel
theorem dL_holds_189 : decode cL_holds 189 = .ok (.if_icmp .ne 28, 3) := by decide +kernel
theorem dL_holds_192 : decode cL_holds 192 = .ok (.aload_n 0, 1) := by decide +kernel
theorem dL_holds_193 : decode cL_holds 193 = .ok (.iload 6, 2) := by decide +kernel
theorem dL_holds_195 : decode cL_holds 195 = .ok (.iconst 4, 1) := by decide +kernel
theorem dL_holds_196 : decode cL_holds 196 = .ok (.invokevirtual 27, 3) := by decide +kernel
theorem dL_holds_199 : decode cL_holds 199 = .ok (.ifCond .le 13, 3) := by decide +kernel
theorem dL_holds_202 : decode cL_holds 202 = .ok (.aload_n 0, 1) := by decide +kernel
theorem dL_holds_203 : decode cL_holds 203 = .ok (.iload 6, 2) := by decide +kernel
theorem dL_holds_205 : decode cL_holds 205 = .ok (.iconst 0, 1) := by decide +kernel
theorem dL_holds_206 : decode cL_holds 206 = .ok (.invokevirtual 27, 3) := by decide +kernel
theorem dL_holds_209 : decode cL_holds 209 = .ok (.ifCond .gt 8, 3) := by decide +kernel
theorem dL_holds_212 : decode cL_holds 212 = .ok (.iload 10, 2) := by decide +kernel
theorem dL_holds_214 : decode cL_holds 214 = .ok (.ifCond .ne 5, 3) := by decide +kernel
theorem dL_holds_217 : decode cL_holds 217 = .ok (.iconst 0, 1) := by decide +kernel
theorem dL_holds_218 : decode cL_holds 218 = .ok (.ireturn, 1) := by decide +kernel
theorem dL_holds_219 : decode cL_holds 219 = .ok (.iload_n 1, 1) := by decide +kernel
theorem dL_holds_220 : decode cL_holds 220 = .ok (.iload 7, 2) := by decide +kernel
theorem dL_holds_222 : decode cL_holds 222 = .ok (.iconst 3, 1) := by decide +kernel
theorem dL_holds_223 : decode cL_holds 223 = .ok (.if_icmp .ne 13, 3) := by decide +kernel
theorem dL_holds_226 : decode cL_holds 226 = .ok (.aload_n 0, 1) := by decide +kernel
theorem dL_holds_227 : decode cL_holds 227 = .ok (.iload 6, 2) := by decide +kernel
theorem dL_holds_229 : decode cL_holds 229 = .ok (.iconst 0, 1) := by decide +kernel
theorem dL_holds_230 : decode cL_holds 230 = .ok (.invokevirtual 27, 3) := by decide +kernel
theorem dL_holds_233 : decode cL_holds 233 = .ok (.goto 4, 3) := by decide +kernel
theorem dL_holds_236 : decode cL_holds 236 = .ok (.iconst 0, 1) := by decide +kernel
theorem dL_holds_237 : decode cL_holds 237 = .ok (.iadd, 1) := by decide +kernel
theorem dL_holds_238 : decode cL_holds 238 = .ok (.istore_n 1, 1) := by decide +kernel
theorem dL_holds_239 : decode cL_holds 239 = .ok (.iload_n 2, 1) := by decide +kernel
theorem dL_holds_240 : decode cL_holds 240 = .ok (.iload 7, 2) := by decide +kernel
theorem dL_holds_242 : decode cL_holds 242 = .ok (.iconst 3, 1) := by decide +kernel
theorem dL_holds_243 : decode cL_holds 243 = .ok (.if_icmp .ne 13, 3) := by decide +kernel
theorem dL_holds_246 : decode cL_holds 246 = .ok (.aload_n 0, 1) := by decide +kernel
theorem dL_holds_247 : decode cL_holds 247 = .ok (.iload 6, 2) := by decide +kernel
theorem dL_holds_249 : decode cL_holds 249 = .ok (.iconst 1, 1) := by decide +kernel
theorem dL_holds_250 : decode cL_holds 250 = .ok (.invokevirtual 27, 3) := by decide +kernel
theorem dL_holds_253 : decode cL_holds 253 = .ok (.goto 4, 3) := by decide +kernel
theorem dL_holds_256 : decode cL_holds 256 = .ok (.iconst 0, 1) := by decide +kernel
theorem dL_holds_257 : decode cL_holds 257 = .ok (.iadd, 1) := by decide +kernel
theorem dL_holds_258 : decode cL_holds 258 = .ok (.istore_n 2, 1) := by decide +kernel
theorem dL_holds_259 : decode cL_holds 259 = .ok (.iload_n 3, 1) := by decide +kernel
theorem dL_holds_260 : decode cL_holds 260 = .ok (.iload 7, 2) := by decide +kernel
theorem dL_holds_262 : decode cL_holds 262 = .ok (.iconst 3, 1) := by decide +kernel
theorem dL_holds_263 : decode cL_holds 263 = .ok (.if_icmp .ne 21, 3) := by decide +kernel
theorem dL_holds_266 : decode cL_holds 266 = .ok (.aload_n 0, 1) := by decide +kernel
theorem dL_holds_267 : decode cL_holds 267 = .ok (.iload 6, 2) := by decide +kernel
theorem dL_holds_269 : decode cL_holds 269 = .ok (.iconst 2, 1) := by decide +kernel
theorem dL_holds_270 : decode cL_holds 270 = .ok (.invokevirtual 27, 3) := by decide +kernel
theorem dL_holds_273 : decode cL_holds 273 = .ok (.aload_n 0, 1) := by decide +kernel
theorem dL_holds_274 : decode cL_holds 274 = .ok (.iload 6, 2) := by decide +kernel
theorem dL_holds_276 : decode cL_holds 276 = .ok (.iconst 3, 1) := by decide +kernel
theorem dL_holds_277 : decode cL_holds 277 = .ok (.invokevirtual 27, 3) := by decide +kernel
theorem dL_holds_280 : decode cL_holds 280 = .ok (.iadd, 1) := by decide +kernel
theorem dL_holds_281 : decode cL_holds 281 = .ok (.goto 4, 3) := by decide +kernel
theorem dL_holds_284 : decode cL_holds 284 = .ok (.iconst 0, 1) := by decide +kernel
theorem dL_holds_285 : decode cL_holds 285 = .ok (.iadd, 1) := by decide +kernel
theorem dL_holds_286 : decode cL_holds 286 = .ok (.istore_n 3, 1) := by decide +kernel
theorem dL_holds_287 : decode cL_holds 287 = .ok (.iload 4, 2) := by decide +kernel
theorem dL_holds_289 : decode cL_holds 289 = .ok (.iload 7, 2) := by decide +kernel
theorem dL_holds_291 : decode cL_holds 291 = .ok (.iconst 3, 1) := by decide +kernel
theorem dL_holds_292 : decode cL_holds 292 = .ok (.if_icmp .ne 13, 3) := by decide +kernel
theorem dL_holds_295 : decode cL_holds 295 = .ok (.aload_n 0, 1) := by decide +kernel
theorem dL_holds_296 : decode cL_holds 296 = .ok (.iload 6, 2) := by decide +kernel
theorem dL_holds_298 : decode cL_holds 298 = .ok (.iconst 4, 1) := by decide +kernel
theorem dL_holds_299 : decode cL_holds 299 = .ok (.invokevirtual 27, 3) := by decide +kernel
theorem dL_holds_302 : decode cL_holds 302 = .ok (.goto 4, 3) := by decide +kernel
theorem dL_holds_305 : decode cL_holds 305 = .ok (.iconst 0, 1) := by decide +kernel
theorem dL_holds_306 : decode cL_holds 306 = .ok (.iadd, 1) := by decide +kernel
theorem dL_holds_307 : decode cL_holds 307 = .ok (.istore 4, 2) := by decide +kernel
theorem dL_holds_309 : decode cL_holds 309 = .ok (.iinc 6 1, 3) := by decide +kernel
theorem dL_holds_312 : decode cL_holds 312 = .ok (.goto (-297), 3) := by decide +kernel
theorem dL_holds_315 : decode cL_holds 315 = .ok (.iconst 0, 1) := by decide +kernel
theorem dL_holds_316 : decode cL_holds 316 = .ok (.istore 6, 2) := by decide +kernel
theorem dL_holds_318 : decode cL_holds 318 = .ok (.iload 6, 2) := by decide +kernel
theorem dL_holds_320 : decode cL_holds 320 = .ok (.aload_n 0, 1) := by decide +kernel
theorem dL_holds_321 : decode cL_holds 321 = .ok (.bipush 6, 2) := by decide +kernel
theorem dL_holds_323 : decode cL_holds 323 = .ok (.invokevirtual 19, 3) := by decide +kernel
theorem dL_holds_326 : decode cL_holds 326 = .ok (.if_icmp .ge 164, 3) := by decide +kernel
theorem dL_holds_329 : decode cL_holds 329 = .ok (.aload_n 0, 1) := by decide +kernel
theorem dL_holds_330 : decode cL_holds 330 = .ok (.iload 6, 2) := by decide +kernel
theorem dL_holds_332 : decode cL_holds 332 = .ok (.bipush 7, 2) := by decide +kernel
theorem dL_holds_334 : decode cL_holds 334 = .ok (.invokevirtual 30, 3) := by decide +kernel
theorem dL_holds_337 : decode cL_holds 337 = .ok (.istore 7, 2) := by decide +kernel
theorem dL_holds_339 : decode cL_holds 339 = .ok (.aload_n 0, 1) := by decide +kernel
theorem dL_holds_340 : decode cL_holds 340 = .ok (.iload 6, 2) := by decide +kernel
theorem dL_holds_342 : decode cL_holds 342 = .ok (.bipush 9, 2) := by decide +kernel
theorem dL_holds_344 : decode cL_holds 344 = .ok (.invokevirtual 30, 3) := by decide +kernel
theorem dL_holds_347 : decode cL_holds 347 = .ok (.istore 8, 2) := by decide +kernel
theorem dL_holds_349 : decode cL_holds 349 = .ok (.aload_n 0, 1) := by decide +kernel
theorem dL_holds_350 : decode cL_holds 350 = .ok (.iload 6, 2) := by decide +kernel
theorem dL_holds_352 : decode cL_holds 352 = .ok (.bipush 6, 2) := by decide +kernel
theorem dL_holds_354 : decode cL_holds 354 = .ok (.invokevirtual 30, 3) := by decide +kernel
theorem dL_holds_357 : decode cL_holds 357 = .ok (.istore 9, 2) := by decide +kernel
theorem dL_holds_359 : decode cL_holds 359 = .ok (.aload_n 0, 1) := by decide +kernel
theorem dL_holds_360 : decode cL_holds 360 = .ok (.iload 6, 2) := by decide +kernel
theorem dL_holds_362 : decode cL_holds 362 = .ok (.invokevirtual 96, 3) := by decide +kernel
theorem dL_holds_365 : decode cL_holds 365 = .ok (.fstore 10, 2) := by decide +kernel
theorem dL_holds_367 : decode cL_holds 367 = .ok (.aload_n 0, 1) := by decide +kernel
theorem dL_holds_368 : decode cL_holds 368 = .ok (.aload_n 0, 1) := by decide +kernel
theorem dL_holds_369 : decode cL_holds 369 = .ok (.iload 6, 2) := by decide +kernel
theorem dL_holds_371 : decode cL_holds 371 = .ok (.iconst 0, 1) := by decide +kernel
theorem dL_holds_372 : decode cL_holds 372 = .ok (.invokevirtual 30, 3) := by decide +kernel
theorem dL_holds_375 : decode cL_holds 375 = .ok (.iconst 2, 1) := by decide +kernel
theorem dL_holds_376 : decode cL_holds 376 = .ok (.invokevirtual 23, 3) := by decide +kernel
theorem dL_holds_379 : decode cL_holds 379 = .ok (.ifCond .ne 7, 3) := by decide +kernel
theorem dL_holds_382 : decode cL_holds 382 = .ok (.iconst 1, 1) := by decide +kernel
theorem dL_holds_383 : decode cL_holds 383 = .ok (.goto 4, 3) := by decide +kernel
theorem dL_holds_386 : decode cL_holds 386 = .ok (.iconst 0, 1) := by decide +kernel
theorem dL_holds_387 : decode cL_holds 387 = .ok (.istore 11, 2) := by decide +kernel
theorem dL_holds_389 : decode cL_holds 389 = .ok (.iload 8, 2) := by decide +kernel
theorem dL_holds_391 : decode cL_holds 391 = .ok (.iload 7, 2) := by decide +kernel
theorem dL_holds_393 : decode cL_holds 393 = .ok (.if_icmp .gt 89, 3) := by decide +kernel
theorem dL_holds_396 : decode cL_holds 396 = .ok (.iload 11, 2) := by decide +kernel
theorem dL_holds_398 : decode cL_holds 398 = .ok (.ifCond .ne 34, 3) := by decide +kernel
theorem dL_holds_401 : decode cL_holds 401 = .ok (.iload 8, 2) := by decide +kernel
theorem dL_holds_403 : decode cL_holds 403 = .ok (.iload 7, 2) := by decide +kernel
theorem dL_holds_405 : decode cL_holds 405 = .ok (.iload 9, 2) := by decide +kernel
theorem dL_holds_407 : decode cL_holds 407 = .ok (.if_icmp .ge 8, 3) := by decide +kernel
theorem dL_holds_410 : decode cL_holds 410 = .ok (.iload 7, 2) := by decide +kernel
theorem dL_holds_412 : decode cL_holds 412 = .ok (.goto 5, 3) := by decide +kernel
theorem dL_holds_415 : decode cL_holds 415 = .ok (.iload 9, 2) := by decide +kernel
theorem dL_holds_417 : decode cL_holds 417 = .ok (.if_icmp .lt 65, 3) := by decide +kernel
theorem dL_holds_420 : decode cL_holds 420 = .ok (.iload 9, 2) := by decide +kernel
theorem dL_holds_422 : decode cL_holds 422 = .ok (.aload_n 0, 1) := by decide +kernel
theorem dL_holds_423 : decode cL_holds 423 = .ok (.iload 6, 2) := by decide +kernel
theorem dL_holds_425 : decode cL_holds 425 = .ok (.iconst 1, 1) := by decide +kernel
theorem dL_holds_426 : decode cL_holds 426 = .ok (.invokevirtual 30, 3) := by decide +kernel
theorem dL_holds_429 : decode cL_holds 429 = .ok (.if_icmp .gt 53, 3) := by decide +kernel
theorem dL_holds_432 : decode cL_holds 432 = .ok (.fload 10, 2) := by decide +kernel
theorem dL_holds_434 : decode cL_holds 434 = .ok (.fconst 0, 1) := by decide +kernel
theorem dL_holds_435 : decode cL_holds 435 = .ok (.fcmp .g, 1) := by decide +kernel
theorem dL_holds_436 : decode cL_holds 436 = .ok (.ifCond .lt 46, 3) := by decide +kernel
theorem dL_holds_439 : decode cL_holds 439 = .ok (.fload 10, 2) := by decide +kernel
theorem dL_holds_441 : decode cL_holds 441 = .ok (.fconst 1, 1) := by decide +kernel
theorem dL_holds_442 : decode cL_holds 442 = .ok (.fcmp .l, 1) := by decide +kernel
theorem dL_holds_443 : decode cL_holds 443 = .ok (.ifCond .gt 39, 3) := by decide +kernel
theorem dL_holds_446 : decode cL_holds 446 = .ok (.aload_n 0, 1) := by decide +kernel
theorem dL_holds_447 : decode cL_holds 447 = .ok (.iload 6, 2) := by decide +kernel
theorem dL_holds_449 : decode cL_holds 449 = .ok (.iconst 3, 1) := by decide +kernel
theorem dL_holds_450 : decode cL_holds 450 = .ok (.invokevirtual 30, 3) := by decide +kernel
theorem dL_holds_453 : decode cL_holds 453 = .ok (.aload_n 0, 1) := by decide +kernel
theorem dL_holds_454 : decode cL_holds 454 = .ok (.iload 6, 2) := by decide +kernel
theorem dL_holds_456 : decode cL_holds 456 = .ok (.iconst 2, 1) := by decide +kernel
theorem dL_holds_457 : decode cL_holds 457 = .ok (.invokevirtual 30, 3) := by decide +kernel
theorem dL_holds_460 : decode cL_holds 460 = .ok (.if_icmp .gt 22, 3) := by decide +kernel
theorem dL_holds_463 : decode cL_holds 463 = .ok (.aload_n 0, 1) := by decide +kernel
theorem dL_holds_464 : decode cL_holds 464 = .ok (.iload 6, 2) := by decide +kernel
theorem dL_holds_466 : decode cL_holds 466 = .ok (.bipush 8, 2) := by decide +kernel
theorem dL_holds_468 : decode cL_holds 468 = .ok (.invokevirtual 30, 3) := by decide +kernel
theorem dL_holds_471 : decode cL_holds 471 = .ok (.iconst 1, 1) := by decide +kernel
theorem dL_holds_472 : decode cL_holds 472 = .ok (.if_icmp .ne 12, 3) := by decide +kernel
theorem dL_holds_475 : decode cL_holds 475 = .ok (.iload 8, 2) := by decide +kernel
theorem dL_holds_477 : decode cL_holds 477 = .ok (.iload 7, 2) := by decide +kernel
theorem dL_holds_479 : decode cL_holds 479 = .ok (.if_icmp .eq 5, 3) := by decide +kernel
theorem dL_holds_482 : decode cL_holds 482 = .ok (.iconst 0, 1) := by decide +kernel
theorem dL_holds_483 : decode cL_holds 483 = .ok (.ireturn, 1) := by decide +kernel
theorem dL_holds_484 : decode cL_holds 484 = .ok (.iinc 6 1, 3) := by decide +kernel
theorem dL_holds_487 : decode cL_holds 487 = .ok (.goto (-169), 3) := by decide +kernel
theorem dL_holds_490 : decode cL_holds 490 = .ok (.iload 5, 2) := by decide +kernel
theorem dL_holds_492 : decode cL_holds 492 = .ok (.aload_n 0, 1) := by decide +kernel
theorem dL_holds_493 : decode cL_holds 493 = .ok (.iconst 3, 1) := by decide +kernel
theorem dL_holds_494 : decode cL_holds 494 = .ok (.invokevirtual 19, 3) := by decide +kernel
theorem dL_holds_497 : decode cL_holds 497 = .ok (.iconst 2, 1) := by decide +kernel
theorem dL_holds_498 : decode cL_holds 498 = .ok (.aload_n 0, 1) := by decide +kernel
theorem dL_holds_499 : decode cL_holds 499 = .ok (.iconst 4, 1) := by decide +kernel
theorem dL_holds_500 : decode cL_holds 500 = .ok (.invokevirtual 19, 3) := by decide +kernel
theorem dL_holds_503 : decode cL_holds 503 = .ok (.imul, 1) := by decide +kernel
theorem dL_holds_504 : decode cL_holds 504 = .ok (.iadd, 1) := by decide +kernel
theorem dL_holds_505 : decode cL_holds 505 = .ok (.iconst 3, 1) := by decide +kernel
theorem dL_holds_506 : decode cL_holds 506 = .ok (.aload_n 0, 1) := by decide +kernel
theorem dL_holds_507 : decode cL_holds 507 = .ok (.iconst 5, 1) := by decide +kernel
theorem dL_holds_508 : decode cL_holds 508 = .ok (.invokevirtual 19, 3) := by decide +kernel
theorem dL_holds_511 : decode cL_holds 511 = .ok (.imul, 1) := by decide +kernel
theorem dL_holds_512 : decode cL_holds 512 = .ok (.iadd, 1) := by decide +kernel
theorem dL_holds_513 : decode cL_holds 513 = .ok (.if_icmp .ne 38, 3) := by decide +kernel
theorem dL_holds_516 : decode cL_holds 516 = .ok (.aload_n 0, 1) := by decide +kernel
theorem dL_holds_517 : decode cL_holds 517 = .ok (.iconst 2, 1) := by decide +kernel
theorem dL_holds_518 : decode cL_holds 518 = .ok (.invokevirtual 19, 3) := by decide +kernel
theorem dL_holds_521 : decode cL_holds 521 = .ok (.aload_n 0, 1) := by decide +kernel
theorem dL_holds_522 : decode cL_holds 522 = .ok (.iconst 3, 1) := by decide +kernel
theorem dL_holds_523 : decode cL_holds 523 = .ok (.invokevirtual 19, 3) := by decide +kernel
theorem dL_holds_526 : decode cL_holds 526 = .ok (.iadd, 1) := by decide +kernel
theorem dL_holds_527 : decode cL_holds 527 = .ok (.aload_n 0, 1) := by decide +kernel
theorem dL_holds_528 : decode cL_holds 528 = .ok (.iconst 4, 1) := by decide +kernel
theorem dL_holds_529 : decode cL_holds 529 = .ok (.invokevirtual 19, 3) := by decide +kernel
theorem dL_holds_532 : decode cL_holds 532 = .ok (.iadd, 1) := by decide +kernel
theorem dL_holds_533 : decode cL_holds 533 = .ok (.aload_n 0, 1) := by decide +kernel
theorem dL_holds_534 : decode cL_holds 534 = .ok (.iconst 5, 1) := by decide +kernel
theorem dL_holds_535 : decode cL_holds 535 = .ok (.invokevirtual 19, 3) := by decide +kernel
theorem dL_holds_538 : decode cL_holds 538 = .ok (.iadd, 1) := by decide +kernel
theorem dL_holds_539 : decode cL_holds 539 = .ok (.aload_n 0, 1) := by decide +kernel
theorem dL_holds_540 : decode cL_holds 540 = .ok (.iconst 1, 1) := by decide +kernel
theorem dL_holds_541 : decode cL_holds 541 = .ok (.invokevirtual 19, 3) := by decide +kernel
theorem dL_holds_544 : decode cL_holds 544 = .ok (.if_icmp .ne 7, 3) := by decide +kernel
theorem dL_holds_547 : decode cL_holds 547 = .ok (.iconst 1, 1) := by decide +kernel
theorem dL_holds_548 : decode cL_holds 548 = .ok (.goto 4, 3) := by decide +kernel
theorem dL_holds_551 : decode cL_holds 551 = .ok (.iconst 0, 1) := by decide +kernel
theorem dL_holds_552 : decode cL_holds 552 = .ok (.istore 6, 2) := by decide +kernel
theorem dL_holds_554 : decode cL_holds 554 = .ok (.iload 6, 2) := by decide +kernel
theorem dL_holds_556 : decode cL_holds 556 = .ok (.ifCond .eq 78, 3) := by decide +kernel
theorem dL_holds_559 : decode cL_holds 559 = .ok (.iload_n 1, 1) := by decide +kernel
theorem dL_holds_560 : decode cL_holds 560 = .ok (.aload_n 0, 1) := by decide +kernel
theorem dL_holds_561 : decode cL_holds 561 = .ok (.bipush 8, 2) := by decide +kernel
theorem dL_holds_563 : decode cL_holds 563 = .ok (.invokevirtual 19, 3) := by decide +kernel
theorem dL_holds_566 : decode cL_holds 566 = .ok (.if_icmp .ne 68, 3) := by decide +kernel
theorem dL_holds_569 : decode cL_holds 569 = .ok (.iload_n 2, 1) := by decide +kernel
theorem dL_holds_570 : decode cL_holds 570 = .ok (.aload_n 0, 1) := by decide +kernel
theorem dL_holds_571 : decode cL_holds 571 = .ok (.bipush 9, 2) := by decide +kernel
theorem dL_holds_573 : decode cL_holds 573 = .ok (.invokevirtual 19, 3) := by decide +kernel
theorem dL_holds_576 : decode cL_holds 576 = .ok (.if_icmp .ne 58, 3) := by decide +kernel
theorem dL_holds_579 : decode cL_holds 579 = .ok (.iload_n 3, 1) := by decide +kernel
theorem dL_holds_580 : decode cL_holds 580 = .ok (.aload_n 0, 1) := by decide +kernel
theorem dL_holds_581 : decode cL_holds 581 = .ok (.bipush 10, 2) := by decide +kernel
theorem dL_holds_583 : decode cL_holds 583 = .ok (.invokevirtual 19, 3) := by decide +kernel
theorem dL_holds_586 : decode cL_holds 586 = .ok (.if_icmp .ne 48, 3) := by decide +kernel
theorem dL_holds_589 : decode cL_holds 589 = .ok (.iload 4, 2) := by decide +kernel
theorem dL_holds_591 : decode cL_holds 591 = .ok (.aload_n 0, 1) := by decide +kernel
theorem dL_holds_592 : decode cL_holds 592 = .ok (.bipush 11, 2) := by decide +kernel
theorem dL_holds_594 : decode cL_holds 594 = .ok (.invokevirtual 19, 3) := by decide +kernel
theorem dL_holds_597 : decode cL_holds 597 = .ok (.if_icmp .ne 37, 3) := by decide +kernel
theorem dL_holds_600 : decode cL_holds 600 = .ok (.aload_n 0, 1) := by decide +kernel
theorem dL_holds_601 : decode cL_holds 601 = .ok (.bipush 24, 2) := by decide +kernel
theorem dL_holds_603 : decode cL_holds 603 = .ok (.invokevirtual 33, 3) := by decide +kernel
theorem dL_holds_606 : decode cL_holds 606 = .ok (.aload_n 0, 1) := by decide +kernel
theorem dL_holds_607 : decode cL_holds 607 = .ok (.bipush 24, 2) := by decide +kernel
theorem dL_holds_609 : decode cL_holds 609 = .ok (.invokevirtual 33, 3) := by decide +kernel
theorem dL_holds_612 : decode cL_holds 612 = .ok (.fcmp .l, 1) := by decide +kernel
theorem dL_holds_613 : decode cL_holds 613 = .ok (.ifCond .eq 21, 3) := by decide +kernel
theorem dL_holds_616 : decode cL_holds 616 = .ok (.aload_n 0, 1) := by decide +kernel
theorem dL_holds_617 : decode cL_holds 617 = .ok (.iconst (-1), 1) := by decide +kernel
theorem dL_holds_618 : decode cL_holds 618 = .ok (.invokevirtual 96, 3) := by decide +kernel
theorem dL_holds_621 : decode cL_holds 621 = .ok (.aload_n 0, 1) := by decide +kernel
theorem dL_holds_622 : decode cL_holds 622 = .ok (.iconst (-1), 1) := by decide +kernel
theorem dL_holds_623 : decode cL_holds 623 = .ok (.invokevirtual 96, 3) := by decide +kernel
theorem dL_holds_626 : decode cL_holds 626 = .ok (.fcmp .l, 1) := by decide +kernel
theorem dL_holds_627 : decode cL_holds 627 = .ok (.ifCond .eq 7, 3) := by decide +kernel
theorem dL_holds_630 : decode cL_holds 630 = .ok (.iconst 1, 1) := by decide +kernel
theorem dL_holds_631 : decode cL_holds 631 = .ok (.goto 4, 3) := by decide +kernel
theorem dL_holds_634 : decode cL_holds 634 = .ok (.iconst 0, 1) := by decide +kernel
theorem dL_holds_635 : decode cL_holds 635 = .ok (.ireturn, 1) := by decide +kernel
theorem dL_law_0 : decode cL_law 0 = .ok (.new 11, 3) := by decide +kernel
theorem dL_law_3 : decode cL_law 3 = .ok (.dup, 1) := by decide +kernel
theorem dL_law_4 : decode cL_law 4 = .ok (.invokespecial 99, 3) := by decide +kernel
theorem dL_law_7 : decode cL_law 7 = .ok (.astore_n 1, 1) := by decide +kernel
theorem dL_law_8 : decode cL_law 8 = .ok (.aload_n 1, 1) := by decide +kernel
theorem dL_law_9 : decode cL_law 9 = .ok (.invokevirtual 100, 3) := by decide +kernel
theorem dL_law_12 : decode cL_law 12 = .ok (.bipush (-5), 2) := by decide +kernel
theorem dL_law_14 : decode cL_law 14 = .ok (.if_icmp .ne 19, 3) := by decide +kernel
theorem dL_law_17 : decode cL_law 17 = .ok (.aload_n 1, 1) := by decide +kernel
theorem dL_law_18 : decode cL_law 18 = .ok (.invokevirtual 89, 3) := by decide +kernel
theorem dL_law_21 : decode cL_law 21 = .ok (.bipush (-5), 2) := by decide +kernel
theorem dL_law_23 : decode cL_law 23 = .ok (.if_icmp .ne 10, 3) := by decide +kernel
theorem dL_law_26 : decode cL_law 26 = .ok (.aload_n 1, 1) := by decide +kernel
theorem dL_law_27 : decode cL_law 27 = .ok (.invokevirtual 103, 3) := by decide +kernel
theorem dL_law_30 : decode cL_law 30 = .ok (.ifCond .eq 5, 3) := by decide +kernel
theorem dL_law_33 : decode cL_law 33 = .ok (.iconst 0, 1) := by decide +kernel
theorem dL_law_34 : decode cL_law 34 = .ok (.ireturn, 1) := by decide +kernel
theorem dL_law_35 : decode cL_law 35 = .ok (.aload_n 1, 1) := by decide +kernel
theorem dL_law_36 : decode cL_law 36 = .ok (.invokestatic 106, 3) := by decide +kernel
theorem dL_law_39 : decode cL_law 39 = .ok (.lstore_n 2, 1) := by decide +kernel
theorem dL_law_40 : decode cL_law 40 = .ok (.iconst 0, 1) := by decide +kernel
theorem dL_law_41 : decode cL_law 41 = .ok (.istore 4, 2) := by decide +kernel
theorem dL_law_43 : decode cL_law 43 = .ok (.iload 4, 2) := by decide +kernel
theorem dL_law_45 : decode cL_law 45 = .ok (.bipush 40, 2) := by decide +kernel
theorem dL_law_47 : decode cL_law 47 = .ok (.if_icmp .ge 234, 3) := by decide +kernel
theorem dL_law_50 : decode cL_law 50 = .ok (.aload_n 0, 1) := by decide +kernel
theorem dL_law_51 : decode cL_law 51 = .ok (.iconst 2, 1) := by decide +kernel
theorem dL_law_52 : decode cL_law 52 = .ok (.iload 4, 2) := by decide +kernel
theorem dL_law_54 : decode cL_law 54 = .ok (.imul, 1) := by decide +kernel
theorem dL_law_55 : decode cL_law 55 = .ok (.invokestatic 110, 3) := by decide +kernel
theorem dL_law_58 : decode cL_law 58 = .ok (.istore 5, 2) := by decide +kernel
theorem dL_law_60 : decode cL_law 60 = .ok (.aload_n 0, 1) := by decide +kernel
theorem dL_law_61 : decode cL_law 61 = .ok (.iconst 2, 1) := by decide +kernel
theorem dL_law_62 : decode cL_law 62 = .ok (.iload 4, 2) := by decide +kernel
theorem dL_law_64 : decode cL_law 64 = .ok (.imul, 1) := by decide +kernel
theorem dL_law_65 : decode cL_law 65 = .ok (.iconst 1, 1) := by decide +kernel
theorem dL_law_66 : decode cL_law 66 = .ok (.iadd, 1) := by decide +kernel
theorem dL_law_67 : decode cL_law 67 = .ok (.invokestatic 110, 3) := by decide +kernel
theorem dL_law_70 : decode cL_law 70 = .ok (.istore 6, 2) := by decide +kernel
theorem dL_law_72 : decode cL_law 72 = .ok (.aload_n 1, 1) := by decide +kernel
theorem dL_law_73 : decode cL_law 73 = .ok (.invokestatic 106, 3) := by decide +kernel
theorem dL_law_76 : decode cL_law 76 = .ok (.lstore 7, 2) := by decide +kernel
theorem dL_law_78 : decode cL_law 78 = .ok (.aload_n 1, 1) := by decide +kernel
theorem dL_law_79 : decode cL_law 79 = .ok (.bipush 12, 2) := by decide +kernel
theorem dL_law_81 : decode cL_law 81 = .ok (.invokevirtual 19, 3) := by decide +kernel
theorem dL_law_84 : decode cL_law 84 = .ok (.istore 9, 2) := by decide +kernel
theorem dL_law_86 : decode cL_law 86 = .ok (.aload_n 1, 1) := by decide +kernel
theorem dL_law_87 : decode cL_law 87 = .ok (.iload 5, 2) := by decide +kernel
theorem dL_law_89 : decode cL_law 89 = .ok (.iload 6, 2) := by decide +kernel
theorem dL_law_91 : decode cL_law 91 = .ok (.invokestatic 114, 3) := by decide +kernel
theorem dL_law_94 : decode cL_law 94 = .ok (.istore 10, 2) := by decide +kernel
theorem dL_law_96 : decode cL_law 96 = .ok (.aload_n 1, 1) := by decide +kernel
theorem dL_law_97 : decode cL_law 97 = .ok (.invokestatic 106, 3) := by decide +kernel
theorem dL_law_100 : decode cL_law 100 = .ok (.lstore 11, 2) := by decide +kernel
theorem dL_law_102 : decode cL_law 102 = .ok (.iload 10, 2) := by decide +kernel
theorem dL_law_104 : decode cL_law 104 = .ok (.ifCond .ge 25, 3) := by decide +kernel
theorem dL_law_107 : decode cL_law 107 = .ok (.lload 11, 2) := by decide +kernel
theorem dL_law_109 : decode cL_law 109 = .ok (.lload 7, 2) := by decide +kernel
theorem dL_law_111 : decode cL_law 111 = .ok (.lcmp, 1) := by decide +kernel
theorem dL_law_112 : decode cL_law 112 = .ok (.ifCond .ne 40, 3) := by decide +kernel
theorem dL_law_115 : decode cL_law 115 = .ok (.aload_n 1, 1) := by decide +kernel
theorem dL_law_116 : decode cL_law 116 = .ok (.bipush 12, 2) := by decide +kernel
theorem dL_law_118 : decode cL_law 118 = .ok (.invokevirtual 19, 3) := by decide +kernel
theorem dL_law_121 : decode cL_law 121 = .ok (.iload 9, 2) := by decide +kernel
theorem dL_law_123 : decode cL_law 123 = .ok (.if_icmp .eq 31, 3) := by decide +kernel
theorem dL_law_126 : decode cL_law 126 = .ok (.goto 26, 3) := by decide +kernel
theorem dL_law_129 : decode cL_law 129 = .ok (.aload_n 1, 1) := by decide +kernel
theorem dL_law_130 : decode cL_law 130 = .ok (.bipush 12, 2) := by decide +kernel
theorem dL_law_132 : decode cL_law 132 = .ok (.invokevirtual 19, 3) := by decide +kernel
theorem dL_law_135 : decode cL_law 135 = .ok (.iload 9, 2) := by decide +kernel
theorem dL_law_137 : decode cL_law 137 = .ok (.iconst 4, 1) := by decide +kernel
theorem dL_law_138 : decode cL_law 138 = .ok (.if_icmp .ge 10, 3) := by decide +kernel
theorem dL_law_141 : decode cL_law 141 = .ok (.iload 9, 2) := by decide +kernel
theorem dL_law_143 : decode cL_law 143 = .ok (.iconst 1, 1) := by decide +kernel
theorem dL_law_144 : decode cL_law 144 = .ok (.iadd, 1) := by decide +kernel
theorem dL_law_145 : decode cL_law 145 = .ok (.goto 4, 3) := by decide +kernel
theorem dL_law_148 : decode cL_law 148 = .ok (.iconst 4, 1) := by decide +kernel
theorem dL_law_149 : decode cL_law 149 = .ok (.if_icmp .eq 5, 3) := by decide +kernel
theorem dL_law_152 : decode cL_law 152 = .ok (.iconst 0, 1) := by decide +kernel
theorem dL_law_153 : decode cL_law 153 = .ok (.ireturn, 1) := by decide +kernel
theorem dL_law_154 : decode cL_law 154 = .ok (.iload 10, 2) := by decide +kernel
theorem dL_law_156 : decode cL_law 156 = .ok (.ifCond .lt 22, 3) := by decide +kernel
theorem dL_law_159 : decode cL_law 159 = .ok (.iload 5, 2) := by decide +kernel
theorem dL_law_161 : decode cL_law 161 = .ok (.bipush 15, 2) := by decide +kernel
theorem dL_law_163 : decode cL_law 163 = .ok (.iand, 1) := by decide +kernel
theorem dL_law_164 : decode cL_law 164 = .ok (.bipush 14, 2) := by decide +kernel
theorem dL_law_166 : decode cL_law 166 = .ok (.if_icmp .ne 12, 3) := by decide +kernel
theorem dL_law_169 : decode cL_law 169 = .ok (.lload 11, 2) := by decide +kernel
theorem dL_law_171 : decode cL_law 171 = .ok (.lload_n 2, 1) := by decide +kernel
theorem dL_law_172 : decode cL_law 172 = .ok (.lcmp, 1) := by decide +kernel
theorem dL_law_173 : decode cL_law 173 = .ok (.ifCond .eq 5, 3) := by decide +kernel
theorem dL_law_176 : decode cL_law 176 = .ok (.iconst 0, 1) := by decide +kernel
theorem dL_law_177 : decode cL_law 177 = .ok (.ireturn, 1) := by decide +kernel
theorem dL_law_178 : decode cL_law 178 = .ok (.iload 10, 2) := by decide +kernel
theorem dL_law_180 : decode cL_law 180 = .ok (.ifCond .lt 67, 3) := by decide +kernel
theorem dL_law_183 : decode cL_law 183 = .ok (.iload 5, 2) := by decide +kernel
theorem dL_law_185 : decode cL_law 185 = .ok (.bipush 10, 2) := by decide +kernel
theorem dL_law_187 : decode cL_law 187 = .ok (.ishr, 1) := by decide +kernel
theorem dL_law_188 : decode cL_law 188 = .ok (.iconst 1, 1) := by decide +kernel
theorem dL_law_189 : decode cL_law 189 = .ok (.iand, 1) := by decide +kernel
theorem dL_law_190 : decode cL_law 190 = .ok (.ifCond .ne 57, 3) := by decide +kernel
theorem dL_law_193 : decode cL_law 193 = .ok (.aload_n 1, 1) := by decide +kernel
theorem dL_law_194 : decode cL_law 194 = .ok (.bipush 12, 2) := by decide +kernel
theorem dL_law_196 : decode cL_law 196 = .ok (.invokevirtual 19, 3) := by decide +kernel
theorem dL_law_199 : decode cL_law 199 = .ok (.iconst 1, 1) := by decide +kernel
theorem dL_law_200 : decode cL_law 200 = .ok (.isub, 1) := by decide +kernel
theorem dL_law_201 : decode cL_law 201 = .ok (.istore 13, 2) := by decide +kernel
theorem dL_law_203 : decode cL_law 203 = .ok (.aload_n 1, 1) := by decide +kernel
theorem dL_law_204 : decode cL_law 204 = .ok (.invokevirtual 100, 3) := by decide +kernel
theorem dL_law_207 : decode cL_law 207 = .ok (.iload 13, 2) := by decide +kernel
theorem dL_law_209 : decode cL_law 209 = .ok (.if_icmp .ne 36, 3) := by decide +kernel
theorem dL_law_212 : decode cL_law 212 = .ok (.aload_n 1, 1) := by decide +kernel
theorem dL_law_213 : decode cL_law 213 = .ok (.invokestatic 106, 3) := by decide +kernel
theorem dL_law_216 : decode cL_law 216 = .ok (.lload 7, 2) := by decide +kernel
theorem dL_law_218 : decode cL_law 218 = .ok (.lcmp, 1) := by decide +kernel
theorem dL_law_219 : decode cL_law 219 = .ok (.ifCond .ne 26, 3) := by decide +kernel
theorem dL_law_222 : decode cL_law 222 = .ok (.aload_n 1, 1) := by decide +kernel
theorem dL_law_223 : decode cL_law 223 = .ok (.iload 5, 2) := by decide +kernel
theorem dL_law_225 : decode cL_law 225 = .ok (.iload 6, 2) := by decide +kernel
theorem dL_law_227 : decode cL_law 227 = .ok (.invokestatic 114, 3) := by decide +kernel
theorem dL_law_230 : decode cL_law 230 = .ok (.iload 10, 2) := by decide +kernel
theorem dL_law_232 : decode cL_law 232 = .ok (.if_icmp .ne 13, 3) := by decide +kernel
theorem dL_law_235 : decode cL_law 235 = .ok (.aload_n 1, 1) := by decide +kernel
theorem dL_law_236 : decode cL_law 236 = .ok (.invokestatic 106, 3) := by decide +kernel
theorem dL_law_239 : decode cL_law 239 = .ok (.lload 11, 2) := by decide +kernel
theorem dL_law_241 : decode cL_law 241 = .ok (.lcmp, 1) := by decide +kernel
theorem dL_law_242 : decode cL_law 242 = .ok (.ifCond .eq 5, 3) := by decide +kernel
theorem dL_law_245 : decode cL_law 245 = .ok (.iconst 0, 1) := by decide +kernel
theorem dL_law_246 : decode cL_law 246 = .ok (.ireturn, 1) := by decide +kernel
theorem dL_law_247 : decode cL_law 247 = .ok (.aload_n 1, 1) := by decide +kernel
theorem dL_law_248 : decode cL_law 248 = .ok (.invokestatic 118, 3) := by decide +kernel
theorem dL_law_251 : decode cL_law 251 = .ok (.ifCond .ne 5, 3) := by decide +kernel
theorem dL_law_254 : decode cL_law 254 = .ok (.iconst 0, 1) := by decide +kernel
theorem dL_law_255 : decode cL_law 255 = .ok (.ireturn, 1) := by decide +kernel
theorem dL_law_256 : decode cL_law 256 = .ok (.iload 5, 2) := by decide +kernel
theorem dL_law_258 : decode cL_law 258 = .ok (.bipush 11, 2) := by decide +kernel
theorem dL_law_260 : decode cL_law 260 = .ok (.ishr, 1) := by decide +kernel
theorem dL_law_261 : decode cL_law 261 = .ok (.bipush 7, 2) := by decide +kernel
theorem dL_law_263 : decode cL_law 263 = .ok (.iand, 1) := by decide +kernel
theorem dL_law_264 : decode cL_law 264 = .ok (.ifCond .ne 11, 3) := by decide +kernel
theorem dL_law_267 : decode cL_law 267 = .ok (.aload_n 1, 1) := by decide +kernel
theorem dL_law_268 : decode cL_law 268 = .ok (.invokevirtual 103, 3) := by decide +kernel
theorem dL_law_271 : decode cL_law 271 = .ok (.pop, 1) := by decide +kernel
theorem dL_law_272 : decode cL_law 272 = .ok (.lload 11, 2) := by decide +kernel
theorem dL_law_274 : decode cL_law 274 = .ok (.lstore_n 2, 1) := by decide +kernel
theorem dL_law_275 : decode cL_law 275 = .ok (.iinc 4 1, 3) := by decide +kernel
theorem dL_law_278 : decode cL_law 278 = .ok (.goto (-235), 3) := by decide +kernel
theorem dL_law_281 : decode cL_law 281 = .ok (.iconst 1, 1) := by decide +kernel
theorem dL_law_282 : decode cL_law 282 = .ok (.ireturn, 1) := by decide +kernel

theorem dL_cell_0 : decode cL_cell 0 = .ok (.iload_n 1, 1) := by decide +kernel
theorem dL_cell_1 : decode cL_cell 1 = .ok (.aload_n 0, 1) := by decide +kernel
theorem dL_cell_2 : decode cL_cell 2 = .ok (.arraylength, 1) := by decide +kernel
theorem dL_cell_3 : decode cL_cell 3 = .ok (.if_icmp .ge 9, 3) := by decide +kernel
theorem dL_cell_6 : decode cL_cell 6 = .ok (.aload_n 0, 1) := by decide +kernel
theorem dL_cell_7 : decode cL_cell 7 = .ok (.iload_n 1, 1) := by decide +kernel
theorem dL_cell_8 : decode cL_cell 8 = .ok (.iaload, 1) := by decide +kernel
theorem dL_cell_9 : decode cL_cell 9 = .ok (.goto 11, 3) := by decide +kernel
theorem dL_cell_12 : decode cL_cell 12 = .ok (.ldc 7, 2) := by decide +kernel
theorem dL_cell_14 : decode cL_cell 14 = .ok (.iload_n 1, 1) := by decide +kernel
theorem dL_cell_15 : decode cL_cell 15 = .ok (.sipush 263, 3) := by decide +kernel
theorem dL_cell_18 : decode cL_cell 18 = .ok (.iadd, 1) := by decide +kernel
theorem dL_cell_19 : decode cL_cell 19 = .ok (.imul, 1) := by decide +kernel
theorem dL_cell_20 : decode cL_cell 20 = .ok (.ireturn, 1) := by decide +kernel
theorem dL_up_0 : decode cL_up 0 = .ok (.iload_n 0, 1) := by decide +kernel
theorem dL_up_1 : decode cL_up 1 = .ok (.ldc 8, 2) := by decide +kernel
theorem dL_up_3 : decode cL_up 3 = .ok (.iand, 1) := by decide +kernel
theorem dL_up_4 : decode cL_up 4 = .ok (.iload_n 1, 1) := by decide +kernel
theorem dL_up_5 : decode cL_up 5 = .ok (.irem, 1) := by decide +kernel
theorem dL_up_6 : decode cL_up 6 = .ok (.ireturn, 1) := by decide +kernel
theorem dL_bits_0 : decode cL_bits 0 = .ok (.iload_n 0, 1) := by decide +kernel
theorem dL_bits_1 : decode cL_bits 1 = .ok (.iconst 1, 1) := by decide +kernel
theorem dL_bits_2 : decode cL_bits 2 = .ok (.iand, 1) := by decide +kernel
theorem dL_bits_3 : decode cL_bits 3 = .ok (.iload_n 0, 1) := by decide +kernel
theorem dL_bits_4 : decode cL_bits 4 = .ok (.iconst 1, 1) := by decide +kernel
theorem dL_bits_5 : decode cL_bits 5 = .ok (.ishr, 1) := by decide +kernel
theorem dL_bits_6 : decode cL_bits 6 = .ok (.iconst 1, 1) := by decide +kernel
theorem dL_bits_7 : decode cL_bits 7 = .ok (.iand, 1) := by decide +kernel
theorem dL_bits_8 : decode cL_bits 8 = .ok (.iadd, 1) := by decide +kernel
theorem dL_bits_9 : decode cL_bits 9 = .ok (.iload_n 0, 1) := by decide +kernel
theorem dL_bits_10 : decode cL_bits 10 = .ok (.iconst 2, 1) := by decide +kernel
theorem dL_bits_11 : decode cL_bits 11 = .ok (.ishr, 1) := by decide +kernel
theorem dL_bits_12 : decode cL_bits 12 = .ok (.iconst 1, 1) := by decide +kernel
theorem dL_bits_13 : decode cL_bits 13 = .ok (.iand, 1) := by decide +kernel
theorem dL_bits_14 : decode cL_bits 14 = .ok (.iadd, 1) := by decide +kernel
theorem dL_bits_15 : decode cL_bits 15 = .ok (.ireturn, 1) := by decide +kernel
theorem dL_looks_0 : decode cL_looks 0 = .ok (.ldc2_w 9, 3) := by decide +kernel
theorem dL_looks_3 : decode cL_looks 3 = .ok (.lstore_n 1, 1) := by decide +kernel
theorem dL_looks_4 : decode cL_looks 4 = .ok (.iconst 0, 1) := by decide +kernel
theorem dL_looks_5 : decode cL_looks 5 = .ok (.istore_n 3, 1) := by decide +kernel
theorem dL_looks_6 : decode cL_looks 6 = .ok (.iload_n 3, 1) := by decide +kernel
theorem dL_looks_7 : decode cL_looks 7 = .ok (.bipush 11, 2) := by decide +kernel
theorem dL_looks_9 : decode cL_looks 9 = .ok (.if_icmp .ge 22, 3) := by decide +kernel
theorem dL_looks_12 : decode cL_looks 12 = .ok (.ldc2_w 11, 3) := by decide +kernel
theorem dL_looks_15 : decode cL_looks 15 = .ok (.lload_n 1, 1) := by decide +kernel
theorem dL_looks_16 : decode cL_looks 16 = .ok (.lmul, 1) := by decide +kernel
theorem dL_looks_17 : decode cL_looks 17 = .ok (.aload_n 0, 1) := by decide +kernel
theorem dL_looks_18 : decode cL_looks 18 = .ok (.iload_n 3, 1) := by decide +kernel
theorem dL_looks_19 : decode cL_looks 19 = .ok (.invokevirtual 13, 3) := by decide +kernel
theorem dL_looks_22 : decode cL_looks 22 = .ok (.i2l, 1) := by decide +kernel
theorem dL_looks_23 : decode cL_looks 23 = .ok (.ladd, 1) := by decide +kernel
theorem dL_looks_24 : decode cL_looks 24 = .ok (.lstore_n 1, 1) := by decide +kernel
theorem dL_looks_25 : decode cL_looks 25 = .ok (.iinc 3 1, 3) := by decide +kernel
theorem dL_looks_28 : decode cL_looks 28 = .ok (.goto (-22), 3) := by decide +kernel
theorem dL_looks_31 : decode cL_looks 31 = .ok (.iconst 0, 1) := by decide +kernel
theorem dL_looks_32 : decode cL_looks 32 = .ok (.istore_n 3, 1) := by decide +kernel
theorem dL_looks_33 : decode cL_looks 33 = .ok (.iload_n 3, 1) := by decide +kernel
theorem dL_looks_34 : decode cL_looks 34 = .ok (.bipush 9, 2) := by decide +kernel
theorem dL_looks_36 : decode cL_looks 36 = .ok (.aload_n 0, 1) := by decide +kernel
theorem dL_looks_37 : decode cL_looks 37 = .ok (.iconst 0, 1) := by decide +kernel
theorem dL_looks_38 : decode cL_looks 38 = .ok (.invokevirtual 13, 3) := by decide +kernel
theorem dL_looks_41 : decode cL_looks 41 = .ok (.imul, 1) := by decide +kernel
theorem dL_looks_42 : decode cL_looks 42 = .ok (.if_icmp .ge 29, 3) := by decide +kernel
theorem dL_looks_45 : decode cL_looks 45 = .ok (.ldc2_w 11, 3) := by decide +kernel
theorem dL_looks_48 : decode cL_looks 48 = .ok (.lload_n 1, 1) := by decide +kernel
theorem dL_looks_49 : decode cL_looks 49 = .ok (.lmul, 1) := by decide +kernel
theorem dL_looks_50 : decode cL_looks 50 = .ok (.aload_n 0, 1) := by decide +kernel
theorem dL_looks_51 : decode cL_looks 51 = .ok (.iload_n 3, 1) := by decide +kernel
theorem dL_looks_52 : decode cL_looks 52 = .ok (.bipush 9, 2) := by decide +kernel
theorem dL_looks_54 : decode cL_looks 54 = .ok (.idiv, 1) := by decide +kernel
theorem dL_looks_55 : decode cL_looks 55 = .ok (.iload_n 3, 1) := by decide +kernel
theorem dL_looks_56 : decode cL_looks 56 = .ok (.bipush 9, 2) := by decide +kernel
theorem dL_looks_58 : decode cL_looks 58 = .ok (.irem, 1) := by decide +kernel
theorem dL_looks_59 : decode cL_looks 59 = .ok (.invokevirtual 19, 3) := by decide +kernel
theorem dL_looks_62 : decode cL_looks 62 = .ok (.i2l, 1) := by decide +kernel
theorem dL_looks_63 : decode cL_looks 63 = .ok (.ladd, 1) := by decide +kernel
theorem dL_looks_64 : decode cL_looks 64 = .ok (.lstore_n 1, 1) := by decide +kernel
theorem dL_looks_65 : decode cL_looks 65 = .ok (.iinc 3 1, 3) := by decide +kernel
theorem dL_looks_68 : decode cL_looks 68 = .ok (.goto (-35), 3) := by decide +kernel
theorem dL_looks_71 : decode cL_looks 71 = .ok (.iconst 0, 1) := by decide +kernel
theorem dL_looks_72 : decode cL_looks 72 = .ok (.istore_n 3, 1) := by decide +kernel
theorem dL_looks_73 : decode cL_looks 73 = .ok (.iload_n 3, 1) := by decide +kernel
theorem dL_looks_74 : decode cL_looks 74 = .ok (.bipush 9, 2) := by decide +kernel
theorem dL_looks_76 : decode cL_looks 76 = .ok (.aload_n 0, 1) := by decide +kernel
theorem dL_looks_77 : decode cL_looks 77 = .ok (.iconst 1, 1) := by decide +kernel
theorem dL_looks_78 : decode cL_looks 78 = .ok (.invokevirtual 13, 3) := by decide +kernel
theorem dL_looks_81 : decode cL_looks 81 = .ok (.imul, 1) := by decide +kernel
theorem dL_looks_82 : decode cL_looks 82 = .ok (.if_icmp .ge 66, 3) := by decide +kernel
theorem dL_looks_85 : decode cL_looks 85 = .ok (.ldc2_w 11, 3) := by decide +kernel
theorem dL_looks_88 : decode cL_looks 88 = .ok (.lload_n 1, 1) := by decide +kernel
theorem dL_looks_89 : decode cL_looks 89 = .ok (.lmul, 1) := by decide +kernel
theorem dL_looks_90 : decode cL_looks 90 = .ok (.aload_n 0, 1) := by decide +kernel
theorem dL_looks_91 : decode cL_looks 91 = .ok (.iload_n 3, 1) := by decide +kernel
theorem dL_looks_92 : decode cL_looks 92 = .ok (.bipush 9, 2) := by decide +kernel
theorem dL_looks_94 : decode cL_looks 94 = .ok (.idiv, 1) := by decide +kernel
theorem dL_looks_95 : decode cL_looks 95 = .ok (.iload_n 3, 1) := by decide +kernel
theorem dL_looks_96 : decode cL_looks 96 = .ok (.bipush 9, 2) := by decide +kernel
theorem dL_looks_98 : decode cL_looks 98 = .ok (.irem, 1) := by decide +kernel
theorem dL_looks_99 : decode cL_looks 99 = .ok (.invokevirtual 23, 3) := by decide +kernel
theorem dL_looks_102 : decode cL_looks 102 = .ok (.i2l, 1) := by decide +kernel
theorem dL_looks_103 : decode cL_looks 103 = .ok (.ladd, 1) := by decide +kernel
theorem dL_looks_104 : decode cL_looks 104 = .ok (.lstore_n 1, 1) := by decide +kernel
theorem dL_looks_105 : decode cL_looks 105 = .ok (.iconst 0, 1) := by decide +kernel
theorem dL_looks_106 : decode cL_looks 106 = .ok (.istore 4, 2) := by decide +kernel
theorem dL_looks_108 : decode cL_looks 108 = .ok (.iload 4, 2) := by decide +kernel
theorem dL_looks_110 : decode cL_looks 110 = .ok (.iconst 4, 1) := by decide +kernel
theorem dL_looks_111 : decode cL_looks 111 = .ok (.if_icmp .ge 31, 3) := by decide +kernel
theorem dL_looks_114 : decode cL_looks 114 = .ok (.ldc2_w 11, 3) := by decide +kernel
theorem dL_looks_117 : decode cL_looks 117 = .ok (.lload_n 1, 1) := by decide +kernel
theorem dL_looks_118 : decode cL_looks 118 = .ok (.lmul, 1) := by decide +kernel
theorem dL_looks_119 : decode cL_looks 119 = .ok (.aload_n 0, 1) := by decide +kernel
theorem dL_looks_120 : decode cL_looks 120 = .ok (.iload_n 3, 1) := by decide +kernel
theorem dL_looks_121 : decode cL_looks 121 = .ok (.bipush 9, 2) := by decide +kernel
theorem dL_looks_123 : decode cL_looks 123 = .ok (.idiv, 1) := by decide +kernel
theorem dL_looks_124 : decode cL_looks 124 = .ok (.iload_n 3, 1) := by decide +kernel
theorem dL_looks_125 : decode cL_looks 125 = .ok (.bipush 9, 2) := by decide +kernel
theorem dL_looks_127 : decode cL_looks 127 = .ok (.irem, 1) := by decide +kernel
theorem dL_looks_128 : decode cL_looks 128 = .ok (.iload 4, 2) := by decide +kernel
theorem dL_looks_130 : decode cL_looks 130 = .ok (.invokevirtual 26, 3) := by decide +kernel
theorem dL_looks_133 : decode cL_looks 133 = .ok (.i2l, 1) := by decide +kernel
theorem dL_looks_134 : decode cL_looks 134 = .ok (.ladd, 1) := by decide +kernel
theorem dL_looks_135 : decode cL_looks 135 = .ok (.lstore_n 1, 1) := by decide +kernel
theorem dL_looks_136 : decode cL_looks 136 = .ok (.iinc 4 1, 3) := by decide +kernel
theorem dL_looks_139 : decode cL_looks 139 = .ok (.goto (-31), 3) := by decide +kernel
theorem dL_looks_142 : decode cL_looks 142 = .ok (.iinc 3 1, 3) := by decide +kernel
theorem dL_looks_145 : decode cL_looks 145 = .ok (.goto (-72), 3) := by decide +kernel
theorem dL_looks_148 : decode cL_looks 148 = .ok (.iconst 0, 1) := by decide +kernel
theorem dL_looks_149 : decode cL_looks 149 = .ok (.istore_n 3, 1) := by decide +kernel
theorem dL_looks_150 : decode cL_looks 150 = .ok (.iload_n 3, 1) := by decide +kernel
theorem dL_looks_151 : decode cL_looks 151 = .ok (.bipush 9, 2) := by decide +kernel
theorem dL_looks_153 : decode cL_looks 153 = .ok (.if_icmp .ge 43, 3) := by decide +kernel
theorem dL_looks_156 : decode cL_looks 156 = .ok (.ldc2_w 11, 3) := by decide +kernel
theorem dL_looks_159 : decode cL_looks 159 = .ok (.ldc2_w 11, 3) := by decide +kernel
theorem dL_looks_162 : decode cL_looks 162 = .ok (.lload_n 1, 1) := by decide +kernel
theorem dL_looks_163 : decode cL_looks 163 = .ok (.lmul, 1) := by decide +kernel
theorem dL_looks_164 : decode cL_looks 164 = .ok (.aload_n 0, 1) := by decide +kernel
theorem dL_looks_165 : decode cL_looks 165 = .ok (.iload_n 3, 1) := by decide +kernel
theorem dL_looks_166 : decode cL_looks 166 = .ok (.iconst 3, 1) := by decide +kernel
theorem dL_looks_167 : decode cL_looks 167 = .ok (.idiv, 1) := by decide +kernel
theorem dL_looks_168 : decode cL_looks 168 = .ok (.iload_n 3, 1) := by decide +kernel
theorem dL_looks_169 : decode cL_looks 169 = .ok (.iconst 3, 1) := by decide +kernel
theorem dL_looks_170 : decode cL_looks 170 = .ok (.irem, 1) := by decide +kernel
theorem dL_looks_171 : decode cL_looks 171 = .ok (.invokevirtual 30, 3) := by decide +kernel
theorem dL_looks_174 : decode cL_looks 174 = .ok (.i2l, 1) := by decide +kernel
theorem dL_looks_175 : decode cL_looks 175 = .ok (.ladd, 1) := by decide +kernel
theorem dL_looks_176 : decode cL_looks 176 = .ok (.lmul, 1) := by decide +kernel
theorem dL_looks_177 : decode cL_looks 177 = .ok (.aload_n 0, 1) := by decide +kernel
theorem dL_looks_178 : decode cL_looks 178 = .ok (.iload_n 3, 1) := by decide +kernel
theorem dL_looks_179 : decode cL_looks 179 = .ok (.iconst 3, 1) := by decide +kernel
theorem dL_looks_180 : decode cL_looks 180 = .ok (.idiv, 1) := by decide +kernel
theorem dL_looks_181 : decode cL_looks 181 = .ok (.iload_n 3, 1) := by decide +kernel
theorem dL_looks_182 : decode cL_looks 182 = .ok (.iconst 3, 1) := by decide +kernel
theorem dL_looks_183 : decode cL_looks 183 = .ok (.irem, 1) := by decide +kernel
theorem dL_looks_184 : decode cL_looks 184 = .ok (.invokevirtual 33, 3) := by decide +kernel
theorem dL_looks_187 : decode cL_looks 187 = .ok (.i2l, 1) := by decide +kernel
theorem dL_looks_188 : decode cL_looks 188 = .ok (.ladd, 1) := by decide +kernel
theorem dL_looks_189 : decode cL_looks 189 = .ok (.lstore_n 1, 1) := by decide +kernel
theorem dL_looks_190 : decode cL_looks 190 = .ok (.iinc 3 1, 3) := by decide +kernel
theorem dL_looks_193 : decode cL_looks 193 = .ok (.goto (-43), 3) := by decide +kernel
theorem dL_looks_196 : decode cL_looks 196 = .ok (.ldc2_w 11, 3) := by decide +kernel
theorem dL_looks_199 : decode cL_looks 199 = .ok (.ldc2_w 11, 3) := by decide +kernel
theorem dL_looks_202 : decode cL_looks 202 = .ok (.lload_n 1, 1) := by decide +kernel
theorem dL_looks_203 : decode cL_looks 203 = .ok (.lmul, 1) := by decide +kernel
theorem dL_looks_204 : decode cL_looks 204 = .ok (.aload_n 0, 1) := by decide +kernel
theorem dL_looks_205 : decode cL_looks 205 = .ok (.iconst 0, 1) := by decide +kernel
theorem dL_looks_206 : decode cL_looks 206 = .ok (.invokevirtual 36, 3) := by decide +kernel
theorem dL_looks_209 : decode cL_looks 209 = .ok (.i2l, 1) := by decide +kernel
theorem dL_looks_210 : decode cL_looks 210 = .ok (.ladd, 1) := by decide +kernel
theorem dL_looks_211 : decode cL_looks 211 = .ok (.lmul, 1) := by decide +kernel
theorem dL_looks_212 : decode cL_looks 212 = .ok (.aload_n 0, 1) := by decide +kernel
theorem dL_looks_213 : decode cL_looks 213 = .ok (.iconst 1, 1) := by decide +kernel
theorem dL_looks_214 : decode cL_looks 214 = .ok (.invokevirtual 36, 3) := by decide +kernel
theorem dL_looks_217 : decode cL_looks 217 = .ok (.i2l, 1) := by decide +kernel
theorem dL_looks_218 : decode cL_looks 218 = .ok (.ladd, 1) := by decide +kernel
theorem dL_looks_219 : decode cL_looks 219 = .ok (.lreturn, 1) := by decide +kernel
theorem dL_isDrum_0 : decode cL_isDrum 0 = .ok (.iconst 0, 1) := by decide +kernel
theorem dL_isDrum_1 : decode cL_isDrum 1 = .ok (.istore_n 2, 1) := by decide +kernel
theorem dL_isDrum_2 : decode cL_isDrum 2 = .ok (.iconst 0, 1) := by decide +kernel
theorem dL_isDrum_3 : decode cL_isDrum 3 = .ok (.istore_n 3, 1) := by decide +kernel
theorem dL_isDrum_4 : decode cL_isDrum 4 = .ok (.iconst 0, 1) := by decide +kernel
theorem dL_isDrum_5 : decode cL_isDrum 5 = .ok (.istore 4, 2) := by decide +kernel
theorem dL_isDrum_7 : decode cL_isDrum 7 = .ok (.iload 4, 2) := by decide +kernel
theorem dL_isDrum_9 : decode cL_isDrum 9 = .ok (.aload_n 0, 1) := by decide +kernel
theorem dL_isDrum_10 : decode cL_isDrum 10 = .ok (.iconst 1, 1) := by decide +kernel
theorem dL_isDrum_11 : decode cL_isDrum 11 = .ok (.invokevirtual 13, 3) := by decide +kernel
theorem dL_isDrum_14 : decode cL_isDrum 14 = .ok (.if_icmp .ge 71, 3) := by decide +kernel
theorem dL_isDrum_17 : decode cL_isDrum 17 = .ok (.aload_n 0, 1) := by decide +kernel
theorem dL_isDrum_18 : decode cL_isDrum 18 = .ok (.iload 4, 2) := by decide +kernel
theorem dL_isDrum_20 : decode cL_isDrum 20 = .ok (.iconst 0, 1) := by decide +kernel
theorem dL_isDrum_21 : decode cL_isDrum 21 = .ok (.invokevirtual 23, 3) := by decide +kernel
theorem dL_isDrum_24 : decode cL_isDrum 24 = .ok (.iload_n 1, 1) := by decide +kernel
theorem dL_isDrum_25 : decode cL_isDrum 25 = .ok (.if_icmp .ne 18, 3) := by decide +kernel
theorem dL_isDrum_28 : decode cL_isDrum 28 = .ok (.aload_n 0, 1) := by decide +kernel
theorem dL_isDrum_29 : decode cL_isDrum 29 = .ok (.iload 4, 2) := by decide +kernel
theorem dL_isDrum_31 : decode cL_isDrum 31 = .ok (.iconst 5, 1) := by decide +kernel
theorem dL_isDrum_32 : decode cL_isDrum 32 = .ok (.invokevirtual 23, 3) := by decide +kernel
theorem dL_isDrum_35 : decode cL_isDrum 35 = .ok (.iconst (-1), 1) := by decide +kernel
theorem dL_isDrum_36 : decode cL_isDrum 36 = .ok (.if_icmp .eq 7, 3) := by decide +kernel
theorem dL_isDrum_39 : decode cL_isDrum 39 = .ok (.iconst 1, 1) := by decide +kernel
theorem dL_isDrum_40 : decode cL_isDrum 40 = .ok (.goto 4, 3) := by decide +kernel
theorem dL_isDrum_43 : decode cL_isDrum 43 = .ok (.iconst 0, 1) := by decide +kernel
theorem dL_isDrum_44 : decode cL_isDrum 44 = .ok (.istore 5, 2) := by decide +kernel
theorem dL_isDrum_46 : decode cL_isDrum 46 = .ok (.iload_n 2, 1) := by decide +kernel
theorem dL_isDrum_47 : decode cL_isDrum 47 = .ok (.iload 5, 2) := by decide +kernel
theorem dL_isDrum_49 : decode cL_isDrum 49 = .ok (.ifCond .eq 7, 3) := by decide +kernel
theorem dL_isDrum_52 : decode cL_isDrum 52 = .ok (.iconst 1, 1) := by decide +kernel
theorem dL_isDrum_53 : decode cL_isDrum 53 = .ok (.goto 4, 3) := by decide +kernel
theorem dL_isDrum_56 : decode cL_isDrum 56 = .ok (.iconst 0, 1) := by decide +kernel
theorem dL_isDrum_57 : decode cL_isDrum 57 = .ok (.iadd, 1) := by decide +kernel
theorem dL_isDrum_58 : decode cL_isDrum 58 = .ok (.istore_n 2, 1) := by decide +kernel
theorem dL_isDrum_59 : decode cL_isDrum 59 = .ok (.iload_n 3, 1) := by decide +kernel
theorem dL_isDrum_60 : decode cL_isDrum 60 = .ok (.iload 5, 2) := by decide +kernel
theorem dL_isDrum_62 : decode cL_isDrum 62 = .ok (.ifCond .eq 14, 3) := by decide +kernel
theorem dL_isDrum_65 : decode cL_isDrum 65 = .ok (.aload_n 0, 1) := by decide +kernel
theorem dL_isDrum_66 : decode cL_isDrum 66 = .ok (.iload 4, 2) := by decide +kernel
theorem dL_isDrum_68 : decode cL_isDrum 68 = .ok (.bipush 8, 2) := by decide +kernel
theorem dL_isDrum_70 : decode cL_isDrum 70 = .ok (.invokevirtual 23, 3) := by decide +kernel
theorem dL_isDrum_73 : decode cL_isDrum 73 = .ok (.goto 4, 3) := by decide +kernel
theorem dL_isDrum_76 : decode cL_isDrum 76 = .ok (.iconst 0, 1) := by decide +kernel
theorem dL_isDrum_77 : decode cL_isDrum 77 = .ok (.ior, 1) := by decide +kernel
theorem dL_isDrum_78 : decode cL_isDrum 78 = .ok (.istore_n 3, 1) := by decide +kernel
theorem dL_isDrum_79 : decode cL_isDrum 79 = .ok (.iinc 4 1, 3) := by decide +kernel
theorem dL_isDrum_82 : decode cL_isDrum 82 = .ok (.goto (-75), 3) := by decide +kernel
theorem dL_isDrum_85 : decode cL_isDrum 85 = .ok (.aload_n 0, 1) := by decide +kernel
theorem dL_isDrum_86 : decode cL_isDrum 86 = .ok (.iload_n 1, 1) := by decide +kernel
theorem dL_isDrum_87 : decode cL_isDrum 87 = .ok (.bipush 6, 2) := by decide +kernel
theorem dL_isDrum_89 : decode cL_isDrum 89 = .ok (.invokevirtual 19, 3) := by decide +kernel
theorem dL_isDrum_92 : decode cL_isDrum 92 = .ok (.istore 4, 2) := by decide +kernel
theorem dL_isDrum_94 : decode cL_isDrum 94 = .ok (.aload_n 0, 1) := by decide +kernel
theorem dL_isDrum_95 : decode cL_isDrum 95 = .ok (.iload_n 1, 1) := by decide +kernel
theorem dL_isDrum_96 : decode cL_isDrum 96 = .ok (.invokevirtual 71, 3) := by decide +kernel
theorem dL_isDrum_99 : decode cL_isDrum 99 = .ok (.istore 5, 2) := by decide +kernel
theorem dL_isDrum_101 : decode cL_isDrum 101 = .ok (.aload_n 0, 1) := by decide +kernel
theorem dL_isDrum_102 : decode cL_isDrum 102 = .ok (.iload_n 1, 1) := by decide +kernel
theorem dL_isDrum_103 : decode cL_isDrum 103 = .ok (.bipush 7, 2) := by decide +kernel
theorem dL_isDrum_105 : decode cL_isDrum 105 = .ok (.invokevirtual 19, 3) := by decide +kernel
theorem dL_isDrum_108 : decode cL_isDrum 108 = .ok (.iload 4, 2) := by decide +kernel
theorem dL_isDrum_110 : decode cL_isDrum 110 = .ok (.if_icmp .ne 143, 3) := by decide +kernel
theorem dL_isDrum_113 : decode cL_isDrum 113 = .ok (.iload 4, 2) := by decide +kernel
theorem dL_isDrum_115 : decode cL_isDrum 115 = .ok (.iconst (-1), 1) := by decide +kernel
theorem dL_isDrum_116 : decode cL_isDrum 116 = .ok (.if_icmp .ne 7, 3) := by decide +kernel
theorem dL_isDrum_119 : decode cL_isDrum 119 = .ok (.iconst 1, 1) := by decide +kernel
theorem dL_isDrum_120 : decode cL_isDrum 120 = .ok (.goto 4, 3) := by decide +kernel
theorem dL_isDrum_123 : decode cL_isDrum 123 = .ok (.iconst 0, 1) := by decide +kernel
theorem dL_isDrum_124 : decode cL_isDrum 124 = .ok (.aload_n 0, 1) := by decide +kernel
theorem dL_isDrum_125 : decode cL_isDrum 125 = .ok (.iload_n 1, 1) := by decide +kernel
theorem dL_isDrum_126 : decode cL_isDrum 126 = .ok (.iconst 4, 1) := by decide +kernel
theorem dL_isDrum_127 : decode cL_isDrum 127 = .ok (.invokevirtual 19, 3) := by decide +kernel
theorem dL_isDrum_130 : decode cL_isDrum 130 = .ok (.iconst (-1), 1) := by decide +kernel
theorem dL_isDrum_131 : decode cL_isDrum 131 = .ok (.if_icmp .eq 13, 3) := by decide +kernel
theorem dL_isDrum_134 : decode cL_isDrum 134 = .ok (.aload_n 0, 1) := by decide +kernel
theorem dL_isDrum_135 : decode cL_isDrum 135 = .ok (.iload_n 1, 1) := by decide +kernel
theorem dL_isDrum_136 : decode cL_isDrum 136 = .ok (.iconst 5, 1) := by decide +kernel
theorem dL_isDrum_137 : decode cL_isDrum 137 = .ok (.invokevirtual 19, 3) := by decide +kernel
theorem dL_isDrum_140 : decode cL_isDrum 140 = .ok (.iconst (-1), 1) := by decide +kernel
theorem dL_isDrum_141 : decode cL_isDrum 141 = .ok (.if_icmp .ne 7, 3) := by decide +kernel
theorem dL_isDrum_144 : decode cL_isDrum 144 = .ok (.iconst 1, 1) := by decide +kernel
theorem dL_isDrum_145 : decode cL_isDrum 145 = .ok (.goto 4, 3) := by decide +kernel
theorem dL_isDrum_148 : decode cL_isDrum 148 = .ok (.iconst 0, 1) := by decide +kernel
theorem dL_isDrum_149 : decode cL_isDrum 149 = .ok (.if_icmp .ne 104, 3) := by decide +kernel
theorem dL_isDrum_152 : decode cL_isDrum 152 = .ok (.iload 5, 2) := by decide +kernel
theorem dL_isDrum_154 : decode cL_isDrum 154 = .ok (.bipush 15, 2) := by decide +kernel
theorem dL_isDrum_156 : decode cL_isDrum 156 = .ok (.if_icmp .ne 7, 3) := by decide +kernel
theorem dL_isDrum_159 : decode cL_isDrum 159 = .ok (.iconst 1, 1) := by decide +kernel
theorem dL_isDrum_160 : decode cL_isDrum 160 = .ok (.goto 4, 3) := by decide +kernel
theorem dL_isDrum_163 : decode cL_isDrum 163 = .ok (.iconst 0, 1) := by decide +kernel
theorem dL_isDrum_164 : decode cL_isDrum 164 = .ok (.aload_n 0, 1) := by decide +kernel
theorem dL_isDrum_165 : decode cL_isDrum 165 = .ok (.iload_n 1, 1) := by decide +kernel
theorem dL_isDrum_166 : decode cL_isDrum 166 = .ok (.bipush 8, 2) := by decide +kernel
theorem dL_isDrum_168 : decode cL_isDrum 168 = .ok (.invokevirtual 19, 3) := by decide +kernel
theorem dL_isDrum_171 : decode cL_isDrum 171 = .ok (.iconst (-1), 1) := by decide +kernel
theorem dL_isDrum_172 : decode cL_isDrum 172 = .ok (.if_icmp .eq 7, 3) := by decide +kernel
theorem dL_isDrum_175 : decode cL_isDrum 175 = .ok (.iconst 1, 1) := by decide +kernel
theorem dL_isDrum_176 : decode cL_isDrum 176 = .ok (.goto 4, 3) := by decide +kernel
theorem dL_isDrum_179 : decode cL_isDrum 179 = .ok (.iconst 0, 1) := by decide +kernel
theorem dL_isDrum_180 : decode cL_isDrum 180 = .ok (.if_icmp .ne 73, 3) := by decide +kernel
theorem dL_isDrum_183 : decode cL_isDrum 183 = .ok (.iload 5, 2) := by decide +kernel
theorem dL_isDrum_185 : decode cL_isDrum 185 = .ok (.ifCond .ne 32, 3) := by decide +kernel
theorem dL_isDrum_188 : decode cL_isDrum 188 = .ok (.iload_n 2, 1) := by decide +kernel
theorem dL_isDrum_189 : decode cL_isDrum 189 = .ok (.iconst 2, 1) := by decide +kernel
theorem dL_isDrum_190 : decode cL_isDrum 190 = .ok (.if_icmp .lt 63, 3) := by decide +kernel
theorem dL_isDrum_193 : decode cL_isDrum 193 = .ok (.iload_n 3, 1) := by decide +kernel
theorem dL_isDrum_194 : decode cL_isDrum 194 = .ok (.invokestatic 97, 3) := by decide +kernel
theorem dL_isDrum_197 : decode cL_isDrum 197 = .ok (.iconst 2, 1) := by decide +kernel
theorem dL_isDrum_198 : decode cL_isDrum 198 = .ok (.if_icmp .lt 55, 3) := by decide +kernel
theorem dL_isDrum_201 : decode cL_isDrum 201 = .ok (.iload 4, 2) := by decide +kernel
theorem dL_isDrum_203 : decode cL_isDrum 203 = .ok (.sipush 980, 3) := by decide +kernel
theorem dL_isDrum_206 : decode cL_isDrum 206 = .ok (.if_icmp .lt 47, 3) := by decide +kernel
theorem dL_isDrum_209 : decode cL_isDrum 209 = .ok (.iload 4, 2) := by decide +kernel
theorem dL_isDrum_211 : decode cL_isDrum 211 = .ok (.sipush 1020, 3) := by decide +kernel
theorem dL_isDrum_214 : decode cL_isDrum 214 = .ok (.if_icmp .gt 39, 3) := by decide +kernel
theorem dL_isDrum_217 : decode cL_isDrum 217 = .ok (.iload 5, 2) := by decide +kernel
theorem dL_isDrum_219 : decode cL_isDrum 219 = .ok (.bipush 9, 2) := by decide +kernel
theorem dL_isDrum_221 : decode cL_isDrum 221 = .ok (.if_icmp .ne 8, 3) := by decide +kernel
theorem dL_isDrum_224 : decode cL_isDrum 224 = .ok (.iload_n 2, 1) := by decide +kernel
theorem dL_isDrum_225 : decode cL_isDrum 225 = .ok (.iconst 2, 1) := by decide +kernel
theorem dL_isDrum_226 : decode cL_isDrum 226 = .ok (.if_icmp .ge 27, 3) := by decide +kernel
theorem dL_isDrum_229 : decode cL_isDrum 229 = .ok (.iload 5, 2) := by decide +kernel
theorem dL_isDrum_231 : decode cL_isDrum 231 = .ok (.bipush 10, 2) := by decide +kernel
theorem dL_isDrum_233 : decode cL_isDrum 233 = .ok (.if_icmp .ne 16, 3) := by decide +kernel
theorem dL_isDrum_236 : decode cL_isDrum 236 = .ok (.iload_n 2, 1) := by decide +kernel
theorem dL_isDrum_237 : decode cL_isDrum 237 = .ok (.iconst 2, 1) := by decide +kernel
theorem dL_isDrum_238 : decode cL_isDrum 238 = .ok (.if_icmp .lt 15, 3) := by decide +kernel
theorem dL_isDrum_241 : decode cL_isDrum 241 = .ok (.iload_n 3, 1) := by decide +kernel
theorem dL_isDrum_242 : decode cL_isDrum 242 = .ok (.invokestatic 97, 3) := by decide +kernel
theorem dL_isDrum_245 : decode cL_isDrum 245 = .ok (.iconst 2, 1) := by decide +kernel
theorem dL_isDrum_246 : decode cL_isDrum 246 = .ok (.if_icmp .ge 7, 3) := by decide +kernel
theorem dL_isDrum_249 : decode cL_isDrum 249 = .ok (.iconst 1, 1) := by decide +kernel
theorem dL_isDrum_250 : decode cL_isDrum 250 = .ok (.goto 4, 3) := by decide +kernel
theorem dL_isDrum_253 : decode cL_isDrum 253 = .ok (.iconst 0, 1) := by decide +kernel
theorem dL_isDrum_254 : decode cL_isDrum 254 = .ok (.ireturn, 1) := by decide +kernel

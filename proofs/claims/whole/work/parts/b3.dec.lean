/-! decode rows: the text's methods, the reference's constructor -/
theorem d_Str_toCharArray_0 : decode m_Str_toCharArray.2.1 0 = .ok (.aload_n 0, 1) := by decide +kernel
theorem d_Str_toCharArray_1 : decode m_Str_toCharArray.2.1 1 = .ok (.invokevirtual 492, 3) := by decide +kernel
theorem d_Str_toCharArray_4 : decode m_Str_toCharArray.2.1 4 = .ok (.ifCond .eq 13, 3) := by decide +kernel
theorem d_Str_toCharArray_7 : decode m_Str_toCharArray.2.1 7 = .ok (.aload_n 0, 1) := by decide +kernel
theorem d_Str_toCharArray_8 : decode m_Str_toCharArray.2.1 8 = .ok (.getfield 9, 3) := by decide +kernel
theorem d_Str_toCharArray_11 : decode m_Str_toCharArray.2.1 11 = .ok (.invokestatic 299, 3) := by decide +kernel
theorem d_Str_toCharArray_14 : decode m_Str_toCharArray.2.1 14 = .ok (.goto 10, 3) := by decide +kernel
theorem d_Str_toCharArray_17 : decode m_Str_toCharArray.2.1 17 = .ok (.aload_n 0, 1) := by decide +kernel
theorem d_Str_toCharArray_18 : decode m_Str_toCharArray.2.1 18 = .ok (.getfield 9, 3) := by decide +kernel
theorem d_Str_toCharArray_21 : decode m_Str_toCharArray.2.1 21 = .ok (.invokestatic 303, 3) := by decide +kernel
theorem d_Str_toCharArray_24 : decode m_Str_toCharArray.2.1 24 = .ok (.areturn, 1) := by decide +kernel
theorem d_Str_isLatin1_0 : decode m_Str_isLatin1.2.1 0 = .ok (.getstatic 38, 3) := by decide +kernel
theorem d_Str_isLatin1_3 : decode m_Str_isLatin1.2.1 3 = .ok (.ifCond .eq 14, 3) := by decide +kernel
theorem d_Str_isLatin1_6 : decode m_Str_isLatin1.2.1 6 = .ok (.aload_n 0, 1) := by decide +kernel
theorem d_Str_isLatin1_7 : decode m_Str_isLatin1.2.1 7 = .ok (.getfield 15, 3) := by decide +kernel
theorem d_Str_isLatin1_10 : decode m_Str_isLatin1.2.1 10 = .ok (.ifCond .ne 7, 3) := by decide +kernel
theorem d_Str_isLatin1_13 : decode m_Str_isLatin1.2.1 13 = .ok (.iconst 1, 1) := by decide +kernel
theorem d_Str_isLatin1_14 : decode m_Str_isLatin1.2.1 14 = .ok (.goto 4, 3) := by decide +kernel
theorem d_Str_isLatin1_17 : decode m_Str_isLatin1.2.1 17 = .ok (.iconst 0, 1) := by decide +kernel
theorem d_Str_isLatin1_18 : decode m_Str_isLatin1.2.1 18 = .ok (.ireturn, 1) := by decide +kernel
theorem d_Str_checkBoundsOffCount_0 : decode m_Str_checkBoundsOffCount.2.1 0 = .ok (.iload_n 0, 1) := by decide +kernel
theorem d_Str_checkBoundsOffCount_1 : decode m_Str_checkBoundsOffCount.2.1 1 = .ok (.iload_n 1, 1) := by decide +kernel
theorem d_Str_checkBoundsOffCount_2 : decode m_Str_checkBoundsOffCount.2.1 2 = .ok (.iload_n 2, 1) := by decide +kernel
theorem d_Str_checkBoundsOffCount_3 : decode m_Str_checkBoundsOffCount.2.1 3 = .ok (.getstatic 1053, 3) := by decide +kernel
theorem d_Str_checkBoundsOffCount_6 : decode m_Str_checkBoundsOffCount.2.1 6 = .ok (.invokestatic 1065, 3) := by decide +kernel
theorem d_Str_checkBoundsOffCount_9 : decode m_Str_checkBoundsOffCount.2.1 9 = .ok (.ireturn, 1) := by decide +kernel
theorem d_Lat_toChars_0 : decode m_Lat_toChars.2.1 0 = .ok (.aload_n 0, 1) := by decide +kernel
theorem d_Lat_toChars_1 : decode m_Lat_toChars.2.1 1 = .ok (.arraylength, 1) := by decide +kernel
theorem d_Lat_toChars_2 : decode m_Lat_toChars.2.1 2 = .ok (.newarray .char, 2) := by decide +kernel
theorem d_Lat_toChars_4 : decode m_Lat_toChars.2.1 4 = .ok (.astore_n 1, 1) := by decide +kernel
theorem d_Lat_toChars_5 : decode m_Lat_toChars.2.1 5 = .ok (.aload_n 0, 1) := by decide +kernel
theorem d_Lat_toChars_6 : decode m_Lat_toChars.2.1 6 = .ok (.iconst 0, 1) := by decide +kernel
theorem d_Lat_toChars_7 : decode m_Lat_toChars.2.1 7 = .ok (.aload_n 1, 1) := by decide +kernel
theorem d_Lat_toChars_8 : decode m_Lat_toChars.2.1 8 = .ok (.iconst 0, 1) := by decide +kernel
theorem d_Lat_toChars_9 : decode m_Lat_toChars.2.1 9 = .ok (.aload_n 0, 1) := by decide +kernel
theorem d_Lat_toChars_10 : decode m_Lat_toChars.2.1 10 = .ok (.arraylength, 1) := by decide +kernel
theorem d_Lat_toChars_11 : decode m_Lat_toChars.2.1 11 = .ok (.invokestatic 13, 3) := by decide +kernel
theorem d_Lat_toChars_14 : decode m_Lat_toChars.2.1 14 = .ok (.aload_n 1, 1) := by decide +kernel
theorem d_Lat_toChars_15 : decode m_Lat_toChars.2.1 15 = .ok (.areturn, 1) := by decide +kernel
theorem d_Lat_inflate_0 : decode m_Lat_inflate.2.1 0 = .ok (.iconst 0, 1) := by decide +kernel
theorem d_Lat_inflate_1 : decode m_Lat_inflate.2.1 1 = .ok (.istore 5, 2) := by decide +kernel
theorem d_Lat_inflate_3 : decode m_Lat_inflate.2.1 3 = .ok (.iload 5, 2) := by decide +kernel
theorem d_Lat_inflate_5 : decode m_Lat_inflate.2.1 5 = .ok (.iload 4, 2) := by decide +kernel
theorem d_Lat_inflate_7 : decode m_Lat_inflate.2.1 7 = .ok (.if_icmp .ge 26, 3) := by decide +kernel
theorem d_Lat_inflate_10 : decode m_Lat_inflate.2.1 10 = .ok (.aload_n 2, 1) := by decide +kernel
theorem d_Lat_inflate_11 : decode m_Lat_inflate.2.1 11 = .ok (.iload_n 3, 1) := by decide +kernel
theorem d_Lat_inflate_12 : decode m_Lat_inflate.2.1 12 = .ok (.iinc 3 1, 3) := by decide +kernel
theorem d_Lat_inflate_15 : decode m_Lat_inflate.2.1 15 = .ok (.aload_n 0, 1) := by decide +kernel
theorem d_Lat_inflate_16 : decode m_Lat_inflate.2.1 16 = .ok (.iload_n 1, 1) := by decide +kernel
theorem d_Lat_inflate_17 : decode m_Lat_inflate.2.1 17 = .ok (.iinc 1 1, 3) := by decide +kernel
theorem d_Lat_inflate_20 : decode m_Lat_inflate.2.1 20 = .ok (.baload, 1) := by decide +kernel
theorem d_Lat_inflate_21 : decode m_Lat_inflate.2.1 21 = .ok (.sipush 255, 3) := by decide +kernel
theorem d_Lat_inflate_24 : decode m_Lat_inflate.2.1 24 = .ok (.iand, 1) := by decide +kernel
theorem d_Lat_inflate_25 : decode m_Lat_inflate.2.1 25 = .ok (.i2c, 1) := by decide +kernel
theorem d_Lat_inflate_26 : decode m_Lat_inflate.2.1 26 = .ok (.castore, 1) := by decide +kernel
theorem d_Lat_inflate_27 : decode m_Lat_inflate.2.1 27 = .ok (.iinc 5 1, 3) := by decide +kernel
theorem d_Lat_inflate_30 : decode m_Lat_inflate.2.1 30 = .ok (.goto (-27), 3) := by decide +kernel
theorem d_Lat_inflate_33 : decode m_Lat_inflate.2.1 33 = .ok (.return_, 1) := by decide +kernel
theorem d_Mod_init_0 : decode m_Mod_init.2.1 0 = .ok (.aload_n 0, 1) := by decide +kernel
theorem d_Mod_init_1 : decode m_Mod_init.2.1 1 = .ok (.invokespecial 26, 3) := by decide +kernel
theorem d_Mod_init_4 : decode m_Mod_init.2.1 4 = .ok (.aload_n 0, 1) := by decide +kernel
theorem d_Mod_init_5 : decode m_Mod_init.2.1 5 = .ok (.bipush 7, 2) := by decide +kernel
theorem d_Mod_init_7 : decode m_Mod_init.2.1 7 = .ok (.newarray .int, 2) := by decide +kernel
theorem d_Mod_init_9 : decode m_Mod_init.2.1 9 = .ok (.putfield 7, 3) := by decide +kernel
theorem d_Mod_init_12 : decode m_Mod_init.2.1 12 = .ok (.aload_n 0, 1) := by decide +kernel
theorem d_Mod_init_13 : decode m_Mod_init.2.1 13 = .ok (.sipush 5633, 3) := by decide +kernel
theorem d_Mod_init_16 : decode m_Mod_init.2.1 16 = .ok (.newarray .int, 2) := by decide +kernel
theorem d_Mod_init_18 : decode m_Mod_init.2.1 18 = .ok (.putfield 32, 3) := by decide +kernel
theorem d_Mod_init_21 : decode m_Mod_init.2.1 21 = .ok (.aload_n 0, 1) := by decide +kernel
theorem d_Mod_init_22 : decode m_Mod_init.2.1 22 = .ok (.sipush 11266, 3) := by decide +kernel
theorem d_Mod_init_25 : decode m_Mod_init.2.1 25 = .ok (.newarray .int, 2) := by decide +kernel
theorem d_Mod_init_27 : decode m_Mod_init.2.1 27 = .ok (.putfield 35, 3) := by decide +kernel
theorem d_Mod_init_30 : decode m_Mod_init.2.1 30 = .ok (.aload_n 0, 1) := by decide +kernel
theorem d_Mod_init_31 : decode m_Mod_init.2.1 31 = .ok (.iconst 2, 1) := by decide +kernel
theorem d_Mod_init_32 : decode m_Mod_init.2.1 32 = .ok (.newarray .boolean, 2) := by decide +kernel
theorem d_Mod_init_34 : decode m_Mod_init.2.1 34 = .ok (.putfield 38, 3) := by decide +kernel
theorem d_Mod_init_37 : decode m_Mod_init.2.1 37 = .ok (.aload_n 0, 1) := by decide +kernel
theorem d_Mod_init_38 : decode m_Mod_init.2.1 38 = .ok (.bipush 44, 2) := by decide +kernel
theorem d_Mod_init_40 : decode m_Mod_init.2.1 40 = .ok (.newarray .int, 2) := by decide +kernel
theorem d_Mod_init_42 : decode m_Mod_init.2.1 42 = .ok (.putfield 42, 3) := by decide +kernel
theorem d_Mod_init_45 : decode m_Mod_init.2.1 45 = .ok (.aload_n 0, 1) := by decide +kernel
theorem d_Mod_init_46 : decode m_Mod_init.2.1 46 = .ok (.sipush 137, 3) := by decide +kernel
theorem d_Mod_init_49 : decode m_Mod_init.2.1 49 = .ok (.newarray .byte, 2) := by decide +kernel
theorem d_Mod_init_51 : decode m_Mod_init.2.1 51 = .ok (.dup, 1) := by decide +kernel
theorem d_Mod_init_52 : decode m_Mod_init.2.1 52 = .ok (.iconst 0, 1) := by decide +kernel
theorem d_Mod_init_53 : decode m_Mod_init.2.1 53 = .ok (.bipush 99, 2) := by decide +kernel
theorem d_Mod_init_55 : decode m_Mod_init.2.1 55 = .ok (.bastore, 1) := by decide +kernel
theorem d_Mod_init_56 : decode m_Mod_init.2.1 56 = .ok (.dup, 1) := by decide +kernel
theorem d_Mod_init_57 : decode m_Mod_init.2.1 57 = .ok (.iconst 1, 1) := by decide +kernel
theorem d_Mod_init_58 : decode m_Mod_init.2.1 58 = .ok (.bipush 111, 2) := by decide +kernel
theorem d_Mod_init_60 : decode m_Mod_init.2.1 60 = .ok (.bastore, 1) := by decide +kernel
theorem d_Mod_init_61 : decode m_Mod_init.2.1 61 = .ok (.dup, 1) := by decide +kernel
theorem d_Mod_init_62 : decode m_Mod_init.2.1 62 = .ok (.iconst 2, 1) := by decide +kernel
theorem d_Mod_init_63 : decode m_Mod_init.2.1 63 = .ok (.bipush 115, 2) := by decide +kernel
theorem d_Mod_init_65 : decode m_Mod_init.2.1 65 = .ok (.bastore, 1) := by decide +kernel
theorem d_Mod_init_66 : decode m_Mod_init.2.1 66 = .ok (.dup, 1) := by decide +kernel
theorem d_Mod_init_67 : decode m_Mod_init.2.1 67 = .ok (.iconst 3, 1) := by decide +kernel
theorem d_Mod_init_68 : decode m_Mod_init.2.1 68 = .ok (.bipush 116, 2) := by decide +kernel
theorem d_Mod_init_70 : decode m_Mod_init.2.1 70 = .ok (.bastore, 1) := by decide +kernel
theorem d_Mod_init_71 : decode m_Mod_init.2.1 71 = .ok (.dup, 1) := by decide +kernel
theorem d_Mod_init_72 : decode m_Mod_init.2.1 72 = .ok (.iconst 4, 1) := by decide +kernel
theorem d_Mod_init_73 : decode m_Mod_init.2.1 73 = .ok (.bipush 115, 2) := by decide +kernel
theorem d_Mod_init_75 : decode m_Mod_init.2.1 75 = .ok (.bastore, 1) := by decide +kernel
theorem d_Mod_init_76 : decode m_Mod_init.2.1 76 = .ok (.dup, 1) := by decide +kernel
theorem d_Mod_init_77 : decode m_Mod_init.2.1 77 = .ok (.iconst 5, 1) := by decide +kernel
theorem d_Mod_init_78 : decode m_Mod_init.2.1 78 = .ok (.bipush 32, 2) := by decide +kernel
theorem d_Mod_init_80 : decode m_Mod_init.2.1 80 = .ok (.bastore, 1) := by decide +kernel
theorem d_Mod_init_81 : decode m_Mod_init.2.1 81 = .ok (.dup, 1) := by decide +kernel
theorem d_Mod_init_82 : decode m_Mod_init.2.1 82 = .ok (.bipush 6, 2) := by decide +kernel
theorem d_Mod_init_84 : decode m_Mod_init.2.1 84 = .ok (.bipush 115, 2) := by decide +kernel
theorem d_Mod_init_86 : decode m_Mod_init.2.1 86 = .ok (.bastore, 1) := by decide +kernel
theorem d_Mod_init_87 : decode m_Mod_init.2.1 87 = .ok (.dup, 1) := by decide +kernel
theorem d_Mod_init_88 : decode m_Mod_init.2.1 88 = .ok (.bipush 7, 2) := by decide +kernel
theorem d_Mod_init_90 : decode m_Mod_init.2.1 90 = .ok (.bipush 116, 2) := by decide +kernel
theorem d_Mod_init_92 : decode m_Mod_init.2.1 92 = .ok (.bastore, 1) := by decide +kernel
theorem d_Mod_init_93 : decode m_Mod_init.2.1 93 = .ok (.dup, 1) := by decide +kernel
theorem d_Mod_init_94 : decode m_Mod_init.2.1 94 = .ok (.bipush 8, 2) := by decide +kernel
theorem d_Mod_init_96 : decode m_Mod_init.2.1 96 = .ok (.bipush 114, 2) := by decide +kernel
theorem d_Mod_init_98 : decode m_Mod_init.2.1 98 = .ok (.bastore, 1) := by decide +kernel
theorem d_Mod_init_99 : decode m_Mod_init.2.1 99 = .ok (.dup, 1) := by decide +kernel
theorem d_Mod_init_100 : decode m_Mod_init.2.1 100 = .ok (.bipush 9, 2) := by decide +kernel
theorem d_Mod_init_102 : decode m_Mod_init.2.1 102 = .ok (.bipush 105, 2) := by decide +kernel
theorem d_Mod_init_104 : decode m_Mod_init.2.1 104 = .ok (.bastore, 1) := by decide +kernel
theorem d_Mod_init_105 : decode m_Mod_init.2.1 105 = .ok (.dup, 1) := by decide +kernel
theorem d_Mod_init_106 : decode m_Mod_init.2.1 106 = .ok (.bipush 10, 2) := by decide +kernel
theorem d_Mod_init_108 : decode m_Mod_init.2.1 108 = .ok (.bipush 107, 2) := by decide +kernel
theorem d_Mod_init_110 : decode m_Mod_init.2.1 110 = .ok (.bastore, 1) := by decide +kernel
theorem d_Mod_init_111 : decode m_Mod_init.2.1 111 = .ok (.dup, 1) := by decide +kernel
theorem d_Mod_init_112 : decode m_Mod_init.2.1 112 = .ok (.bipush 11, 2) := by decide +kernel
theorem d_Mod_init_114 : decode m_Mod_init.2.1 114 = .ok (.bipush 101, 2) := by decide +kernel
theorem d_Mod_init_116 : decode m_Mod_init.2.1 116 = .ok (.bastore, 1) := by decide +kernel
theorem d_Mod_init_117 : decode m_Mod_init.2.1 117 = .ok (.dup, 1) := by decide +kernel
theorem d_Mod_init_118 : decode m_Mod_init.2.1 118 = .ok (.bipush 12, 2) := by decide +kernel
theorem d_Mod_init_120 : decode m_Mod_init.2.1 120 = .ok (.bipush 115, 2) := by decide +kernel
theorem d_Mod_init_122 : decode m_Mod_init.2.1 122 = .ok (.bastore, 1) := by decide +kernel
theorem d_Mod_init_123 : decode m_Mod_init.2.1 123 = .ok (.dup, 1) := by decide +kernel
theorem d_Mod_init_124 : decode m_Mod_init.2.1 124 = .ok (.bipush 13, 2) := by decide +kernel
theorem d_Mod_init_126 : decode m_Mod_init.2.1 126 = .ok (.bipush 32, 2) := by decide +kernel
theorem d_Mod_init_128 : decode m_Mod_init.2.1 128 = .ok (.bastore, 1) := by decide +kernel
theorem d_Mod_init_129 : decode m_Mod_init.2.1 129 = .ok (.dup, 1) := by decide +kernel
theorem d_Mod_init_130 : decode m_Mod_init.2.1 130 = .ok (.bipush 14, 2) := by decide +kernel
theorem d_Mod_init_132 : decode m_Mod_init.2.1 132 = .ok (.bipush 119, 2) := by decide +kernel
theorem d_Mod_init_134 : decode m_Mod_init.2.1 134 = .ok (.bastore, 1) := by decide +kernel
theorem d_Mod_init_135 : decode m_Mod_init.2.1 135 = .ok (.dup, 1) := by decide +kernel
theorem d_Mod_init_136 : decode m_Mod_init.2.1 136 = .ok (.bipush 15, 2) := by decide +kernel
theorem d_Mod_init_138 : decode m_Mod_init.2.1 138 = .ok (.bipush 111, 2) := by decide +kernel
theorem d_Mod_init_140 : decode m_Mod_init.2.1 140 = .ok (.bastore, 1) := by decide +kernel
theorem d_Mod_init_141 : decode m_Mod_init.2.1 141 = .ok (.dup, 1) := by decide +kernel
theorem d_Mod_init_142 : decode m_Mod_init.2.1 142 = .ok (.bipush 16, 2) := by decide +kernel
theorem d_Mod_init_144 : decode m_Mod_init.2.1 144 = .ok (.bipush 114, 2) := by decide +kernel
theorem d_Mod_init_146 : decode m_Mod_init.2.1 146 = .ok (.bastore, 1) := by decide +kernel
theorem d_Mod_init_147 : decode m_Mod_init.2.1 147 = .ok (.dup, 1) := by decide +kernel
theorem d_Mod_init_148 : decode m_Mod_init.2.1 148 = .ok (.bipush 17, 2) := by decide +kernel
theorem d_Mod_init_150 : decode m_Mod_init.2.1 150 = .ok (.bipush 116, 2) := by decide +kernel
theorem d_Mod_init_152 : decode m_Mod_init.2.1 152 = .ok (.bastore, 1) := by decide +kernel
theorem d_Mod_init_153 : decode m_Mod_init.2.1 153 = .ok (.dup, 1) := by decide +kernel
theorem d_Mod_init_154 : decode m_Mod_init.2.1 154 = .ok (.bipush 18, 2) := by decide +kernel
theorem d_Mod_init_156 : decode m_Mod_init.2.1 156 = .ok (.bipush 104, 2) := by decide +kernel
theorem d_Mod_init_158 : decode m_Mod_init.2.1 158 = .ok (.bastore, 1) := by decide +kernel
theorem d_Mod_init_159 : decode m_Mod_init.2.1 159 = .ok (.dup, 1) := by decide +kernel
theorem d_Mod_init_160 : decode m_Mod_init.2.1 160 = .ok (.bipush 19, 2) := by decide +kernel
theorem d_Mod_init_162 : decode m_Mod_init.2.1 162 = .ok (.bipush 32, 2) := by decide +kernel
theorem d_Mod_init_164 : decode m_Mod_init.2.1 164 = .ok (.bastore, 1) := by decide +kernel
theorem d_Mod_init_165 : decode m_Mod_init.2.1 165 = .ok (.dup, 1) := by decide +kernel
theorem d_Mod_init_166 : decode m_Mod_init.2.1 166 = .ok (.bipush 20, 2) := by decide +kernel
theorem d_Mod_init_168 : decode m_Mod_init.2.1 168 = .ok (.bipush 98, 2) := by decide +kernel
theorem d_Mod_init_170 : decode m_Mod_init.2.1 170 = .ok (.bastore, 1) := by decide +kernel
theorem d_Mod_init_171 : decode m_Mod_init.2.1 171 = .ok (.dup, 1) := by decide +kernel
theorem d_Mod_init_172 : decode m_Mod_init.2.1 172 = .ok (.bipush 21, 2) := by decide +kernel
theorem d_Mod_init_174 : decode m_Mod_init.2.1 174 = .ok (.bipush 97, 2) := by decide +kernel
theorem d_Mod_init_176 : decode m_Mod_init.2.1 176 = .ok (.bastore, 1) := by decide +kernel
theorem d_Mod_init_177 : decode m_Mod_init.2.1 177 = .ok (.dup, 1) := by decide +kernel
theorem d_Mod_init_178 : decode m_Mod_init.2.1 178 = .ok (.bipush 22, 2) := by decide +kernel
theorem d_Mod_init_180 : decode m_Mod_init.2.1 180 = .ok (.bipush 114, 2) := by decide +kernel
theorem d_Mod_init_182 : decode m_Mod_init.2.1 182 = .ok (.bastore, 1) := by decide +kernel
theorem d_Mod_init_183 : decode m_Mod_init.2.1 183 = .ok (.dup, 1) := by decide +kernel
theorem d_Mod_init_184 : decode m_Mod_init.2.1 184 = .ok (.bipush 23, 2) := by decide +kernel
theorem d_Mod_init_186 : decode m_Mod_init.2.1 186 = .ok (.bipush 115, 2) := by decide +kernel
theorem d_Mod_init_188 : decode m_Mod_init.2.1 188 = .ok (.bastore, 1) := by decide +kernel
theorem d_Mod_init_189 : decode m_Mod_init.2.1 189 = .ok (.dup, 1) := by decide +kernel
theorem d_Mod_init_190 : decode m_Mod_init.2.1 190 = .ok (.bipush 24, 2) := by decide +kernel
theorem d_Mod_init_192 : decode m_Mod_init.2.1 192 = .ok (.bipush 32, 2) := by decide +kernel
theorem d_Mod_init_194 : decode m_Mod_init.2.1 194 = .ok (.bastore, 1) := by decide +kernel
theorem d_Mod_init_195 : decode m_Mod_init.2.1 195 = .ok (.dup, 1) := by decide +kernel
theorem d_Mod_init_196 : decode m_Mod_init.2.1 196 = .ok (.bipush 25, 2) := by decide +kernel
theorem d_Mod_init_198 : decode m_Mod_init.2.1 198 = .ok (.bipush 105, 2) := by decide +kernel
theorem d_Mod_init_200 : decode m_Mod_init.2.1 200 = .ok (.bastore, 1) := by decide +kernel
theorem d_Mod_init_201 : decode m_Mod_init.2.1 201 = .ok (.dup, 1) := by decide +kernel
theorem d_Mod_init_202 : decode m_Mod_init.2.1 202 = .ok (.bipush 26, 2) := by decide +kernel
theorem d_Mod_init_204 : decode m_Mod_init.2.1 204 = .ok (.bipush 102, 2) := by decide +kernel
theorem d_Mod_init_206 : decode m_Mod_init.2.1 206 = .ok (.bastore, 1) := by decide +kernel
theorem d_Mod_init_207 : decode m_Mod_init.2.1 207 = .ok (.dup, 1) := by decide +kernel
theorem d_Mod_init_208 : decode m_Mod_init.2.1 208 = .ok (.bipush 27, 2) := by decide +kernel
theorem d_Mod_init_210 : decode m_Mod_init.2.1 210 = .ok (.bipush 32, 2) := by decide +kernel
theorem d_Mod_init_212 : decode m_Mod_init.2.1 212 = .ok (.bastore, 1) := by decide +kernel
theorem d_Mod_init_213 : decode m_Mod_init.2.1 213 = .ok (.dup, 1) := by decide +kernel
theorem d_Mod_init_214 : decode m_Mod_init.2.1 214 = .ok (.bipush 28, 2) := by decide +kernel
theorem d_Mod_init_216 : decode m_Mod_init.2.1 216 = .ok (.bipush 111, 2) := by decide +kernel
theorem d_Mod_init_218 : decode m_Mod_init.2.1 218 = .ok (.bastore, 1) := by decide +kernel
theorem d_Mod_init_219 : decode m_Mod_init.2.1 219 = .ok (.dup, 1) := by decide +kernel
theorem d_Mod_init_220 : decode m_Mod_init.2.1 220 = .ok (.bipush 29, 2) := by decide +kernel
theorem d_Mod_init_222 : decode m_Mod_init.2.1 222 = .ok (.bipush 114, 2) := by decide +kernel
theorem d_Mod_init_224 : decode m_Mod_init.2.1 224 = .ok (.bastore, 1) := by decide +kernel
theorem d_Mod_init_225 : decode m_Mod_init.2.1 225 = .ok (.dup, 1) := by decide +kernel
theorem d_Mod_init_226 : decode m_Mod_init.2.1 226 = .ok (.bipush 30, 2) := by decide +kernel
theorem d_Mod_init_228 : decode m_Mod_init.2.1 228 = .ok (.bipush 32, 2) := by decide +kernel
theorem d_Mod_init_230 : decode m_Mod_init.2.1 230 = .ok (.bastore, 1) := by decide +kernel
theorem d_Mod_init_231 : decode m_Mod_init.2.1 231 = .ok (.dup, 1) := by decide +kernel
theorem d_Mod_init_232 : decode m_Mod_init.2.1 232 = .ok (.bipush 31, 2) := by decide +kernel
theorem d_Mod_init_234 : decode m_Mod_init.2.1 234 = .ok (.bipush 97, 2) := by decide +kernel
theorem d_Mod_init_236 : decode m_Mod_init.2.1 236 = .ok (.bastore, 1) := by decide +kernel
theorem d_Mod_init_237 : decode m_Mod_init.2.1 237 = .ok (.dup, 1) := by decide +kernel
theorem d_Mod_init_238 : decode m_Mod_init.2.1 238 = .ok (.bipush 32, 2) := by decide +kernel
theorem d_Mod_init_240 : decode m_Mod_init.2.1 240 = .ok (.bipush 110, 2) := by decide +kernel
theorem d_Mod_init_242 : decode m_Mod_init.2.1 242 = .ok (.bastore, 1) := by decide +kernel
theorem d_Mod_init_243 : decode m_Mod_init.2.1 243 = .ok (.dup, 1) := by decide +kernel
theorem d_Mod_init_244 : decode m_Mod_init.2.1 244 = .ok (.bipush 33, 2) := by decide +kernel
theorem d_Mod_init_246 : decode m_Mod_init.2.1 246 = .ok (.bipush 100, 2) := by decide +kernel
theorem d_Mod_init_248 : decode m_Mod_init.2.1 248 = .ok (.bastore, 1) := by decide +kernel
theorem d_Mod_init_249 : decode m_Mod_init.2.1 249 = .ok (.dup, 1) := by decide +kernel
theorem d_Mod_init_250 : decode m_Mod_init.2.1 250 = .ok (.bipush 34, 2) := by decide +kernel
theorem d_Mod_init_252 : decode m_Mod_init.2.1 252 = .ok (.bipush 32, 2) := by decide +kernel
theorem d_Mod_init_254 : decode m_Mod_init.2.1 254 = .ok (.bastore, 1) := by decide +kernel
theorem d_Mod_init_255 : decode m_Mod_init.2.1 255 = .ok (.dup, 1) := by decide +kernel
theorem d_Mod_init_256 : decode m_Mod_init.2.1 256 = .ok (.bipush 35, 2) := by decide +kernel
theorem d_Mod_init_258 : decode m_Mod_init.2.1 258 = .ok (.bipush 110, 2) := by decide +kernel
theorem d_Mod_init_260 : decode m_Mod_init.2.1 260 = .ok (.bastore, 1) := by decide +kernel
theorem d_Mod_init_261 : decode m_Mod_init.2.1 261 = .ok (.dup, 1) := by decide +kernel
theorem d_Mod_init_262 : decode m_Mod_init.2.1 262 = .ok (.bipush 36, 2) := by decide +kernel
theorem d_Mod_init_264 : decode m_Mod_init.2.1 264 = .ok (.bipush 111, 2) := by decide +kernel
theorem d_Mod_init_266 : decode m_Mod_init.2.1 266 = .ok (.bastore, 1) := by decide +kernel
theorem d_Mod_init_267 : decode m_Mod_init.2.1 267 = .ok (.dup, 1) := by decide +kernel
theorem d_Mod_init_268 : decode m_Mod_init.2.1 268 = .ok (.bipush 37, 2) := by decide +kernel
theorem d_Mod_init_270 : decode m_Mod_init.2.1 270 = .ok (.bipush 116, 2) := by decide +kernel
theorem d_Mod_init_272 : decode m_Mod_init.2.1 272 = .ok (.bastore, 1) := by decide +kernel
theorem d_Mod_init_273 : decode m_Mod_init.2.1 273 = .ok (.dup, 1) := by decide +kernel
theorem d_Mod_init_274 : decode m_Mod_init.2.1 274 = .ok (.bipush 38, 2) := by decide +kernel
theorem d_Mod_init_276 : decode m_Mod_init.2.1 276 = .ok (.bipush 32, 2) := by decide +kernel
theorem d_Mod_init_278 : decode m_Mod_init.2.1 278 = .ok (.bastore, 1) := by decide +kernel
theorem d_Mod_init_279 : decode m_Mod_init.2.1 279 = .ok (.dup, 1) := by decide +kernel
theorem d_Mod_init_280 : decode m_Mod_init.2.1 280 = .ok (.bipush 39, 2) := by decide +kernel
theorem d_Mod_init_282 : decode m_Mod_init.2.1 282 = .ok (.bipush 107, 2) := by decide +kernel
theorem d_Mod_init_284 : decode m_Mod_init.2.1 284 = .ok (.bastore, 1) := by decide +kernel
theorem d_Mod_init_285 : decode m_Mod_init.2.1 285 = .ok (.dup, 1) := by decide +kernel
theorem d_Mod_init_286 : decode m_Mod_init.2.1 286 = .ok (.bipush 40, 2) := by decide +kernel
theorem d_Mod_init_288 : decode m_Mod_init.2.1 288 = .ok (.bipush 105, 2) := by decide +kernel
theorem d_Mod_init_290 : decode m_Mod_init.2.1 290 = .ok (.bastore, 1) := by decide +kernel
theorem d_Mod_init_291 : decode m_Mod_init.2.1 291 = .ok (.dup, 1) := by decide +kernel
theorem d_Mod_init_292 : decode m_Mod_init.2.1 292 = .ok (.bipush 41, 2) := by decide +kernel
theorem d_Mod_init_294 : decode m_Mod_init.2.1 294 = .ok (.bipush 110, 2) := by decide +kernel
theorem d_Mod_init_296 : decode m_Mod_init.2.1 296 = .ok (.bastore, 1) := by decide +kernel
theorem d_Mod_init_297 : decode m_Mod_init.2.1 297 = .ok (.dup, 1) := by decide +kernel
theorem d_Mod_init_298 : decode m_Mod_init.2.1 298 = .ok (.bipush 42, 2) := by decide +kernel
theorem d_Mod_init_300 : decode m_Mod_init.2.1 300 = .ok (.bipush 100, 2) := by decide +kernel
theorem d_Mod_init_302 : decode m_Mod_init.2.1 302 = .ok (.bastore, 1) := by decide +kernel
theorem d_Mod_init_303 : decode m_Mod_init.2.1 303 = .ok (.dup, 1) := by decide +kernel
theorem d_Mod_init_304 : decode m_Mod_init.2.1 304 = .ok (.bipush 43, 2) := by decide +kernel
theorem d_Mod_init_306 : decode m_Mod_init.2.1 306 = .ok (.bipush 32, 2) := by decide +kernel
theorem d_Mod_init_308 : decode m_Mod_init.2.1 308 = .ok (.bastore, 1) := by decide +kernel
theorem d_Mod_init_309 : decode m_Mod_init.2.1 309 = .ok (.dup, 1) := by decide +kernel
theorem d_Mod_init_310 : decode m_Mod_init.2.1 310 = .ok (.bipush 44, 2) := by decide +kernel
theorem d_Mod_init_312 : decode m_Mod_init.2.1 312 = .ok (.bipush 111, 2) := by decide +kernel
theorem d_Mod_init_314 : decode m_Mod_init.2.1 314 = .ok (.bastore, 1) := by decide +kernel
theorem d_Mod_init_315 : decode m_Mod_init.2.1 315 = .ok (.dup, 1) := by decide +kernel
theorem d_Mod_init_316 : decode m_Mod_init.2.1 316 = .ok (.bipush 45, 2) := by decide +kernel
theorem d_Mod_init_318 : decode m_Mod_init.2.1 318 = .ok (.bipush 112, 2) := by decide +kernel
theorem d_Mod_init_320 : decode m_Mod_init.2.1 320 = .ok (.bastore, 1) := by decide +kernel
theorem d_Mod_init_321 : decode m_Mod_init.2.1 321 = .ok (.dup, 1) := by decide +kernel
theorem d_Mod_init_322 : decode m_Mod_init.2.1 322 = .ok (.bipush 46, 2) := by decide +kernel
theorem d_Mod_init_324 : decode m_Mod_init.2.1 324 = .ok (.bipush 101, 2) := by decide +kernel
theorem d_Mod_init_326 : decode m_Mod_init.2.1 326 = .ok (.bastore, 1) := by decide +kernel
theorem d_Mod_init_327 : decode m_Mod_init.2.1 327 = .ok (.dup, 1) := by decide +kernel
theorem d_Mod_init_328 : decode m_Mod_init.2.1 328 = .ok (.bipush 47, 2) := by decide +kernel
theorem d_Mod_init_330 : decode m_Mod_init.2.1 330 = .ok (.bipush 110, 2) := by decide +kernel
theorem d_Mod_init_332 : decode m_Mod_init.2.1 332 = .ok (.bastore, 1) := by decide +kernel
theorem d_Mod_init_333 : decode m_Mod_init.2.1 333 = .ok (.dup, 1) := by decide +kernel
theorem d_Mod_init_334 : decode m_Mod_init.2.1 334 = .ok (.bipush 48, 2) := by decide +kernel
theorem d_Mod_init_336 : decode m_Mod_init.2.1 336 = .ok (.bipush 32, 2) := by decide +kernel
theorem d_Mod_init_338 : decode m_Mod_init.2.1 338 = .ok (.bastore, 1) := by decide +kernel
theorem d_Mod_init_339 : decode m_Mod_init.2.1 339 = .ok (.dup, 1) := by decide +kernel
theorem d_Mod_init_340 : decode m_Mod_init.2.1 340 = .ok (.bipush 49, 2) := by decide +kernel
theorem d_Mod_init_342 : decode m_Mod_init.2.1 342 = .ok (.bipush 112, 2) := by decide +kernel
theorem d_Mod_init_344 : decode m_Mod_init.2.1 344 = .ok (.bastore, 1) := by decide +kernel
theorem d_Mod_init_345 : decode m_Mod_init.2.1 345 = .ok (.dup, 1) := by decide +kernel
theorem d_Mod_init_346 : decode m_Mod_init.2.1 346 = .ok (.bipush 50, 2) := by decide +kernel
theorem d_Mod_init_348 : decode m_Mod_init.2.1 348 = .ok (.bipush 101, 2) := by decide +kernel
theorem d_Mod_init_350 : decode m_Mod_init.2.1 350 = .ok (.bastore, 1) := by decide +kernel
theorem d_Mod_init_351 : decode m_Mod_init.2.1 351 = .ok (.dup, 1) := by decide +kernel
theorem d_Mod_init_352 : decode m_Mod_init.2.1 352 = .ok (.bipush 51, 2) := by decide +kernel
theorem d_Mod_init_354 : decode m_Mod_init.2.1 354 = .ok (.bipush 114, 2) := by decide +kernel
theorem d_Mod_init_356 : decode m_Mod_init.2.1 356 = .ok (.bastore, 1) := by decide +kernel
theorem d_Mod_init_357 : decode m_Mod_init.2.1 357 = .ok (.dup, 1) := by decide +kernel
theorem d_Mod_init_358 : decode m_Mod_init.2.1 358 = .ok (.bipush 52, 2) := by decide +kernel
theorem d_Mod_init_360 : decode m_Mod_init.2.1 360 = .ok (.bipush 115, 2) := by decide +kernel
theorem d_Mod_init_362 : decode m_Mod_init.2.1 362 = .ok (.bastore, 1) := by decide +kernel
theorem d_Mod_init_363 : decode m_Mod_init.2.1 363 = .ok (.dup, 1) := by decide +kernel
theorem d_Mod_init_364 : decode m_Mod_init.2.1 364 = .ok (.bipush 53, 2) := by decide +kernel
theorem d_Mod_init_366 : decode m_Mod_init.2.1 366 = .ok (.bipush 111, 2) := by decide +kernel
theorem d_Mod_init_368 : decode m_Mod_init.2.1 368 = .ok (.bastore, 1) := by decide +kernel
theorem d_Mod_init_369 : decode m_Mod_init.2.1 369 = .ok (.dup, 1) := by decide +kernel
theorem d_Mod_init_370 : decode m_Mod_init.2.1 370 = .ok (.bipush 54, 2) := by decide +kernel
theorem d_Mod_init_372 : decode m_Mod_init.2.1 372 = .ok (.bipush 110, 2) := by decide +kernel
theorem d_Mod_init_374 : decode m_Mod_init.2.1 374 = .ok (.bastore, 1) := by decide +kernel
theorem d_Mod_init_375 : decode m_Mod_init.2.1 375 = .ok (.dup, 1) := by decide +kernel
theorem d_Mod_init_376 : decode m_Mod_init.2.1 376 = .ok (.bipush 55, 2) := by decide +kernel
theorem d_Mod_init_378 : decode m_Mod_init.2.1 378 = .ok (.bipush 32, 2) := by decide +kernel
theorem d_Mod_init_380 : decode m_Mod_init.2.1 380 = .ok (.bastore, 1) := by decide +kernel
theorem d_Mod_init_381 : decode m_Mod_init.2.1 381 = .ok (.dup, 1) := by decide +kernel
theorem d_Mod_init_382 : decode m_Mod_init.2.1 382 = .ok (.bipush 56, 2) := by decide +kernel
theorem d_Mod_init_384 : decode m_Mod_init.2.1 384 = .ok (.bipush 112, 2) := by decide +kernel
theorem d_Mod_init_386 : decode m_Mod_init.2.1 386 = .ok (.bastore, 1) := by decide +kernel
theorem d_Mod_init_387 : decode m_Mod_init.2.1 387 = .ok (.dup, 1) := by decide +kernel
theorem d_Mod_init_388 : decode m_Mod_init.2.1 388 = .ok (.bipush 57, 2) := by decide +kernel
theorem d_Mod_init_390 : decode m_Mod_init.2.1 390 = .ok (.bipush 108, 2) := by decide +kernel
theorem d_Mod_init_392 : decode m_Mod_init.2.1 392 = .ok (.bastore, 1) := by decide +kernel
theorem d_Mod_init_393 : decode m_Mod_init.2.1 393 = .ok (.dup, 1) := by decide +kernel
theorem d_Mod_init_394 : decode m_Mod_init.2.1 394 = .ok (.bipush 58, 2) := by decide +kernel
theorem d_Mod_init_396 : decode m_Mod_init.2.1 396 = .ok (.bipush 97, 2) := by decide +kernel
theorem d_Mod_init_398 : decode m_Mod_init.2.1 398 = .ok (.bastore, 1) := by decide +kernel
theorem d_Mod_init_399 : decode m_Mod_init.2.1 399 = .ok (.dup, 1) := by decide +kernel
theorem d_Mod_init_400 : decode m_Mod_init.2.1 400 = .ok (.bipush 59, 2) := by decide +kernel
theorem d_Mod_init_402 : decode m_Mod_init.2.1 402 = .ok (.bipush 99, 2) := by decide +kernel
theorem d_Mod_init_404 : decode m_Mod_init.2.1 404 = .ok (.bastore, 1) := by decide +kernel
theorem d_Mod_init_405 : decode m_Mod_init.2.1 405 = .ok (.dup, 1) := by decide +kernel
theorem d_Mod_init_406 : decode m_Mod_init.2.1 406 = .ok (.bipush 60, 2) := by decide +kernel
theorem d_Mod_init_408 : decode m_Mod_init.2.1 408 = .ok (.bipush 101, 2) := by decide +kernel
theorem d_Mod_init_410 : decode m_Mod_init.2.1 410 = .ok (.bastore, 1) := by decide +kernel
theorem d_Mod_init_411 : decode m_Mod_init.2.1 411 = .ok (.dup, 1) := by decide +kernel
theorem d_Mod_init_412 : decode m_Mod_init.2.1 412 = .ok (.bipush 61, 2) := by decide +kernel
theorem d_Mod_init_414 : decode m_Mod_init.2.1 414 = .ok (.bipush 32, 2) := by decide +kernel
theorem d_Mod_init_416 : decode m_Mod_init.2.1 416 = .ok (.bastore, 1) := by decide +kernel
theorem d_Mod_init_417 : decode m_Mod_init.2.1 417 = .ok (.dup, 1) := by decide +kernel
theorem d_Mod_init_418 : decode m_Mod_init.2.1 418 = .ok (.bipush 62, 2) := by decide +kernel
theorem d_Mod_init_420 : decode m_Mod_init.2.1 420 = .ok (.bipush 109, 2) := by decide +kernel
theorem d_Mod_init_422 : decode m_Mod_init.2.1 422 = .ok (.bastore, 1) := by decide +kernel
theorem d_Mod_init_423 : decode m_Mod_init.2.1 423 = .ok (.dup, 1) := by decide +kernel
theorem d_Mod_init_424 : decode m_Mod_init.2.1 424 = .ok (.bipush 63, 2) := by decide +kernel
theorem d_Mod_init_426 : decode m_Mod_init.2.1 426 = .ok (.bipush 111, 2) := by decide +kernel
theorem d_Mod_init_428 : decode m_Mod_init.2.1 428 = .ok (.bastore, 1) := by decide +kernel
theorem d_Mod_init_429 : decode m_Mod_init.2.1 429 = .ok (.dup, 1) := by decide +kernel
theorem d_Mod_init_430 : decode m_Mod_init.2.1 430 = .ok (.bipush 64, 2) := by decide +kernel
theorem d_Mod_init_432 : decode m_Mod_init.2.1 432 = .ok (.bipush 111, 2) := by decide +kernel
theorem d_Mod_init_434 : decode m_Mod_init.2.1 434 = .ok (.bastore, 1) := by decide +kernel
theorem d_Mod_init_435 : decode m_Mod_init.2.1 435 = .ok (.dup, 1) := by decide +kernel
theorem d_Mod_init_436 : decode m_Mod_init.2.1 436 = .ok (.bipush 65, 2) := by decide +kernel
theorem d_Mod_init_438 : decode m_Mod_init.2.1 438 = .ok (.bipush 100, 2) := by decide +kernel
theorem d_Mod_init_440 : decode m_Mod_init.2.1 440 = .ok (.bastore, 1) := by decide +kernel
theorem d_Mod_init_441 : decode m_Mod_init.2.1 441 = .ok (.dup, 1) := by decide +kernel
theorem d_Mod_init_442 : decode m_Mod_init.2.1 442 = .ok (.bipush 66, 2) := by decide +kernel
theorem d_Mod_init_444 : decode m_Mod_init.2.1 444 = .ok (.bipush 32, 2) := by decide +kernel
theorem d_Mod_init_446 : decode m_Mod_init.2.1 446 = .ok (.bastore, 1) := by decide +kernel
theorem d_Mod_init_447 : decode m_Mod_init.2.1 447 = .ok (.dup, 1) := by decide +kernel
theorem d_Mod_init_448 : decode m_Mod_init.2.1 448 = .ok (.bipush 67, 2) := by decide +kernel
theorem d_Mod_init_450 : decode m_Mod_init.2.1 450 = .ok (.bipush 115, 2) := by decide +kernel
theorem d_Mod_init_452 : decode m_Mod_init.2.1 452 = .ok (.bastore, 1) := by decide +kernel
theorem d_Mod_init_453 : decode m_Mod_init.2.1 453 = .ok (.dup, 1) := by decide +kernel
theorem d_Mod_init_454 : decode m_Mod_init.2.1 454 = .ok (.bipush 68, 2) := by decide +kernel
theorem d_Mod_init_456 : decode m_Mod_init.2.1 456 = .ok (.bipush 105, 2) := by decide +kernel
theorem d_Mod_init_458 : decode m_Mod_init.2.1 458 = .ok (.bastore, 1) := by decide +kernel
theorem d_Mod_init_459 : decode m_Mod_init.2.1 459 = .ok (.dup, 1) := by decide +kernel
theorem d_Mod_init_460 : decode m_Mod_init.2.1 460 = .ok (.bipush 69, 2) := by decide +kernel
theorem d_Mod_init_462 : decode m_Mod_init.2.1 462 = .ok (.bipush 103, 2) := by decide +kernel
theorem d_Mod_init_464 : decode m_Mod_init.2.1 464 = .ok (.bastore, 1) := by decide +kernel
theorem d_Mod_init_465 : decode m_Mod_init.2.1 465 = .ok (.dup, 1) := by decide +kernel
theorem d_Mod_init_466 : decode m_Mod_init.2.1 466 = .ok (.bipush 70, 2) := by decide +kernel
theorem d_Mod_init_468 : decode m_Mod_init.2.1 468 = .ok (.bipush 110, 2) := by decide +kernel
theorem d_Mod_init_470 : decode m_Mod_init.2.1 470 = .ok (.bastore, 1) := by decide +kernel
theorem d_Mod_init_471 : decode m_Mod_init.2.1 471 = .ok (.dup, 1) := by decide +kernel
theorem d_Mod_init_472 : decode m_Mod_init.2.1 472 = .ok (.bipush 71, 2) := by decide +kernel
theorem d_Mod_init_474 : decode m_Mod_init.2.1 474 = .ok (.bipush 32, 2) := by decide +kernel
theorem d_Mod_init_476 : decode m_Mod_init.2.1 476 = .ok (.bastore, 1) := by decide +kernel
theorem d_Mod_init_477 : decode m_Mod_init.2.1 477 = .ok (.dup, 1) := by decide +kernel
theorem d_Mod_init_478 : decode m_Mod_init.2.1 478 = .ok (.bipush 72, 2) := by decide +kernel
theorem d_Mod_init_480 : decode m_Mod_init.2.1 480 = .ok (.bipush 108, 2) := by decide +kernel
theorem d_Mod_init_482 : decode m_Mod_init.2.1 482 = .ok (.bastore, 1) := by decide +kernel
theorem d_Mod_init_483 : decode m_Mod_init.2.1 483 = .ok (.dup, 1) := by decide +kernel
theorem d_Mod_init_484 : decode m_Mod_init.2.1 484 = .ok (.bipush 73, 2) := by decide +kernel
theorem d_Mod_init_486 : decode m_Mod_init.2.1 486 = .ok (.bipush 101, 2) := by decide +kernel
theorem d_Mod_init_488 : decode m_Mod_init.2.1 488 = .ok (.bastore, 1) := by decide +kernel
theorem d_Mod_init_489 : decode m_Mod_init.2.1 489 = .ok (.dup, 1) := by decide +kernel
theorem d_Mod_init_490 : decode m_Mod_init.2.1 490 = .ok (.bipush 74, 2) := by decide +kernel
theorem d_Mod_init_492 : decode m_Mod_init.2.1 492 = .ok (.bipush 110, 2) := by decide +kernel
theorem d_Mod_init_494 : decode m_Mod_init.2.1 494 = .ok (.bastore, 1) := by decide +kernel
theorem d_Mod_init_495 : decode m_Mod_init.2.1 495 = .ok (.dup, 1) := by decide +kernel
theorem d_Mod_init_496 : decode m_Mod_init.2.1 496 = .ok (.bipush 75, 2) := by decide +kernel
theorem d_Mod_init_498 : decode m_Mod_init.2.1 498 = .ok (.bipush 103, 2) := by decide +kernel
theorem d_Mod_init_500 : decode m_Mod_init.2.1 500 = .ok (.bastore, 1) := by decide +kernel
theorem d_Mod_init_501 : decode m_Mod_init.2.1 501 = .ok (.dup, 1) := by decide +kernel
theorem d_Mod_init_502 : decode m_Mod_init.2.1 502 = .ok (.bipush 76, 2) := by decide +kernel
theorem d_Mod_init_504 : decode m_Mod_init.2.1 504 = .ok (.bipush 116, 2) := by decide +kernel
theorem d_Mod_init_506 : decode m_Mod_init.2.1 506 = .ok (.bastore, 1) := by decide +kernel
theorem d_Mod_init_507 : decode m_Mod_init.2.1 507 = .ok (.dup, 1) := by decide +kernel
theorem d_Mod_init_508 : decode m_Mod_init.2.1 508 = .ok (.bipush 77, 2) := by decide +kernel
theorem d_Mod_init_510 : decode m_Mod_init.2.1 510 = .ok (.bipush 104, 2) := by decide +kernel
theorem d_Mod_init_512 : decode m_Mod_init.2.1 512 = .ok (.bastore, 1) := by decide +kernel
theorem d_Mod_init_513 : decode m_Mod_init.2.1 513 = .ok (.dup, 1) := by decide +kernel
theorem d_Mod_init_514 : decode m_Mod_init.2.1 514 = .ok (.bipush 78, 2) := by decide +kernel
theorem d_Mod_init_516 : decode m_Mod_init.2.1 516 = .ok (.bipush 32, 2) := by decide +kernel
theorem d_Mod_init_518 : decode m_Mod_init.2.1 518 = .ok (.bastore, 1) := by decide +kernel
theorem d_Mod_init_519 : decode m_Mod_init.2.1 519 = .ok (.dup, 1) := by decide +kernel
theorem d_Mod_init_520 : decode m_Mod_init.2.1 520 = .ok (.bipush 79, 2) := by decide +kernel
theorem d_Mod_init_522 : decode m_Mod_init.2.1 522 = .ok (.bipush 112, 2) := by decide +kernel
theorem d_Mod_init_524 : decode m_Mod_init.2.1 524 = .ok (.bastore, 1) := by decide +kernel
theorem d_Mod_init_525 : decode m_Mod_init.2.1 525 = .ok (.dup, 1) := by decide +kernel
theorem d_Mod_init_526 : decode m_Mod_init.2.1 526 = .ok (.bipush 80, 2) := by decide +kernel
theorem d_Mod_init_528 : decode m_Mod_init.2.1 528 = .ok (.bipush 97, 2) := by decide +kernel
theorem d_Mod_init_530 : decode m_Mod_init.2.1 530 = .ok (.bastore, 1) := by decide +kernel
theorem d_Mod_init_531 : decode m_Mod_init.2.1 531 = .ok (.dup, 1) := by decide +kernel
theorem d_Mod_init_532 : decode m_Mod_init.2.1 532 = .ok (.bipush 81, 2) := by decide +kernel
theorem d_Mod_init_534 : decode m_Mod_init.2.1 534 = .ok (.bipush 103, 2) := by decide +kernel
theorem d_Mod_init_536 : decode m_Mod_init.2.1 536 = .ok (.bastore, 1) := by decide +kernel
theorem d_Mod_init_537 : decode m_Mod_init.2.1 537 = .ok (.dup, 1) := by decide +kernel
theorem d_Mod_init_538 : decode m_Mod_init.2.1 538 = .ok (.bipush 82, 2) := by decide +kernel
theorem d_Mod_init_540 : decode m_Mod_init.2.1 540 = .ok (.bipush 101, 2) := by decide +kernel
theorem d_Mod_init_542 : decode m_Mod_init.2.1 542 = .ok (.bastore, 1) := by decide +kernel
theorem d_Mod_init_543 : decode m_Mod_init.2.1 543 = .ok (.dup, 1) := by decide +kernel
theorem d_Mod_init_544 : decode m_Mod_init.2.1 544 = .ok (.bipush 83, 2) := by decide +kernel
theorem d_Mod_init_546 : decode m_Mod_init.2.1 546 = .ok (.bipush 32, 2) := by decide +kernel
theorem d_Mod_init_548 : decode m_Mod_init.2.1 548 = .ok (.bastore, 1) := by decide +kernel
theorem d_Mod_init_549 : decode m_Mod_init.2.1 549 = .ok (.dup, 1) := by decide +kernel
theorem d_Mod_init_550 : decode m_Mod_init.2.1 550 = .ok (.bipush 84, 2) := by decide +kernel
theorem d_Mod_init_552 : decode m_Mod_init.2.1 552 = .ok (.bipush 100, 2) := by decide +kernel
theorem d_Mod_init_554 : decode m_Mod_init.2.1 554 = .ok (.bastore, 1) := by decide +kernel
theorem d_Mod_init_555 : decode m_Mod_init.2.1 555 = .ok (.dup, 1) := by decide +kernel
theorem d_Mod_init_556 : decode m_Mod_init.2.1 556 = .ok (.bipush 85, 2) := by decide +kernel
theorem d_Mod_init_558 : decode m_Mod_init.2.1 558 = .ok (.bipush 111, 2) := by decide +kernel
theorem d_Mod_init_560 : decode m_Mod_init.2.1 560 = .ok (.bastore, 1) := by decide +kernel
theorem d_Mod_init_561 : decode m_Mod_init.2.1 561 = .ok (.dup, 1) := by decide +kernel
theorem d_Mod_init_562 : decode m_Mod_init.2.1 562 = .ok (.bipush 86, 2) := by decide +kernel
theorem d_Mod_init_564 : decode m_Mod_init.2.1 564 = .ok (.bipush 110, 2) := by decide +kernel
theorem d_Mod_init_566 : decode m_Mod_init.2.1 566 = .ok (.bastore, 1) := by decide +kernel
theorem d_Mod_init_567 : decode m_Mod_init.2.1 567 = .ok (.dup, 1) := by decide +kernel
theorem d_Mod_init_568 : decode m_Mod_init.2.1 568 = .ok (.bipush 87, 2) := by decide +kernel
theorem d_Mod_init_570 : decode m_Mod_init.2.1 570 = .ok (.bipush 101, 2) := by decide +kernel
theorem d_Mod_init_572 : decode m_Mod_init.2.1 572 = .ok (.bastore, 1) := by decide +kernel
theorem d_Mod_init_573 : decode m_Mod_init.2.1 573 = .ok (.dup, 1) := by decide +kernel
theorem d_Mod_init_574 : decode m_Mod_init.2.1 574 = .ok (.bipush 88, 2) := by decide +kernel
theorem d_Mod_init_576 : decode m_Mod_init.2.1 576 = .ok (.bipush 32, 2) := by decide +kernel
theorem d_Mod_init_578 : decode m_Mod_init.2.1 578 = .ok (.bastore, 1) := by decide +kernel
theorem d_Mod_init_579 : decode m_Mod_init.2.1 579 = .ok (.dup, 1) := by decide +kernel
theorem d_Mod_init_580 : decode m_Mod_init.2.1 580 = .ok (.bipush 89, 2) := by decide +kernel
theorem d_Mod_init_582 : decode m_Mod_init.2.1 582 = .ok (.bipush 108, 2) := by decide +kernel
theorem d_Mod_init_584 : decode m_Mod_init.2.1 584 = .ok (.bastore, 1) := by decide +kernel
theorem d_Mod_init_585 : decode m_Mod_init.2.1 585 = .ok (.dup, 1) := by decide +kernel
theorem d_Mod_init_586 : decode m_Mod_init.2.1 586 = .ok (.bipush 90, 2) := by decide +kernel
theorem d_Mod_init_588 : decode m_Mod_init.2.1 588 = .ok (.bipush 97, 2) := by decide +kernel
theorem d_Mod_init_590 : decode m_Mod_init.2.1 590 = .ok (.bastore, 1) := by decide +kernel
theorem d_Mod_init_591 : decode m_Mod_init.2.1 591 = .ok (.dup, 1) := by decide +kernel
theorem d_Mod_init_592 : decode m_Mod_init.2.1 592 = .ok (.bipush 91, 2) := by decide +kernel
theorem d_Mod_init_594 : decode m_Mod_init.2.1 594 = .ok (.bipush 116, 2) := by decide +kernel
theorem d_Mod_init_596 : decode m_Mod_init.2.1 596 = .ok (.bastore, 1) := by decide +kernel
theorem d_Mod_init_597 : decode m_Mod_init.2.1 597 = .ok (.dup, 1) := by decide +kernel
theorem d_Mod_init_598 : decode m_Mod_init.2.1 598 = .ok (.bipush 92, 2) := by decide +kernel
theorem d_Mod_init_600 : decode m_Mod_init.2.1 600 = .ok (.bipush 101, 2) := by decide +kernel
theorem d_Mod_init_602 : decode m_Mod_init.2.1 602 = .ok (.bastore, 1) := by decide +kernel
theorem d_Mod_init_603 : decode m_Mod_init.2.1 603 = .ok (.dup, 1) := by decide +kernel
theorem d_Mod_init_604 : decode m_Mod_init.2.1 604 = .ok (.bipush 93, 2) := by decide +kernel
theorem d_Mod_init_606 : decode m_Mod_init.2.1 606 = .ok (.bipush 115, 2) := by decide +kernel
theorem d_Mod_init_608 : decode m_Mod_init.2.1 608 = .ok (.bastore, 1) := by decide +kernel
theorem d_Mod_init_609 : decode m_Mod_init.2.1 609 = .ok (.dup, 1) := by decide +kernel
theorem d_Mod_init_610 : decode m_Mod_init.2.1 610 = .ok (.bipush 94, 2) := by decide +kernel
theorem d_Mod_init_612 : decode m_Mod_init.2.1 612 = .ok (.bipush 116, 2) := by decide +kernel
theorem d_Mod_init_614 : decode m_Mod_init.2.1 614 = .ok (.bastore, 1) := by decide +kernel
theorem d_Mod_init_615 : decode m_Mod_init.2.1 615 = .ok (.dup, 1) := by decide +kernel
theorem d_Mod_init_616 : decode m_Mod_init.2.1 616 = .ok (.bipush 95, 2) := by decide +kernel
theorem d_Mod_init_618 : decode m_Mod_init.2.1 618 = .ok (.bipush 32, 2) := by decide +kernel
theorem d_Mod_init_620 : decode m_Mod_init.2.1 620 = .ok (.bastore, 1) := by decide +kernel
theorem d_Mod_init_621 : decode m_Mod_init.2.1 621 = .ok (.dup, 1) := by decide +kernel
theorem d_Mod_init_622 : decode m_Mod_init.2.1 622 = .ok (.bipush 96, 2) := by decide +kernel
theorem d_Mod_init_624 : decode m_Mod_init.2.1 624 = .ok (.bipush 108, 2) := by decide +kernel
theorem d_Mod_init_626 : decode m_Mod_init.2.1 626 = .ok (.bastore, 1) := by decide +kernel
theorem d_Mod_init_627 : decode m_Mod_init.2.1 627 = .ok (.dup, 1) := by decide +kernel
theorem d_Mod_init_628 : decode m_Mod_init.2.1 628 = .ok (.bipush 97, 2) := by decide +kernel
theorem d_Mod_init_630 : decode m_Mod_init.2.1 630 = .ok (.bipush 111, 2) := by decide +kernel
theorem d_Mod_init_632 : decode m_Mod_init.2.1 632 = .ok (.bastore, 1) := by decide +kernel
theorem d_Mod_init_633 : decode m_Mod_init.2.1 633 = .ok (.dup, 1) := by decide +kernel
theorem d_Mod_init_634 : decode m_Mod_init.2.1 634 = .ok (.bipush 98, 2) := by decide +kernel
theorem d_Mod_init_636 : decode m_Mod_init.2.1 636 = .ok (.bipush 111, 2) := by decide +kernel
theorem d_Mod_init_638 : decode m_Mod_init.2.1 638 = .ok (.bastore, 1) := by decide +kernel
theorem d_Mod_init_639 : decode m_Mod_init.2.1 639 = .ok (.dup, 1) := by decide +kernel
theorem d_Mod_init_640 : decode m_Mod_init.2.1 640 = .ok (.bipush 99, 2) := by decide +kernel
theorem d_Mod_init_642 : decode m_Mod_init.2.1 642 = .ok (.bipush 115, 2) := by decide +kernel
theorem d_Mod_init_644 : decode m_Mod_init.2.1 644 = .ok (.bastore, 1) := by decide +kernel
theorem d_Mod_init_645 : decode m_Mod_init.2.1 645 = .ok (.dup, 1) := by decide +kernel
theorem d_Mod_init_646 : decode m_Mod_init.2.1 646 = .ok (.bipush 100, 2) := by decide +kernel
theorem d_Mod_init_648 : decode m_Mod_init.2.1 648 = .ok (.bipush 101, 2) := by decide +kernel
theorem d_Mod_init_650 : decode m_Mod_init.2.1 650 = .ok (.bastore, 1) := by decide +kernel
theorem d_Mod_init_651 : decode m_Mod_init.2.1 651 = .ok (.dup, 1) := by decide +kernel
theorem d_Mod_init_652 : decode m_Mod_init.2.1 652 = .ok (.bipush 101, 2) := by decide +kernel
theorem d_Mod_init_654 : decode m_Mod_init.2.1 654 = .ok (.bipush 32, 2) := by decide +kernel
theorem d_Mod_init_656 : decode m_Mod_init.2.1 656 = .ok (.bastore, 1) := by decide +kernel
theorem d_Mod_init_657 : decode m_Mod_init.2.1 657 = .ok (.dup, 1) := by decide +kernel
theorem d_Mod_init_658 : decode m_Mod_init.2.1 658 = .ok (.bipush 102, 2) := by decide +kernel
theorem d_Mod_init_660 : decode m_Mod_init.2.1 660 = .ok (.bipush 100, 2) := by decide +kernel
theorem d_Mod_init_662 : decode m_Mod_init.2.1 662 = .ok (.bastore, 1) := by decide +kernel
theorem d_Mod_init_663 : decode m_Mod_init.2.1 663 = .ok (.dup, 1) := by decide +kernel
theorem d_Mod_init_664 : decode m_Mod_init.2.1 664 = .ok (.bipush 103, 2) := by decide +kernel
theorem d_Mod_init_666 : decode m_Mod_init.2.1 666 = .ok (.bipush 101, 2) := by decide +kernel
theorem d_Mod_init_668 : decode m_Mod_init.2.1 668 = .ok (.bastore, 1) := by decide +kernel
theorem d_Mod_init_669 : decode m_Mod_init.2.1 669 = .ok (.dup, 1) := by decide +kernel
theorem d_Mod_init_670 : decode m_Mod_init.2.1 670 = .ok (.bipush 104, 2) := by decide +kernel
theorem d_Mod_init_672 : decode m_Mod_init.2.1 672 = .ok (.bipush 101, 2) := by decide +kernel
theorem d_Mod_init_674 : decode m_Mod_init.2.1 674 = .ok (.bastore, 1) := by decide +kernel
theorem d_Mod_init_675 : decode m_Mod_init.2.1 675 = .ok (.dup, 1) := by decide +kernel
theorem d_Mod_init_676 : decode m_Mod_init.2.1 676 = .ok (.bipush 105, 2) := by decide +kernel
theorem d_Mod_init_678 : decode m_Mod_init.2.1 678 = .ok (.bipush 112, 2) := by decide +kernel
theorem d_Mod_init_680 : decode m_Mod_init.2.1 680 = .ok (.bastore, 1) := by decide +kernel
theorem d_Mod_init_681 : decode m_Mod_init.2.1 681 = .ok (.dup, 1) := by decide +kernel
theorem d_Mod_init_682 : decode m_Mod_init.2.1 682 = .ok (.bipush 106, 2) := by decide +kernel
theorem d_Mod_init_684 : decode m_Mod_init.2.1 684 = .ok (.bipush 32, 2) := by decide +kernel
theorem d_Mod_init_686 : decode m_Mod_init.2.1 686 = .ok (.bastore, 1) := by decide +kernel
theorem d_Mod_init_687 : decode m_Mod_init.2.1 687 = .ok (.dup, 1) := by decide +kernel
theorem d_Mod_init_688 : decode m_Mod_init.2.1 688 = .ok (.bipush 107, 2) := by decide +kernel
theorem d_Mod_init_690 : decode m_Mod_init.2.1 690 = .ok (.bipush 112, 2) := by decide +kernel
theorem d_Mod_init_692 : decode m_Mod_init.2.1 692 = .ok (.bastore, 1) := by decide +kernel
theorem d_Mod_init_693 : decode m_Mod_init.2.1 693 = .ok (.dup, 1) := by decide +kernel
theorem d_Mod_init_694 : decode m_Mod_init.2.1 694 = .ok (.bipush 108, 2) := by decide +kernel
theorem d_Mod_init_696 : decode m_Mod_init.2.1 696 = .ok (.bipush 117, 2) := by decide +kernel
theorem d_Mod_init_698 : decode m_Mod_init.2.1 698 = .ok (.bastore, 1) := by decide +kernel
theorem d_Mod_init_699 : decode m_Mod_init.2.1 699 = .ok (.dup, 1) := by decide +kernel
theorem d_Mod_init_700 : decode m_Mod_init.2.1 700 = .ok (.bipush 109, 2) := by decide +kernel
theorem d_Mod_init_702 : decode m_Mod_init.2.1 702 = .ok (.bipush 116, 2) := by decide +kernel
theorem d_Mod_init_704 : decode m_Mod_init.2.1 704 = .ok (.bastore, 1) := by decide +kernel
theorem d_Mod_init_705 : decode m_Mod_init.2.1 705 = .ok (.dup, 1) := by decide +kernel
theorem d_Mod_init_706 : decode m_Mod_init.2.1 706 = .ok (.bipush 110, 2) := by decide +kernel
theorem d_Mod_init_708 : decode m_Mod_init.2.1 708 = .ok (.bipush 32, 2) := by decide +kernel
theorem d_Mod_init_710 : decode m_Mod_init.2.1 710 = .ok (.bastore, 1) := by decide +kernel
theorem d_Mod_init_711 : decode m_Mod_init.2.1 711 = .ok (.dup, 1) := by decide +kernel
theorem d_Mod_init_712 : decode m_Mod_init.2.1 712 = .ok (.bipush 111, 2) := by decide +kernel
theorem d_Mod_init_714 : decode m_Mod_init.2.1 714 = .ok (.bipush 97, 2) := by decide +kernel
theorem d_Mod_init_716 : decode m_Mod_init.2.1 716 = .ok (.bastore, 1) := by decide +kernel
theorem d_Mod_init_717 : decode m_Mod_init.2.1 717 = .ok (.dup, 1) := by decide +kernel
theorem d_Mod_init_718 : decode m_Mod_init.2.1 718 = .ok (.bipush 112, 2) := by decide +kernel
theorem d_Mod_init_720 : decode m_Mod_init.2.1 720 = .ok (.bipush 116, 2) := by decide +kernel
theorem d_Mod_init_722 : decode m_Mod_init.2.1 722 = .ok (.bastore, 1) := by decide +kernel
theorem d_Mod_init_723 : decode m_Mod_init.2.1 723 = .ok (.dup, 1) := by decide +kernel
theorem d_Mod_init_724 : decode m_Mod_init.2.1 724 = .ok (.bipush 113, 2) := by decide +kernel
theorem d_Mod_init_726 : decode m_Mod_init.2.1 726 = .ok (.bipush 32, 2) := by decide +kernel
theorem d_Mod_init_728 : decode m_Mod_init.2.1 728 = .ok (.bastore, 1) := by decide +kernel
theorem d_Mod_init_729 : decode m_Mod_init.2.1 729 = .ok (.dup, 1) := by decide +kernel
theorem d_Mod_init_730 : decode m_Mod_init.2.1 730 = .ok (.bipush 114, 2) := by decide +kernel
theorem d_Mod_init_732 : decode m_Mod_init.2.1 732 = .ok (.bipush 99, 2) := by decide +kernel
theorem d_Mod_init_734 : decode m_Mod_init.2.1 734 = .ok (.bastore, 1) := by decide +kernel
theorem d_Mod_init_735 : decode m_Mod_init.2.1 735 = .ok (.dup, 1) := by decide +kernel
theorem d_Mod_init_736 : decode m_Mod_init.2.1 736 = .ok (.bipush 115, 2) := by decide +kernel
theorem d_Mod_init_738 : decode m_Mod_init.2.1 738 = .ok (.bipush 117, 2) := by decide +kernel
theorem d_Mod_init_740 : decode m_Mod_init.2.1 740 = .ok (.bastore, 1) := by decide +kernel
theorem d_Mod_init_741 : decode m_Mod_init.2.1 741 = .ok (.dup, 1) := by decide +kernel
theorem d_Mod_init_742 : decode m_Mod_init.2.1 742 = .ok (.bipush 116, 2) := by decide +kernel
theorem d_Mod_init_744 : decode m_Mod_init.2.1 744 = .ok (.bipush 116, 2) := by decide +kernel
theorem d_Mod_init_746 : decode m_Mod_init.2.1 746 = .ok (.bastore, 1) := by decide +kernel
theorem d_Mod_init_747 : decode m_Mod_init.2.1 747 = .ok (.dup, 1) := by decide +kernel
theorem d_Mod_init_748 : decode m_Mod_init.2.1 748 = .ok (.bipush 117, 2) := by decide +kernel
theorem d_Mod_init_750 : decode m_Mod_init.2.1 750 = .ok (.bipush 32, 2) := by decide +kernel
theorem d_Mod_init_752 : decode m_Mod_init.2.1 752 = .ok (.bastore, 1) := by decide +kernel
theorem d_Mod_init_753 : decode m_Mod_init.2.1 753 = .ok (.dup, 1) := by decide +kernel
theorem d_Mod_init_754 : decode m_Mod_init.2.1 754 = .ok (.bipush 118, 2) := by decide +kernel
theorem d_Mod_init_756 : decode m_Mod_init.2.1 756 = .ok (.bipush 116, 2) := by decide +kernel
theorem d_Mod_init_758 : decode m_Mod_init.2.1 758 = .ok (.bastore, 1) := by decide +kernel
theorem d_Mod_init_759 : decode m_Mod_init.2.1 759 = .ok (.dup, 1) := by decide +kernel
theorem d_Mod_init_760 : decode m_Mod_init.2.1 760 = .ok (.bipush 119, 2) := by decide +kernel
theorem d_Mod_init_762 : decode m_Mod_init.2.1 762 = .ok (.bipush 117, 2) := by decide +kernel
theorem d_Mod_init_764 : decode m_Mod_init.2.1 764 = .ok (.bastore, 1) := by decide +kernel
theorem d_Mod_init_765 : decode m_Mod_init.2.1 765 = .ok (.dup, 1) := by decide +kernel
theorem d_Mod_init_766 : decode m_Mod_init.2.1 766 = .ok (.bipush 120, 2) := by decide +kernel
theorem d_Mod_init_768 : decode m_Mod_init.2.1 768 = .ok (.bipush 114, 2) := by decide +kernel
theorem d_Mod_init_770 : decode m_Mod_init.2.1 770 = .ok (.bastore, 1) := by decide +kernel
theorem d_Mod_init_771 : decode m_Mod_init.2.1 771 = .ok (.dup, 1) := by decide +kernel
theorem d_Mod_init_772 : decode m_Mod_init.2.1 772 = .ok (.bipush 121, 2) := by decide +kernel
theorem d_Mod_init_774 : decode m_Mod_init.2.1 774 = .ok (.bipush 110, 2) := by decide +kernel
theorem d_Mod_init_776 : decode m_Mod_init.2.1 776 = .ok (.bastore, 1) := by decide +kernel
theorem d_Mod_init_777 : decode m_Mod_init.2.1 777 = .ok (.dup, 1) := by decide +kernel
theorem d_Mod_init_778 : decode m_Mod_init.2.1 778 = .ok (.bipush 122, 2) := by decide +kernel
theorem d_Mod_init_780 : decode m_Mod_init.2.1 780 = .ok (.bipush 32, 2) := by decide +kernel
theorem d_Mod_init_782 : decode m_Mod_init.2.1 782 = .ok (.bastore, 1) := by decide +kernel
theorem d_Mod_init_783 : decode m_Mod_init.2.1 783 = .ok (.dup, 1) := by decide +kernel
theorem d_Mod_init_784 : decode m_Mod_init.2.1 784 = .ok (.bipush 123, 2) := by decide +kernel
theorem d_Mod_init_786 : decode m_Mod_init.2.1 786 = .ok (.bipush 116, 2) := by decide +kernel
theorem d_Mod_init_788 : decode m_Mod_init.2.1 788 = .ok (.bastore, 1) := by decide +kernel
theorem d_Mod_init_789 : decode m_Mod_init.2.1 789 = .ok (.dup, 1) := by decide +kernel
theorem d_Mod_init_790 : decode m_Mod_init.2.1 790 = .ok (.bipush 124, 2) := by decide +kernel
theorem d_Mod_init_792 : decode m_Mod_init.2.1 792 = .ok (.bipush 111, 2) := by decide +kernel
theorem d_Mod_init_794 : decode m_Mod_init.2.1 794 = .ok (.bastore, 1) := by decide +kernel
theorem d_Mod_init_795 : decode m_Mod_init.2.1 795 = .ok (.dup, 1) := by decide +kernel
theorem d_Mod_init_796 : decode m_Mod_init.2.1 796 = .ok (.bipush 125, 2) := by decide +kernel
theorem d_Mod_init_798 : decode m_Mod_init.2.1 798 = .ok (.bipush 32, 2) := by decide +kernel
theorem d_Mod_init_800 : decode m_Mod_init.2.1 800 = .ok (.bastore, 1) := by decide +kernel
theorem d_Mod_init_801 : decode m_Mod_init.2.1 801 = .ok (.dup, 1) := by decide +kernel
theorem d_Mod_init_802 : decode m_Mod_init.2.1 802 = .ok (.bipush 126, 2) := by decide +kernel
theorem d_Mod_init_804 : decode m_Mod_init.2.1 804 = .ok (.bipush 112, 2) := by decide +kernel
theorem d_Mod_init_806 : decode m_Mod_init.2.1 806 = .ok (.bastore, 1) := by decide +kernel
theorem d_Mod_init_807 : decode m_Mod_init.2.1 807 = .ok (.dup, 1) := by decide +kernel
theorem d_Mod_init_808 : decode m_Mod_init.2.1 808 = .ok (.bipush 127, 2) := by decide +kernel
theorem d_Mod_init_810 : decode m_Mod_init.2.1 810 = .ok (.bipush 97, 2) := by decide +kernel
theorem d_Mod_init_812 : decode m_Mod_init.2.1 812 = .ok (.bastore, 1) := by decide +kernel
theorem d_Mod_init_813 : decode m_Mod_init.2.1 813 = .ok (.dup, 1) := by decide +kernel
theorem d_Mod_init_814 : decode m_Mod_init.2.1 814 = .ok (.sipush 128, 3) := by decide +kernel
theorem d_Mod_init_817 : decode m_Mod_init.2.1 817 = .ok (.bipush 115, 2) := by decide +kernel
theorem d_Mod_init_819 : decode m_Mod_init.2.1 819 = .ok (.bastore, 1) := by decide +kernel
theorem d_Mod_init_820 : decode m_Mod_init.2.1 820 = .ok (.dup, 1) := by decide +kernel
theorem d_Mod_init_821 : decode m_Mod_init.2.1 821 = .ok (.sipush 129, 3) := by decide +kernel
theorem d_Mod_init_824 : decode m_Mod_init.2.1 824 = .ok (.bipush 115, 2) := by decide +kernel
theorem d_Mod_init_826 : decode m_Mod_init.2.1 826 = .ok (.bastore, 1) := by decide +kernel
theorem d_Mod_init_827 : decode m_Mod_init.2.1 827 = .ok (.dup, 1) := by decide +kernel
theorem d_Mod_init_828 : decode m_Mod_init.2.1 828 = .ok (.sipush 130, 3) := by decide +kernel
theorem d_Mod_init_831 : decode m_Mod_init.2.1 831 = .ok (.bipush 32, 2) := by decide +kernel
theorem d_Mod_init_833 : decode m_Mod_init.2.1 833 = .ok (.bastore, 1) := by decide +kernel
theorem d_Mod_init_834 : decode m_Mod_init.2.1 834 = .ok (.dup, 1) := by decide +kernel
theorem d_Mod_init_835 : decode m_Mod_init.2.1 835 = .ok (.sipush 131, 3) := by decide +kernel
theorem d_Mod_init_838 : decode m_Mod_init.2.1 838 = .ok (.bipush 116, 2) := by decide +kernel
theorem d_Mod_init_840 : decode m_Mod_init.2.1 840 = .ok (.bastore, 1) := by decide +kernel
theorem d_Mod_init_841 : decode m_Mod_init.2.1 841 = .ok (.dup, 1) := by decide +kernel
theorem d_Mod_init_842 : decode m_Mod_init.2.1 842 = .ok (.sipush 132, 3) := by decide +kernel
theorem d_Mod_init_845 : decode m_Mod_init.2.1 845 = .ok (.bipush 105, 2) := by decide +kernel
theorem d_Mod_init_847 : decode m_Mod_init.2.1 847 = .ok (.bastore, 1) := by decide +kernel
theorem d_Mod_init_848 : decode m_Mod_init.2.1 848 = .ok (.dup, 1) := by decide +kernel
theorem d_Mod_init_849 : decode m_Mod_init.2.1 849 = .ok (.sipush 133, 3) := by decide +kernel
theorem d_Mod_init_852 : decode m_Mod_init.2.1 852 = .ok (.bipush 109, 2) := by decide +kernel
theorem d_Mod_init_854 : decode m_Mod_init.2.1 854 = .ok (.bastore, 1) := by decide +kernel
theorem d_Mod_init_855 : decode m_Mod_init.2.1 855 = .ok (.dup, 1) := by decide +kernel
theorem d_Mod_init_856 : decode m_Mod_init.2.1 856 = .ok (.sipush 134, 3) := by decide +kernel
theorem d_Mod_init_859 : decode m_Mod_init.2.1 859 = .ok (.bipush 101, 2) := by decide +kernel
theorem d_Mod_init_861 : decode m_Mod_init.2.1 861 = .ok (.bastore, 1) := by decide +kernel
theorem d_Mod_init_862 : decode m_Mod_init.2.1 862 = .ok (.dup, 1) := by decide +kernel
theorem d_Mod_init_863 : decode m_Mod_init.2.1 863 = .ok (.sipush 135, 3) := by decide +kernel
theorem d_Mod_init_866 : decode m_Mod_init.2.1 866 = .ok (.bipush 115, 2) := by decide +kernel
theorem d_Mod_init_868 : decode m_Mod_init.2.1 868 = .ok (.bastore, 1) := by decide +kernel
theorem d_Mod_init_869 : decode m_Mod_init.2.1 869 = .ok (.dup, 1) := by decide +kernel
theorem d_Mod_init_870 : decode m_Mod_init.2.1 870 = .ok (.sipush 136, 3) := by decide +kernel
theorem d_Mod_init_873 : decode m_Mod_init.2.1 873 = .ok (.bipush 32, 2) := by decide +kernel
theorem d_Mod_init_875 : decode m_Mod_init.2.1 875 = .ok (.bastore, 1) := by decide +kernel
theorem d_Mod_init_876 : decode m_Mod_init.2.1 876 = .ok (.putfield 45, 3) := by decide +kernel
theorem d_Mod_init_879 : decode m_Mod_init.2.1 879 = .ok (.aload_n 0, 1) := by decide +kernel
theorem d_Mod_init_880 : decode m_Mod_init.2.1 880 = .ok (.sipush 400, 3) := by decide +kernel
theorem d_Mod_init_883 : decode m_Mod_init.2.1 883 = .ok (.newarray .byte, 2) := by decide +kernel
theorem d_Mod_init_885 : decode m_Mod_init.2.1 885 = .ok (.putfield 49, 3) := by decide +kernel
theorem d_Mod_init_888 : decode m_Mod_init.2.1 888 = .ok (.aload_n 0, 1) := by decide +kernel
theorem d_Mod_init_889 : decode m_Mod_init.2.1 889 = .ok (.iconst 5, 1) := by decide +kernel
theorem d_Mod_init_890 : decode m_Mod_init.2.1 890 = .ok (.newarray .int, 2) := by decide +kernel
theorem d_Mod_init_892 : decode m_Mod_init.2.1 892 = .ok (.putfield 52, 3) := by decide +kernel
theorem d_Mod_init_895 : decode m_Mod_init.2.1 895 = .ok (.aload_n 0, 1) := by decide +kernel
theorem d_Mod_init_896 : decode m_Mod_init.2.1 896 = .ok (.iconst (-1), 1) := by decide +kernel
theorem d_Mod_init_897 : decode m_Mod_init.2.1 897 = .ok (.putfield 55, 3) := by decide +kernel
theorem d_Mod_init_900 : decode m_Mod_init.2.1 900 = .ok (.aload_n 0, 1) := by decide +kernel
theorem d_Mod_init_901 : decode m_Mod_init.2.1 901 = .ok (.sipush 401, 3) := by decide +kernel
theorem d_Mod_init_904 : decode m_Mod_init.2.1 904 = .ok (.newarray .int, 2) := by decide +kernel
theorem d_Mod_init_906 : decode m_Mod_init.2.1 906 = .ok (.putfield 58, 3) := by decide +kernel
theorem d_Mod_init_909 : decode m_Mod_init.2.1 909 = .ok (.aload_n 0, 1) := by decide +kernel
theorem d_Mod_init_910 : decode m_Mod_init.2.1 910 = .ok (.sipush 401, 3) := by decide +kernel
theorem d_Mod_init_913 : decode m_Mod_init.2.1 913 = .ok (.newarray .int, 2) := by decide +kernel
theorem d_Mod_init_915 : decode m_Mod_init.2.1 915 = .ok (.putfield 61, 3) := by decide +kernel
theorem d_Mod_init_918 : decode m_Mod_init.2.1 918 = .ok (.aload_n 0, 1) := by decide +kernel
theorem d_Mod_init_919 : decode m_Mod_init.2.1 919 = .ok (.sipush 401, 3) := by decide +kernel
theorem d_Mod_init_922 : decode m_Mod_init.2.1 922 = .ok (.newarray .int, 2) := by decide +kernel
theorem d_Mod_init_924 : decode m_Mod_init.2.1 924 = .ok (.putfield 64, 3) := by decide +kernel
theorem d_Mod_init_927 : decode m_Mod_init.2.1 927 = .ok (.aload_n 0, 1) := by decide +kernel
theorem d_Mod_init_928 : decode m_Mod_init.2.1 928 = .ok (.bipush 8, 2) := by decide +kernel
theorem d_Mod_init_930 : decode m_Mod_init.2.1 930 = .ok (.newarray .int, 2) := by decide +kernel
theorem d_Mod_init_932 : decode m_Mod_init.2.1 932 = .ok (.putfield 67, 3) := by decide +kernel
theorem d_Mod_init_935 : decode m_Mod_init.2.1 935 = .ok (.aload_n 0, 1) := by decide +kernel
theorem d_Mod_init_936 : decode m_Mod_init.2.1 936 = .ok (.bipush 20, 2) := by decide +kernel
theorem d_Mod_init_938 : decode m_Mod_init.2.1 938 = .ok (.newarray .int, 2) := by decide +kernel
theorem d_Mod_init_940 : decode m_Mod_init.2.1 940 = .ok (.putfield 70, 3) := by decide +kernel
theorem d_Mod_init_943 : decode m_Mod_init.2.1 943 = .ok (.aload_n 0, 1) := by decide +kernel
theorem d_Mod_init_944 : decode m_Mod_init.2.1 944 = .ok (.bipush 20, 2) := by decide +kernel
theorem d_Mod_init_946 : decode m_Mod_init.2.1 946 = .ok (.newarray .int, 2) := by decide +kernel
theorem d_Mod_init_948 : decode m_Mod_init.2.1 948 = .ok (.putfield 73, 3) := by decide +kernel
theorem d_Mod_init_951 : decode m_Mod_init.2.1 951 = .ok (.aload_n 0, 1) := by decide +kernel
theorem d_Mod_init_952 : decode m_Mod_init.2.1 952 = .ok (.sipush 368, 3) := by decide +kernel
theorem d_Mod_init_955 : decode m_Mod_init.2.1 955 = .ok (.newarray .int, 2) := by decide +kernel
theorem d_Mod_init_957 : decode m_Mod_init.2.1 957 = .ok (.putfield 76, 3) := by decide +kernel
theorem d_Mod_init_960 : decode m_Mod_init.2.1 960 = .ok (.aload_n 0, 1) := by decide +kernel
theorem d_Mod_init_961 : decode m_Mod_init.2.1 961 = .ok (.sipush 368, 3) := by decide +kernel
theorem d_Mod_init_964 : decode m_Mod_init.2.1 964 = .ok (.newarray .int, 2) := by decide +kernel
theorem d_Mod_init_966 : decode m_Mod_init.2.1 966 = .ok (.putfield 79, 3) := by decide +kernel
theorem d_Mod_init_969 : decode m_Mod_init.2.1 969 = .ok (.aload_n 0, 1) := by decide +kernel
theorem d_Mod_init_970 : decode m_Mod_init.2.1 970 = .ok (.sipush 441, 3) := by decide +kernel
theorem d_Mod_init_973 : decode m_Mod_init.2.1 973 = .ok (.newarray .int, 2) := by decide +kernel
theorem d_Mod_init_975 : decode m_Mod_init.2.1 975 = .ok (.putfield 82, 3) := by decide +kernel
theorem d_Mod_init_978 : decode m_Mod_init.2.1 978 = .ok (.aload_n 0, 1) := by decide +kernel
theorem d_Mod_init_979 : decode m_Mod_init.2.1 979 = .ok (.bipush 126, 2) := by decide +kernel
theorem d_Mod_init_981 : decode m_Mod_init.2.1 981 = .ok (.newarray .int, 2) := by decide +kernel
theorem d_Mod_init_983 : decode m_Mod_init.2.1 983 = .ok (.putfield 85, 3) := by decide +kernel
theorem d_Mod_init_986 : decode m_Mod_init.2.1 986 = .ok (.aload_n 0, 1) := by decide +kernel
theorem d_Mod_init_987 : decode m_Mod_init.2.1 987 = .ok (.bipush 20, 2) := by decide +kernel
theorem d_Mod_init_989 : decode m_Mod_init.2.1 989 = .ok (.newarray .int, 2) := by decide +kernel
theorem d_Mod_init_991 : decode m_Mod_init.2.1 991 = .ok (.putfield 88, 3) := by decide +kernel
theorem d_Mod_init_994 : decode m_Mod_init.2.1 994 = .ok (.aload_n 0, 1) := by decide +kernel
theorem d_Mod_init_995 : decode m_Mod_init.2.1 995 = .ok (.bipush 20, 2) := by decide +kernel
theorem d_Mod_init_997 : decode m_Mod_init.2.1 997 = .ok (.newarray .boolean, 2) := by decide +kernel
theorem d_Mod_init_999 : decode m_Mod_init.2.1 999 = .ok (.putfield 91, 3) := by decide +kernel
theorem d_Mod_init_1002 : decode m_Mod_init.2.1 1002 = .ok (.aload_n 0, 1) := by decide +kernel
theorem d_Mod_init_1003 : decode m_Mod_init.2.1 1003 = .ok (.sipush 350, 3) := by decide +kernel
theorem d_Mod_init_1006 : decode m_Mod_init.2.1 1006 = .ok (.newarray .long, 2) := by decide +kernel
theorem d_Mod_init_1008 : decode m_Mod_init.2.1 1008 = .ok (.putfield 94, 3) := by decide +kernel
theorem d_Mod_init_1011 : decode m_Mod_init.2.1 1011 = .ok (.aload_n 0, 1) := by decide +kernel
theorem d_Mod_init_1012 : decode m_Mod_init.2.1 1012 = .ok (.bipush 24, 2) := by decide +kernel
theorem d_Mod_init_1014 : decode m_Mod_init.2.1 1014 = .ok (.newarray .int, 2) := by decide +kernel
theorem d_Mod_init_1016 : decode m_Mod_init.2.1 1016 = .ok (.putfield 98, 3) := by decide +kernel
theorem d_Mod_init_1019 : decode m_Mod_init.2.1 1019 = .ok (.aload_n 0, 1) := by decide +kernel
theorem d_Mod_init_1020 : decode m_Mod_init.2.1 1020 = .ok (.iconst 4, 1) := by decide +kernel
theorem d_Mod_init_1021 : decode m_Mod_init.2.1 1021 = .ok (.newarray .int, 2) := by decide +kernel
theorem d_Mod_init_1023 : decode m_Mod_init.2.1 1023 = .ok (.putfield 101, 3) := by decide +kernel
theorem d_Mod_init_1026 : decode m_Mod_init.2.1 1026 = .ok (.aload_n 0, 1) := by decide +kernel
theorem d_Mod_init_1027 : decode m_Mod_init.2.1 1027 = .ok (.bipush 124, 2) := by decide +kernel
theorem d_Mod_init_1029 : decode m_Mod_init.2.1 1029 = .ok (.newarray .long, 2) := by decide +kernel
theorem d_Mod_init_1031 : decode m_Mod_init.2.1 1031 = .ok (.putfield 104, 3) := by decide +kernel
theorem d_Mod_init_1034 : decode m_Mod_init.2.1 1034 = .ok (.aload_n 0, 1) := by decide +kernel
theorem d_Mod_init_1035 : decode m_Mod_init.2.1 1035 = .ok (.iconst (-1), 1) := by decide +kernel
theorem d_Mod_init_1036 : decode m_Mod_init.2.1 1036 = .ok (.putfield 107, 3) := by decide +kernel
theorem d_Mod_init_1039 : decode m_Mod_init.2.1 1039 = .ok (.aload_n 0, 1) := by decide +kernel
theorem d_Mod_init_1040 : decode m_Mod_init.2.1 1040 = .ok (.iconst 2, 1) := by decide +kernel
theorem d_Mod_init_1041 : decode m_Mod_init.2.1 1041 = .ok (.newarray .long, 2) := by decide +kernel
theorem d_Mod_init_1043 : decode m_Mod_init.2.1 1043 = .ok (.putfield 110, 3) := by decide +kernel
theorem d_Mod_init_1046 : decode m_Mod_init.2.1 1046 = .ok (.aload_n 0, 1) := by decide +kernel
theorem d_Mod_init_1047 : decode m_Mod_init.2.1 1047 = .ok (.bipush 22, 2) := by decide +kernel
theorem d_Mod_init_1049 : decode m_Mod_init.2.1 1049 = .ok (.newarray .int, 2) := by decide +kernel
theorem d_Mod_init_1051 : decode m_Mod_init.2.1 1051 = .ok (.putfield 113, 3) := by decide +kernel
theorem d_Mod_init_1054 : decode m_Mod_init.2.1 1054 = .ok (.aload_n 0, 1) := by decide +kernel
theorem d_Mod_init_1055 : decode m_Mod_init.2.1 1055 = .ok (.iconst (-1), 1) := by decide +kernel
theorem d_Mod_init_1056 : decode m_Mod_init.2.1 1056 = .ok (.putfield 116, 3) := by decide +kernel
theorem d_Mod_init_1059 : decode m_Mod_init.2.1 1059 = .ok (.aload_n 0, 1) := by decide +kernel
theorem d_Mod_init_1060 : decode m_Mod_init.2.1 1060 = .ok (.getfield 32, 3) := by decide +kernel
theorem d_Mod_init_1063 : decode m_Mod_init.2.1 1063 = .ok (.bipush 22, 2) := by decide +kernel
theorem d_Mod_init_1065 : decode m_Mod_init.2.1 1065 = .ok (.iconst 4, 1) := by decide +kernel
theorem d_Mod_init_1066 : decode m_Mod_init.2.1 1066 = .ok (.iastore, 1) := by decide +kernel
theorem d_Mod_init_1067 : decode m_Mod_init.2.1 1067 = .ok (.aload_n 0, 1) := by decide +kernel
theorem d_Mod_init_1068 : decode m_Mod_init.2.1 1068 = .ok (.getfield 32, 3) := by decide +kernel
theorem d_Mod_init_1071 : decode m_Mod_init.2.1 1071 = .ok (.bipush 25, 2) := by decide +kernel
theorem d_Mod_init_1073 : decode m_Mod_init.2.1 1073 = .ok (.iconst (-1), 1) := by decide +kernel
theorem d_Mod_init_1074 : decode m_Mod_init.2.1 1074 = .ok (.iastore, 1) := by decide +kernel
theorem d_Mod_init_1075 : decode m_Mod_init.2.1 1075 = .ok (.return_, 1) := by decide +kernel

theorem dX11_init_0 : decode cX11_init 0 = .ok (.aload_n 0, 1) := by decide +kernel
theorem dX11_init_1 : decode cX11_init 1 = .ok (.invokespecial 3, 3) := by decide +kernel
theorem dX11_init_4 : decode cX11_init 4 = .ok (.aload_n 0, 1) := by decide +kernel
theorem dX11_init_5 : decode cX11_init 5 = .ok (.sipush 256, 3) := by decide +kernel
theorem dX11_init_8 : decode cX11_init 8 = .ok (.newarray .int, 2) := by decide +kernel
theorem dX11_init_10 : decode cX11_init 10 = .ok (.putfield 9, 3) := by decide +kernel
theorem dX11_init_13 : decode cX11_init 13 = .ok (.aload_n 0, 1) := by decide +kernel
theorem dX11_init_14 : decode cX11_init 14 = .ok (.bipush 15, 2) := by decide +kernel
theorem dX11_init_16 : decode cX11_init 16 = .ok (.newarray .int, 2) := by decide +kernel
theorem dX11_init_18 : decode cX11_init 18 = .ok (.putfield 15, 3) := by decide +kernel
theorem dX11_init_21 : decode cX11_init 21 = .ok (.aload_n 0, 1) := by decide +kernel
theorem dX11_init_22 : decode cX11_init 22 = .ok (.bipush 16, 2) := by decide +kernel
theorem dX11_init_24 : decode cX11_init 24 = .ok (.newarray .int, 2) := by decide +kernel
theorem dX11_init_26 : decode cX11_init 26 = .ok (.putfield 18, 3) := by decide +kernel
theorem dX11_init_29 : decode cX11_init 29 = .ok (.aload_n 0, 1) := by decide +kernel
theorem dX11_init_30 : decode cX11_init 30 = .ok (.bipush 10, 2) := by decide +kernel
theorem dX11_init_32 : decode cX11_init 32 = .ok (.newarray .int, 2) := by decide +kernel
theorem dX11_init_34 : decode cX11_init 34 = .ok (.putfield 21, 3) := by decide +kernel
theorem dX11_init_37 : decode cX11_init 37 = .ok (.aload_n 0, 1) := by decide +kernel
theorem dX11_init_38 : decode cX11_init 38 = .ok (.bipush 10, 2) := by decide +kernel
theorem dX11_init_40 : decode cX11_init 40 = .ok (.newarray .int, 2) := by decide +kernel
theorem dX11_init_42 : decode cX11_init 42 = .ok (.putfield 24, 3) := by decide +kernel
theorem dX11_init_45 : decode cX11_init 45 = .ok (.aload_n 0, 1) := by decide +kernel
theorem dX11_init_46 : decode cX11_init 46 = .ok (.bipush 10, 2) := by decide +kernel
theorem dX11_init_48 : decode cX11_init 48 = .ok (.newarray .int, 2) := by decide +kernel
theorem dX11_init_50 : decode cX11_init 50 = .ok (.putfield 27, 3) := by decide +kernel
theorem dX11_init_53 : decode cX11_init 53 = .ok (.aload_n 0, 1) := by decide +kernel
theorem dX11_init_54 : decode cX11_init 54 = .ok (.bipush 10, 2) := by decide +kernel
theorem dX11_init_56 : decode cX11_init 56 = .ok (.newarray .int, 2) := by decide +kernel
theorem dX11_init_58 : decode cX11_init 58 = .ok (.putfield 30, 3) := by decide +kernel
theorem dX11_init_61 : decode cX11_init 61 = .ok (.aload_n 0, 1) := by decide +kernel
theorem dX11_init_62 : decode cX11_init 62 = .ok (.bipush 10, 2) := by decide +kernel
theorem dX11_init_64 : decode cX11_init 64 = .ok (.newarray .int, 2) := by decide +kernel
theorem dX11_init_66 : decode cX11_init 66 = .ok (.putfield 33, 3) := by decide +kernel
theorem dX11_init_69 : decode cX11_init 69 = .ok (.aload_n 0, 1) := by decide +kernel
theorem dX11_init_70 : decode cX11_init 70 = .ok (.bipush 50, 2) := by decide +kernel
theorem dX11_init_72 : decode cX11_init 72 = .ok (.newarray .int, 2) := by decide +kernel
theorem dX11_init_74 : decode cX11_init 74 = .ok (.putfield 36, 3) := by decide +kernel
theorem dX11_init_77 : decode cX11_init 77 = .ok (.aload_n 0, 1) := by decide +kernel
theorem dX11_init_78 : decode cX11_init 78 = .ok (.bipush 40, 2) := by decide +kernel
theorem dX11_init_80 : decode cX11_init 80 = .ok (.newarray .int, 2) := by decide +kernel
theorem dX11_init_82 : decode cX11_init 82 = .ok (.putfield 39, 3) := by decide +kernel
theorem dX11_init_85 : decode cX11_init 85 = .ok (.aload_n 0, 1) := by decide +kernel
theorem dX11_init_86 : decode cX11_init 86 = .ok (.iconst 5, 1) := by decide +kernel
theorem dX11_init_87 : decode cX11_init 87 = .ok (.newarray .int, 2) := by decide +kernel
theorem dX11_init_89 : decode cX11_init 89 = .ok (.putfield 42, 3) := by decide +kernel
theorem dX11_init_92 : decode cX11_init 92 = .ok (.aload_n 0, 1) := by decide +kernel
theorem dX11_init_93 : decode cX11_init 93 = .ok (.iconst 5, 1) := by decide +kernel
theorem dX11_init_94 : decode cX11_init 94 = .ok (.newarray .int, 2) := by decide +kernel
theorem dX11_init_96 : decode cX11_init 96 = .ok (.putfield 45, 3) := by decide +kernel
theorem dX11_init_99 : decode cX11_init 99 = .ok (.aload_n 0, 1) := by decide +kernel
theorem dX11_init_100 : decode cX11_init 100 = .ok (.bipush 100, 2) := by decide +kernel
theorem dX11_init_102 : decode cX11_init 102 = .ok (.newarray .int, 2) := by decide +kernel
theorem dX11_init_104 : decode cX11_init 104 = .ok (.putfield 48, 3) := by decide +kernel
theorem dX11_init_107 : decode cX11_init 107 = .ok (.aload_n 0, 1) := by decide +kernel
theorem dX11_init_108 : decode cX11_init 108 = .ok (.iconst 5, 1) := by decide +kernel
theorem dX11_init_109 : decode cX11_init 109 = .ok (.newarray .int, 2) := by decide +kernel
theorem dX11_init_111 : decode cX11_init 111 = .ok (.putfield 51, 3) := by decide +kernel
theorem dX11_init_114 : decode cX11_init 114 = .ok (.aload_n 0, 1) := by decide +kernel
theorem dX11_init_115 : decode cX11_init 115 = .ok (.iconst 5, 1) := by decide +kernel
theorem dX11_init_116 : decode cX11_init 116 = .ok (.newarray .int, 2) := by decide +kernel
theorem dX11_init_118 : decode cX11_init 118 = .ok (.putfield 54, 3) := by decide +kernel
theorem dX11_init_121 : decode cX11_init 121 = .ok (.aload_n 0, 1) := by decide +kernel
theorem dX11_init_122 : decode cX11_init 122 = .ok (.iconst 5, 1) := by decide +kernel
theorem dX11_init_123 : decode cX11_init 123 = .ok (.newarray .int, 2) := by decide +kernel
theorem dX11_init_125 : decode cX11_init 125 = .ok (.putfield 57, 3) := by decide +kernel
theorem dX11_init_128 : decode cX11_init 128 = .ok (.aload_n 0, 1) := by decide +kernel
theorem dX11_init_129 : decode cX11_init 129 = .ok (.bipush 10, 2) := by decide +kernel
theorem dX11_init_131 : decode cX11_init 131 = .ok (.newarray .int, 2) := by decide +kernel
theorem dX11_init_133 : decode cX11_init 133 = .ok (.putfield 60, 3) := by decide +kernel
theorem dX11_init_136 : decode cX11_init 136 = .ok (.aload_n 0, 1) := by decide +kernel
theorem dX11_init_137 : decode cX11_init 137 = .ok (.bipush 10, 2) := by decide +kernel
theorem dX11_init_139 : decode cX11_init 139 = .ok (.newarray .int, 2) := by decide +kernel
theorem dX11_init_141 : decode cX11_init 141 = .ok (.putfield 63, 3) := by decide +kernel
theorem dX11_init_144 : decode cX11_init 144 = .ok (.aload_n 0, 1) := by decide +kernel
theorem dX11_init_145 : decode cX11_init 145 = .ok (.bipush 8, 2) := by decide +kernel
theorem dX11_init_147 : decode cX11_init 147 = .ok (.newarray .int, 2) := by decide +kernel
theorem dX11_init_149 : decode cX11_init 149 = .ok (.putfield 66, 3) := by decide +kernel
theorem dX11_init_152 : decode cX11_init 152 = .ok (.aload_n 0, 1) := by decide +kernel
theorem dX11_init_153 : decode cX11_init 153 = .ok (.bipush 8, 2) := by decide +kernel
theorem dX11_init_155 : decode cX11_init 155 = .ok (.newarray .int, 2) := by decide +kernel
theorem dX11_init_157 : decode cX11_init 157 = .ok (.putfield 69, 3) := by decide +kernel
theorem dX11_init_160 : decode cX11_init 160 = .ok (.aload_n 0, 1) := by decide +kernel
theorem dX11_init_161 : decode cX11_init 161 = .ok (.sipush 210, 3) := by decide +kernel
theorem dX11_init_164 : decode cX11_init 164 = .ok (.newarray .int, 2) := by decide +kernel
theorem dX11_init_166 : decode cX11_init 166 = .ok (.putfield 72, 3) := by decide +kernel
theorem dX11_init_169 : decode cX11_init 169 = .ok (.aload_n 0, 1) := by decide +kernel
theorem dX11_init_170 : decode cX11_init 170 = .ok (.sipush 210, 3) := by decide +kernel
theorem dX11_init_173 : decode cX11_init 173 = .ok (.newarray .int, 2) := by decide +kernel
theorem dX11_init_175 : decode cX11_init 175 = .ok (.putfield 75, 3) := by decide +kernel
theorem dX11_init_178 : decode cX11_init 178 = .ok (.aload_n 0, 1) := by decide +kernel
theorem dX11_init_179 : decode cX11_init 179 = .ok (.bipush 72, 2) := by decide +kernel
theorem dX11_init_181 : decode cX11_init 181 = .ok (.newarray .int, 2) := by decide +kernel
theorem dX11_init_183 : decode cX11_init 183 = .ok (.putfield 78, 3) := by decide +kernel
theorem dX11_init_186 : decode cX11_init 186 = .ok (.aload_n 0, 1) := by decide +kernel
theorem dX11_init_187 : decode cX11_init 187 = .ok (.bipush 6, 2) := by decide +kernel
theorem dX11_init_189 : decode cX11_init 189 = .ok (.newarray .int, 2) := by decide +kernel
theorem dX11_init_191 : decode cX11_init 191 = .ok (.putfield 81, 3) := by decide +kernel
theorem dX11_init_194 : decode cX11_init 194 = .ok (.aload_n 0, 1) := by decide +kernel
theorem dX11_init_195 : decode cX11_init 195 = .ok (.bipush 6, 2) := by decide +kernel
theorem dX11_init_197 : decode cX11_init 197 = .ok (.newarray .int, 2) := by decide +kernel
theorem dX11_init_199 : decode cX11_init 199 = .ok (.putfield 84, 3) := by decide +kernel
theorem dX11_init_202 : decode cX11_init 202 = .ok (.aload_n 0, 1) := by decide +kernel
theorem dX11_init_203 : decode cX11_init 203 = .ok (.sipush 360, 3) := by decide +kernel
theorem dX11_init_206 : decode cX11_init 206 = .ok (.newarray .long, 2) := by decide +kernel
theorem dX11_init_208 : decode cX11_init 208 = .ok (.putfield 87, 3) := by decide +kernel
theorem dX11_init_211 : decode cX11_init 211 = .ok (.iconst 0, 1) := by decide +kernel
theorem dX11_init_212 : decode cX11_init 212 = .ok (.istore_n 1, 1) := by decide +kernel
theorem dX11_init_213 : decode cX11_init 213 = .ok (.iload_n 1, 1) := by decide +kernel
theorem dX11_init_214 : decode cX11_init 214 = .ok (.bipush 6, 2) := by decide +kernel
theorem dX11_init_216 : decode cX11_init 216 = .ok (.if_icmp .ge 16, 3) := by decide +kernel
theorem dX11_init_219 : decode cX11_init 219 = .ok (.aload_n 0, 1) := by decide +kernel
theorem dX11_init_220 : decode cX11_init 220 = .ok (.getfield 81, 3) := by decide +kernel
theorem dX11_init_223 : decode cX11_init 223 = .ok (.iload_n 1, 1) := by decide +kernel
theorem dX11_init_224 : decode cX11_init 224 = .ok (.iconst (-1), 1) := by decide +kernel
theorem dX11_init_225 : decode cX11_init 225 = .ok (.iastore, 1) := by decide +kernel
theorem dX11_init_226 : decode cX11_init 226 = .ok (.iinc 1 1, 3) := by decide +kernel
theorem dX11_init_229 : decode cX11_init 229 = .ok (.goto (-16), 3) := by decide +kernel
theorem dX11_init_232 : decode cX11_init 232 = .ok (.aload_n 0, 1) := by decide +kernel
theorem dX11_init_233 : decode cX11_init 233 = .ok (.bipush 19, 2) := by decide +kernel
theorem dX11_init_235 : decode cX11_init 235 = .ok (.invokevirtual 91, 3) := by decide +kernel
theorem dX11_init_238 : decode cX11_init 238 = .ok (.return_, 1) := by decide +kernel
theorem dX11_within_0 : decode cX11_within 0 = .ok (.iload_n 0, 1) := by decide +kernel
theorem dX11_within_1 : decode cX11_within 1 = .ok (.iload_n 1, 1) := by decide +kernel
theorem dX11_within_2 : decode cX11_within 2 = .ok (.if_icmp .lt 12, 3) := by decide +kernel
theorem dX11_within_5 : decode cX11_within 5 = .ok (.iload_n 0, 1) := by decide +kernel
theorem dX11_within_6 : decode cX11_within 6 = .ok (.iload_n 2, 1) := by decide +kernel
theorem dX11_within_7 : decode cX11_within 7 = .ok (.if_icmp .gt 7, 3) := by decide +kernel
theorem dX11_within_10 : decode cX11_within 10 = .ok (.iconst 1, 1) := by decide +kernel
theorem dX11_within_11 : decode cX11_within 11 = .ok (.goto 4, 3) := by decide +kernel
theorem dX11_within_14 : decode cX11_within 14 = .ok (.iconst 0, 1) := by decide +kernel
theorem dX11_within_15 : decode cX11_within 15 = .ok (.ireturn, 1) := by decide +kernel
theorem dX11_isOne_0 : decode cX11_isOne 0 = .ok (.iload_n 1, 1) := by decide +kernel
theorem dX11_isOne_1 : decode cX11_isOne 1 = .ok (.iconst 0, 1) := by decide +kernel
theorem dX11_isOne_2 : decode cX11_isOne 2 = .ok (.aload_n 0, 1) := by decide +kernel
theorem dX11_isOne_3 : decode cX11_isOne 3 = .ok (.getfield 95, 3) := by decide +kernel
theorem dX11_isOne_6 : decode cX11_isOne 6 = .ok (.iconst 1, 1) := by decide +kernel
theorem dX11_isOne_7 : decode cX11_isOne 7 = .ok (.isub, 1) := by decide +kernel
theorem dX11_isOne_8 : decode cX11_isOne 8 = .ok (.invokestatic 99, 3) := by decide +kernel
theorem dX11_isOne_11 : decode cX11_isOne 11 = .ok (.ireturn, 1) := by decide +kernel
theorem dX11_isIn_0 : decode cX11_isIn 0 = .ok (.iload_n 0, 1) := by decide +kernel
theorem dX11_isIn_1 : decode cX11_isIn 1 = .ok (.iload_n 1, 1) := by decide +kernel
theorem dX11_isIn_2 : decode cX11_isIn 2 = .ok (.ishr, 1) := by decide +kernel
theorem dX11_isIn_3 : decode cX11_isIn 3 = .ok (.iconst 1, 1) := by decide +kernel
theorem dX11_isIn_4 : decode cX11_isIn 4 = .ok (.iand, 1) := by decide +kernel
theorem dX11_isIn_5 : decode cX11_isIn 5 = .ok (.iconst 1, 1) := by decide +kernel
theorem dX11_isIn_6 : decode cX11_isIn 6 = .ok (.if_icmp .ne 7, 3) := by decide +kernel
theorem dX11_isIn_9 : decode cX11_isIn 9 = .ok (.iconst 1, 1) := by decide +kernel
theorem dX11_isIn_10 : decode cX11_isIn 10 = .ok (.goto 4, 3) := by decide +kernel
theorem dX11_isIn_13 : decode cX11_isIn 13 = .ok (.iconst 0, 1) := by decide +kernel
theorem dX11_isIn_14 : decode cX11_isIn 14 = .ok (.ireturn, 1) := by decide +kernel
theorem dX11_isNumber_0 : decode cX11_isNumber 0 = .ok (.iload_n 0, 1) := by decide +kernel
theorem dX11_isNumber_1 : decode cX11_isNumber 1 = .ok (.iconst 0, 1) := by decide +kernel
theorem dX11_isNumber_2 : decode cX11_isNumber 2 = .ok (.bipush 15, 2) := by decide +kernel
theorem dX11_isNumber_4 : decode cX11_isNumber 4 = .ok (.invokestatic 99, 3) := by decide +kernel
theorem dX11_isNumber_7 : decode cX11_isNumber 7 = .ok (.ireturn, 1) := by decide +kernel
theorem dX11_product_0 : decode cX11_product 0 = .ok (.iconst 0, 1) := by decide +kernel
theorem dX11_product_1 : decode cX11_product 1 = .ok (.istore_n 3, 1) := by decide +kernel
theorem dX11_product_2 : decode cX11_product 2 = .ok (.iconst 0, 1) := by decide +kernel
theorem dX11_product_3 : decode cX11_product 3 = .ok (.istore 4, 2) := by decide +kernel
theorem dX11_product_5 : decode cX11_product 5 = .ok (.iload 4, 2) := by decide +kernel
theorem dX11_product_7 : decode cX11_product 7 = .ok (.iconst 4, 1) := by decide +kernel
theorem dX11_product_8 : decode cX11_product 8 = .ok (.if_icmp .ge 25, 3) := by decide +kernel
theorem dX11_product_11 : decode cX11_product 11 = .ok (.iload_n 0, 1) := by decide +kernel
theorem dX11_product_12 : decode cX11_product 12 = .ok (.iload 4, 2) := by decide +kernel
theorem dX11_product_14 : decode cX11_product 14 = .ok (.invokestatic 103, 3) := by decide +kernel
theorem dX11_product_17 : decode cX11_product 17 = .ok (.ifCond .eq 10, 3) := by decide +kernel
theorem dX11_product_20 : decode cX11_product 20 = .ok (.iload_n 3, 1) := by decide +kernel
theorem dX11_product_21 : decode cX11_product 21 = .ok (.iload_n 1, 1) := by decide +kernel
theorem dX11_product_22 : decode cX11_product 22 = .ok (.iload 4, 2) := by decide +kernel
theorem dX11_product_24 : decode cX11_product 24 = .ok (.ishl, 1) := by decide +kernel
theorem dX11_product_25 : decode cX11_product 25 = .ok (.ixor, 1) := by decide +kernel
theorem dX11_product_26 : decode cX11_product 26 = .ok (.istore_n 3, 1) := by decide +kernel
theorem dX11_product_27 : decode cX11_product 27 = .ok (.iinc 4 1, 3) := by decide +kernel
theorem dX11_product_30 : decode cX11_product 30 = .ok (.goto (-25), 3) := by decide +kernel
theorem dX11_product_33 : decode cX11_product 33 = .ok (.bipush 6, 2) := by decide +kernel
theorem dX11_product_35 : decode cX11_product 35 = .ok (.istore 4, 2) := by decide +kernel
theorem dX11_product_37 : decode cX11_product 37 = .ok (.iload 4, 2) := by decide +kernel
theorem dX11_product_39 : decode cX11_product 39 = .ok (.iconst 4, 1) := by decide +kernel
theorem dX11_product_40 : decode cX11_product 40 = .ok (.if_icmp .lt 27, 3) := by decide +kernel
theorem dX11_product_43 : decode cX11_product 43 = .ok (.iload_n 3, 1) := by decide +kernel
theorem dX11_product_44 : decode cX11_product 44 = .ok (.iload 4, 2) := by decide +kernel
theorem dX11_product_46 : decode cX11_product 46 = .ok (.invokestatic 103, 3) := by decide +kernel
theorem dX11_product_49 : decode cX11_product 49 = .ok (.ifCond .eq 12, 3) := by decide +kernel
theorem dX11_product_52 : decode cX11_product 52 = .ok (.iload_n 3, 1) := by decide +kernel
theorem dX11_product_53 : decode cX11_product 53 = .ok (.iload_n 2, 1) := by decide +kernel
theorem dX11_product_54 : decode cX11_product 54 = .ok (.iload 4, 2) := by decide +kernel
theorem dX11_product_56 : decode cX11_product 56 = .ok (.iconst 4, 1) := by decide +kernel
theorem dX11_product_57 : decode cX11_product 57 = .ok (.isub, 1) := by decide +kernel
theorem dX11_product_58 : decode cX11_product 58 = .ok (.ishl, 1) := by decide +kernel
theorem dX11_product_59 : decode cX11_product 59 = .ok (.ixor, 1) := by decide +kernel
theorem dX11_product_60 : decode cX11_product 60 = .ok (.istore_n 3, 1) := by decide +kernel
theorem dX11_product_61 : decode cX11_product 61 = .ok (.iinc 4 (-1), 3) := by decide +kernel
theorem dX11_product_64 : decode cX11_product 64 = .ok (.goto (-27), 3) := by decide +kernel
theorem dX11_product_67 : decode cX11_product 67 = .ok (.iload_n 3, 1) := by decide +kernel
theorem dX11_product_68 : decode cX11_product 68 = .ok (.ireturn, 1) := by decide +kernel
theorem dX11_isField_0 : decode cX11_isField 0 = .ok (.iconst 1, 1) := by decide +kernel
theorem dX11_isField_1 : decode cX11_isField 1 = .ok (.istore_n 1, 1) := by decide +kernel
theorem dX11_isField_2 : decode cX11_isField 2 = .ok (.iload_n 1, 1) := by decide +kernel
theorem dX11_isField_3 : decode cX11_isField 3 = .ok (.bipush 16, 2) := by decide +kernel
theorem dX11_isField_5 : decode cX11_isField 5 = .ok (.if_icmp .ge 43, 3) := by decide +kernel
theorem dX11_isField_8 : decode cX11_isField 8 = .ok (.iconst 0, 1) := by decide +kernel
theorem dX11_isField_9 : decode cX11_isField 9 = .ok (.istore_n 2, 1) := by decide +kernel
theorem dX11_isField_10 : decode cX11_isField 10 = .ok (.iconst 1, 1) := by decide +kernel
theorem dX11_isField_11 : decode cX11_isField 11 = .ok (.istore_n 3, 1) := by decide +kernel
theorem dX11_isField_12 : decode cX11_isField 12 = .ok (.iload_n 3, 1) := by decide +kernel
theorem dX11_isField_13 : decode cX11_isField 13 = .ok (.bipush 16, 2) := by decide +kernel
theorem dX11_isField_15 : decode cX11_isField 15 = .ok (.if_icmp .ge 21, 3) := by decide +kernel
theorem dX11_isField_18 : decode cX11_isField 18 = .ok (.iload_n 1, 1) := by decide +kernel
theorem dX11_isField_19 : decode cX11_isField 19 = .ok (.iload_n 3, 1) := by decide +kernel
theorem dX11_isField_20 : decode cX11_isField 20 = .ok (.iload_n 0, 1) := by decide +kernel
theorem dX11_isField_21 : decode cX11_isField 21 = .ok (.invokestatic 107, 3) := by decide +kernel
theorem dX11_isField_24 : decode cX11_isField 24 = .ok (.iconst 1, 1) := by decide +kernel
theorem dX11_isField_25 : decode cX11_isField 25 = .ok (.if_icmp .ne 5, 3) := by decide +kernel
theorem dX11_isField_28 : decode cX11_isField 28 = .ok (.iconst 1, 1) := by decide +kernel
theorem dX11_isField_29 : decode cX11_isField 29 = .ok (.istore_n 2, 1) := by decide +kernel
theorem dX11_isField_30 : decode cX11_isField 30 = .ok (.iinc 3 1, 3) := by decide +kernel
theorem dX11_isField_33 : decode cX11_isField 33 = .ok (.goto (-21), 3) := by decide +kernel
theorem dX11_isField_36 : decode cX11_isField 36 = .ok (.iload_n 2, 1) := by decide +kernel
theorem dX11_isField_37 : decode cX11_isField 37 = .ok (.ifCond .ne 5, 3) := by decide +kernel
theorem dX11_isField_40 : decode cX11_isField 40 = .ok (.iconst 0, 1) := by decide +kernel
theorem dX11_isField_41 : decode cX11_isField 41 = .ok (.ireturn, 1) := by decide +kernel
theorem dX11_isField_42 : decode cX11_isField 42 = .ok (.iinc 1 1, 3) := by decide +kernel
theorem dX11_isField_45 : decode cX11_isField 45 = .ok (.goto (-43), 3) := by decide +kernel
theorem dX11_isField_48 : decode cX11_isField 48 = .ok (.iconst 1, 1) := by decide +kernel
theorem dX11_isField_49 : decode cX11_isField 49 = .ok (.ireturn, 1) := by decide +kernel
theorem dX11_order_0 : decode cX11_order 0 = .ok (.iconst 1, 1) := by decide +kernel
theorem dX11_order_1 : decode cX11_order 1 = .ok (.istore_n 2, 1) := by decide +kernel
theorem dX11_order_2 : decode cX11_order 2 = .ok (.iload_n 0, 1) := by decide +kernel
theorem dX11_order_3 : decode cX11_order 3 = .ok (.istore_n 3, 1) := by decide +kernel
theorem dX11_order_4 : decode cX11_order 4 = .ok (.iload_n 3, 1) := by decide +kernel
theorem dX11_order_5 : decode cX11_order 5 = .ok (.iconst 1, 1) := by decide +kernel
theorem dX11_order_6 : decode cX11_order 6 = .ok (.if_icmp .eq 16, 3) := by decide +kernel
theorem dX11_order_9 : decode cX11_order 9 = .ok (.iinc 2 1, 3) := by decide +kernel
theorem dX11_order_12 : decode cX11_order 12 = .ok (.iload_n 3, 1) := by decide +kernel
theorem dX11_order_13 : decode cX11_order 13 = .ok (.iload_n 0, 1) := by decide +kernel
theorem dX11_order_14 : decode cX11_order 14 = .ok (.iload_n 1, 1) := by decide +kernel
theorem dX11_order_15 : decode cX11_order 15 = .ok (.invokestatic 107, 3) := by decide +kernel
theorem dX11_order_18 : decode cX11_order 18 = .ok (.istore_n 3, 1) := by decide +kernel
theorem dX11_order_19 : decode cX11_order 19 = .ok (.goto (-15), 3) := by decide +kernel
theorem dX11_order_22 : decode cX11_order 22 = .ok (.iload_n 2, 1) := by decide +kernel
theorem dX11_order_23 : decode cX11_order 23 = .ok (.ireturn, 1) := by decide +kernel
theorem dX11_makes_0 : decode cX11_makes 0 = .ok (.aload_n 0, 1) := by decide +kernel
theorem dX11_makes_1 : decode cX11_makes 1 = .ok (.iload_n 1, 1) := by decide +kernel
theorem dX11_makes_2 : decode cX11_makes 2 = .ok (.putfield 111, 3) := by decide +kernel
theorem dX11_makes_5 : decode cX11_makes 5 = .ok (.iconst 0, 1) := by decide +kernel
theorem dX11_makes_6 : decode cX11_makes 6 = .ok (.istore_n 2, 1) := by decide +kernel
theorem dX11_makes_7 : decode cX11_makes 7 = .ok (.iload_n 2, 1) := by decide +kernel
theorem dX11_makes_8 : decode cX11_makes 8 = .ok (.bipush 16, 2) := by decide +kernel
theorem dX11_makes_10 : decode cX11_makes 10 = .ok (.if_icmp .ge 40, 3) := by decide +kernel
theorem dX11_makes_13 : decode cX11_makes 13 = .ok (.iconst 0, 1) := by decide +kernel
theorem dX11_makes_14 : decode cX11_makes 14 = .ok (.istore_n 3, 1) := by decide +kernel
theorem dX11_makes_15 : decode cX11_makes 15 = .ok (.iload_n 3, 1) := by decide +kernel
theorem dX11_makes_16 : decode cX11_makes 16 = .ok (.bipush 16, 2) := by decide +kernel
theorem dX11_makes_18 : decode cX11_makes 18 = .ok (.if_icmp .ge 26, 3) := by decide +kernel
theorem dX11_makes_21 : decode cX11_makes 21 = .ok (.aload_n 0, 1) := by decide +kernel
theorem dX11_makes_22 : decode cX11_makes 22 = .ok (.getfield 9, 3) := by decide +kernel
theorem dX11_makes_25 : decode cX11_makes 25 = .ok (.bipush 16, 2) := by decide +kernel
theorem dX11_makes_27 : decode cX11_makes 27 = .ok (.iload_n 2, 1) := by decide +kernel
theorem dX11_makes_28 : decode cX11_makes 28 = .ok (.imul, 1) := by decide +kernel
theorem dX11_makes_29 : decode cX11_makes 29 = .ok (.iload_n 3, 1) := by decide +kernel
theorem dX11_makes_30 : decode cX11_makes 30 = .ok (.iadd, 1) := by decide +kernel
theorem dX11_makes_31 : decode cX11_makes 31 = .ok (.iload_n 2, 1) := by decide +kernel
theorem dX11_makes_32 : decode cX11_makes 32 = .ok (.iload_n 3, 1) := by decide +kernel
theorem dX11_makes_33 : decode cX11_makes 33 = .ok (.iload_n 1, 1) := by decide +kernel
theorem dX11_makes_34 : decode cX11_makes 34 = .ok (.invokestatic 107, 3) := by decide +kernel
theorem dX11_makes_37 : decode cX11_makes 37 = .ok (.iastore, 1) := by decide +kernel
theorem dX11_makes_38 : decode cX11_makes 38 = .ok (.iinc 3 1, 3) := by decide +kernel
theorem dX11_makes_41 : decode cX11_makes 41 = .ok (.goto (-26), 3) := by decide +kernel
theorem dX11_makes_44 : decode cX11_makes 44 = .ok (.iinc 2 1, 3) := by decide +kernel
theorem dX11_makes_47 : decode cX11_makes 47 = .ok (.goto (-40), 3) := by decide +kernel
theorem dX11_makes_50 : decode cX11_makes 50 = .ok (.aload_n 0, 1) := by decide +kernel
theorem dX11_makes_51 : decode cX11_makes 51 = .ok (.iconst 2, 1) := by decide +kernel
theorem dX11_makes_52 : decode cX11_makes 52 = .ok (.putfield 114, 3) := by decide +kernel
theorem dX11_makes_55 : decode cX11_makes 55 = .ok (.aload_n 0, 1) := by decide +kernel
theorem dX11_makes_56 : decode cX11_makes 56 = .ok (.getfield 114, 3) := by decide +kernel
theorem dX11_makes_59 : decode cX11_makes 59 = .ok (.iload_n 1, 1) := by decide +kernel
theorem dX11_makes_60 : decode cX11_makes 60 = .ok (.invokestatic 117, 3) := by decide +kernel
theorem dX11_makes_63 : decode cX11_makes 63 = .ok (.bipush 15, 2) := by decide +kernel
theorem dX11_makes_65 : decode cX11_makes 65 = .ok (.if_icmp .ge 16, 3) := by decide +kernel
theorem dX11_makes_68 : decode cX11_makes 68 = .ok (.aload_n 0, 1) := by decide +kernel
theorem dX11_makes_69 : decode cX11_makes 69 = .ok (.dup, 1) := by decide +kernel
theorem dX11_makes_70 : decode cX11_makes 70 = .ok (.getfield 114, 3) := by decide +kernel
theorem dX11_makes_73 : decode cX11_makes 73 = .ok (.iconst 1, 1) := by decide +kernel
theorem dX11_makes_74 : decode cX11_makes 74 = .ok (.iadd, 1) := by decide +kernel
theorem dX11_makes_75 : decode cX11_makes 75 = .ok (.putfield 114, 3) := by decide +kernel
theorem dX11_makes_78 : decode cX11_makes 78 = .ok (.goto (-23), 3) := by decide +kernel
theorem dX11_makes_81 : decode cX11_makes 81 = .ok (.iconst 1, 1) := by decide +kernel
theorem dX11_makes_82 : decode cX11_makes 82 = .ok (.istore_n 2, 1) := by decide +kernel
theorem dX11_makes_83 : decode cX11_makes 83 = .ok (.iconst 0, 1) := by decide +kernel
theorem dX11_makes_84 : decode cX11_makes 84 = .ok (.istore_n 3, 1) := by decide +kernel
theorem dX11_makes_85 : decode cX11_makes 85 = .ok (.iload_n 3, 1) := by decide +kernel
theorem dX11_makes_86 : decode cX11_makes 86 = .ok (.bipush 15, 2) := by decide +kernel
theorem dX11_makes_88 : decode cX11_makes 88 = .ok (.if_icmp .ge 38, 3) := by decide +kernel
theorem dX11_makes_91 : decode cX11_makes 91 = .ok (.aload_n 0, 1) := by decide +kernel
theorem dX11_makes_92 : decode cX11_makes 92 = .ok (.getfield 15, 3) := by decide +kernel
theorem dX11_makes_95 : decode cX11_makes 95 = .ok (.iload_n 3, 1) := by decide +kernel
theorem dX11_makes_96 : decode cX11_makes 96 = .ok (.iload_n 2, 1) := by decide +kernel
theorem dX11_makes_97 : decode cX11_makes 97 = .ok (.iastore, 1) := by decide +kernel
theorem dX11_makes_98 : decode cX11_makes 98 = .ok (.aload_n 0, 1) := by decide +kernel
theorem dX11_makes_99 : decode cX11_makes 99 = .ok (.getfield 18, 3) := by decide +kernel
theorem dX11_makes_102 : decode cX11_makes 102 = .ok (.iload_n 2, 1) := by decide +kernel
theorem dX11_makes_103 : decode cX11_makes 103 = .ok (.iload_n 3, 1) := by decide +kernel
theorem dX11_makes_104 : decode cX11_makes 104 = .ok (.iastore, 1) := by decide +kernel
theorem dX11_makes_105 : decode cX11_makes 105 = .ok (.aload_n 0, 1) := by decide +kernel
theorem dX11_makes_106 : decode cX11_makes 106 = .ok (.getfield 9, 3) := by decide +kernel
theorem dX11_makes_109 : decode cX11_makes 109 = .ok (.bipush 16, 2) := by decide +kernel
theorem dX11_makes_111 : decode cX11_makes 111 = .ok (.iload_n 2, 1) := by decide +kernel
theorem dX11_makes_112 : decode cX11_makes 112 = .ok (.imul, 1) := by decide +kernel
theorem dX11_makes_113 : decode cX11_makes 113 = .ok (.aload_n 0, 1) := by decide +kernel
theorem dX11_makes_114 : decode cX11_makes 114 = .ok (.getfield 114, 3) := by decide +kernel
theorem dX11_makes_117 : decode cX11_makes 117 = .ok (.iadd, 1) := by decide +kernel
theorem dX11_makes_118 : decode cX11_makes 118 = .ok (.iaload, 1) := by decide +kernel
theorem dX11_makes_119 : decode cX11_makes 119 = .ok (.istore_n 2, 1) := by decide +kernel
theorem dX11_makes_120 : decode cX11_makes 120 = .ok (.iinc 3 1, 3) := by decide +kernel
theorem dX11_makes_123 : decode cX11_makes 123 = .ok (.goto (-38), 3) := by decide +kernel
theorem dX11_makes_126 : decode cX11_makes 126 = .ok (.return_, 1) := by decide +kernel
theorem dX11_field_0 : decode cX11_field 0 = .ok (.iload_n 1, 1) := by decide +kernel
theorem dX11_field_1 : decode cX11_field 1 = .ok (.bipush 16, 2) := by decide +kernel
theorem dX11_field_3 : decode cX11_field 3 = .ok (.bipush 31, 2) := by decide +kernel
theorem dX11_field_5 : decode cX11_field 5 = .ok (.invokestatic 99, 3) := by decide +kernel
theorem dX11_field_8 : decode cX11_field 8 = .ok (.ifCond .eq 10, 3) := by decide +kernel
theorem dX11_field_11 : decode cX11_field 11 = .ok (.iload_n 1, 1) := by decide +kernel
theorem dX11_field_12 : decode cX11_field 12 = .ok (.invokestatic 121, 3) := by decide +kernel
theorem dX11_field_15 : decode cX11_field 15 = .ok (.ifCond .ne 6, 3) := by decide +kernel
theorem dX11_field_18 : decode cX11_field 18 = .ok (.bipush (-2), 2) := by decide +kernel
theorem dX11_field_20 : decode cX11_field 20 = .ok (.ireturn, 1) := by decide +kernel
theorem dX11_field_21 : decode cX11_field 21 = .ok (.aload_n 0, 1) := by decide +kernel
theorem dX11_field_22 : decode cX11_field 22 = .ok (.getfield 95, 3) := by decide +kernel
theorem dX11_field_25 : decode cX11_field 25 = .ok (.ifCond .le 6, 3) := by decide +kernel
theorem dX11_field_28 : decode cX11_field 28 = .ok (.bipush (-3), 2) := by decide +kernel
theorem dX11_field_30 : decode cX11_field 30 = .ok (.ireturn, 1) := by decide +kernel
theorem dX11_field_31 : decode cX11_field 31 = .ok (.aload_n 0, 1) := by decide +kernel
theorem dX11_field_32 : decode cX11_field 32 = .ok (.iload_n 1, 1) := by decide +kernel
theorem dX11_field_33 : decode cX11_field 33 = .ok (.invokevirtual 91, 3) := by decide +kernel
theorem dX11_field_36 : decode cX11_field 36 = .ok (.aload_n 0, 1) := by decide +kernel
theorem dX11_field_37 : decode cX11_field 37 = .ok (.getfield 114, 3) := by decide +kernel
theorem dX11_field_40 : decode cX11_field 40 = .ok (.ireturn, 1) := by decide +kernel
theorem dX11_times_0 : decode cX11_times 0 = .ok (.aload_n 0, 1) := by decide +kernel
theorem dX11_times_1 : decode cX11_times 1 = .ok (.getfield 9, 3) := by decide +kernel
theorem dX11_times_4 : decode cX11_times 4 = .ok (.bipush 16, 2) := by decide +kernel
theorem dX11_times_6 : decode cX11_times 6 = .ok (.iload_n 1, 1) := by decide +kernel
theorem dX11_times_7 : decode cX11_times 7 = .ok (.imul, 1) := by decide +kernel
theorem dX11_times_8 : decode cX11_times 8 = .ok (.iload_n 2, 1) := by decide +kernel
theorem dX11_times_9 : decode cX11_times 9 = .ok (.iadd, 1) := by decide +kernel
theorem dX11_times_10 : decode cX11_times 10 = .ok (.iaload, 1) := by decide +kernel
theorem dX11_times_11 : decode cX11_times 11 = .ok (.ireturn, 1) := by decide +kernel
theorem dX11_by_0 : decode cX11_by 0 = .ok (.iload_n 1, 1) := by decide +kernel
theorem dX11_by_1 : decode cX11_by 1 = .ok (.ifCond .ne 7, 3) := by decide +kernel
theorem dX11_by_4 : decode cX11_by 4 = .ok (.iconst 0, 1) := by decide +kernel
theorem dX11_by_5 : decode cX11_by 5 = .ok (.goto 27, 3) := by decide +kernel
theorem dX11_by_8 : decode cX11_by 8 = .ok (.aload_n 0, 1) := by decide +kernel
theorem dX11_by_9 : decode cX11_by 9 = .ok (.getfield 15, 3) := by decide +kernel
theorem dX11_by_12 : decode cX11_by 12 = .ok (.aload_n 0, 1) := by decide +kernel
theorem dX11_by_13 : decode cX11_by 13 = .ok (.getfield 18, 3) := by decide +kernel
theorem dX11_by_16 : decode cX11_by 16 = .ok (.iload_n 1, 1) := by decide +kernel
theorem dX11_by_17 : decode cX11_by 17 = .ok (.iaload, 1) := by decide +kernel
theorem dX11_by_18 : decode cX11_by 18 = .ok (.bipush 15, 2) := by decide +kernel
theorem dX11_by_20 : decode cX11_by 20 = .ok (.iadd, 1) := by decide +kernel
theorem dX11_by_21 : decode cX11_by 21 = .ok (.aload_n 0, 1) := by decide +kernel
theorem dX11_by_22 : decode cX11_by 22 = .ok (.getfield 18, 3) := by decide +kernel
theorem dX11_by_25 : decode cX11_by 25 = .ok (.iload_n 2, 1) := by decide +kernel
theorem dX11_by_26 : decode cX11_by 26 = .ok (.iaload, 1) := by decide +kernel
theorem dX11_by_27 : decode cX11_by 27 = .ok (.isub, 1) := by decide +kernel
theorem dX11_by_28 : decode cX11_by 28 = .ok (.bipush 15, 2) := by decide +kernel
theorem dX11_by_30 : decode cX11_by 30 = .ok (.irem, 1) := by decide +kernel
theorem dX11_by_31 : decode cX11_by 31 = .ok (.iaload, 1) := by decide +kernel
theorem dX11_by_32 : decode cX11_by 32 = .ok (.ireturn, 1) := by decide +kernel
theorem dX11_calc_0 : decode cX11_calc 0 = .ok (.iload_n 1, 1) := by decide +kernel
theorem dX11_calc_1 : decode cX11_calc 1 = .ok (.iconst 0, 1) := by decide +kernel
theorem dX11_calc_2 : decode cX11_calc 2 = .ok (.iconst 5, 1) := by decide +kernel
theorem dX11_calc_3 : decode cX11_calc 3 = .ok (.invokestatic 99, 3) := by decide +kernel
theorem dX11_calc_6 : decode cX11_calc 6 = .ok (.ifCond .ne 5, 3) := by decide +kernel
theorem dX11_calc_9 : decode cX11_calc 9 = .ok (.iconst (-1), 1) := by decide +kernel
theorem dX11_calc_10 : decode cX11_calc 10 = .ok (.ireturn, 1) := by decide +kernel
theorem dX11_calc_11 : decode cX11_calc 11 = .ok (.iload_n 1, 1) := by decide +kernel
theorem dX11_calc_12 : decode cX11_calc 12 = .ok (.iconst 4, 1) := by decide +kernel
theorem dX11_calc_13 : decode cX11_calc 13 = .ok (.if_icmp .ne 25, 3) := by decide +kernel
theorem dX11_calc_16 : decode cX11_calc 16 = .ok (.iload_n 2, 1) := by decide +kernel
theorem dX11_calc_17 : decode cX11_calc 17 = .ok (.iconst 0, 1) := by decide +kernel
theorem dX11_calc_18 : decode cX11_calc 18 = .ok (.bipush 14, 2) := by decide +kernel
theorem dX11_calc_20 : decode cX11_calc 20 = .ok (.invokestatic 99, 3) := by decide +kernel
theorem dX11_calc_23 : decode cX11_calc 23 = .ok (.ifCond .eq 12, 3) := by decide +kernel
theorem dX11_calc_26 : decode cX11_calc 26 = .ok (.aload_n 0, 1) := by decide +kernel
theorem dX11_calc_27 : decode cX11_calc 27 = .ok (.getfield 15, 3) := by decide +kernel
theorem dX11_calc_30 : decode cX11_calc 30 = .ok (.iload_n 2, 1) := by decide +kernel
theorem dX11_calc_31 : decode cX11_calc 31 = .ok (.iaload, 1) := by decide +kernel
theorem dX11_calc_32 : decode cX11_calc 32 = .ok (.goto 5, 3) := by decide +kernel
theorem dX11_calc_35 : decode cX11_calc 35 = .ok (.bipush (-2), 2) := by decide +kernel
theorem dX11_calc_37 : decode cX11_calc 37 = .ok (.ireturn, 1) := by decide +kernel
theorem dX11_calc_38 : decode cX11_calc 38 = .ok (.iload_n 2, 1) := by decide +kernel
theorem dX11_calc_39 : decode cX11_calc 39 = .ok (.invokestatic 125, 3) := by decide +kernel
theorem dX11_calc_42 : decode cX11_calc 42 = .ok (.ifCond .ne 6, 3) := by decide +kernel
theorem dX11_calc_45 : decode cX11_calc 45 = .ok (.bipush (-2), 2) := by decide +kernel
theorem dX11_calc_47 : decode cX11_calc 47 = .ok (.ireturn, 1) := by decide +kernel
theorem dX11_calc_48 : decode cX11_calc 48 = .ok (.iload_n 1, 1) := by decide +kernel
theorem dX11_calc_49 : decode cX11_calc 49 = .ok (.iconst 5, 1) := by decide +kernel
theorem dX11_calc_50 : decode cX11_calc 50 = .ok (.if_icmp .ne 19, 3) := by decide +kernel
theorem dX11_calc_53 : decode cX11_calc 53 = .ok (.iload_n 2, 1) := by decide +kernel
theorem dX11_calc_54 : decode cX11_calc 54 = .ok (.ifCond .ne 8, 3) := by decide +kernel
theorem dX11_calc_57 : decode cX11_calc 57 = .ok (.bipush (-2), 2) := by decide +kernel
theorem dX11_calc_59 : decode cX11_calc 59 = .ok (.goto 9, 3) := by decide +kernel
theorem dX11_calc_62 : decode cX11_calc 62 = .ok (.aload_n 0, 1) := by decide +kernel
theorem dX11_calc_63 : decode cX11_calc 63 = .ok (.getfield 18, 3) := by decide +kernel
theorem dX11_calc_66 : decode cX11_calc 66 = .ok (.iload_n 2, 1) := by decide +kernel
theorem dX11_calc_67 : decode cX11_calc 67 = .ok (.iaload, 1) := by decide +kernel
theorem dX11_calc_68 : decode cX11_calc 68 = .ok (.ireturn, 1) := by decide +kernel
theorem dX11_calc_69 : decode cX11_calc 69 = .ok (.iload_n 1, 1) := by decide +kernel
theorem dX11_calc_70 : decode cX11_calc 70 = .ok (.iconst 3, 1) := by decide +kernel
theorem dX11_calc_71 : decode cX11_calc 71 = .ok (.if_icmp .ne 49, 3) := by decide +kernel
theorem dX11_calc_74 : decode cX11_calc 74 = .ok (.iload_n 3, 1) := by decide +kernel
theorem dX11_calc_75 : decode cX11_calc 75 = .ok (.iconst 0, 1) := by decide +kernel
theorem dX11_calc_76 : decode cX11_calc 76 = .ok (.bipush 99, 2) := by decide +kernel
theorem dX11_calc_78 : decode cX11_calc 78 = .ok (.invokestatic 99, 3) := by decide +kernel
theorem dX11_calc_81 : decode cX11_calc 81 = .ok (.ifCond .ne 6, 3) := by decide +kernel
theorem dX11_calc_84 : decode cX11_calc 84 = .ok (.bipush (-2), 2) := by decide +kernel
theorem dX11_calc_86 : decode cX11_calc 86 = .ok (.ireturn, 1) := by decide +kernel
theorem dX11_calc_87 : decode cX11_calc 87 = .ok (.iload_n 3, 1) := by decide +kernel
theorem dX11_calc_88 : decode cX11_calc 88 = .ok (.ifCond .ne 7, 3) := by decide +kernel
theorem dX11_calc_91 : decode cX11_calc 91 = .ok (.iconst 1, 1) := by decide +kernel
theorem dX11_calc_92 : decode cX11_calc 92 = .ok (.goto 27, 3) := by decide +kernel
theorem dX11_calc_95 : decode cX11_calc 95 = .ok (.iload_n 2, 1) := by decide +kernel
theorem dX11_calc_96 : decode cX11_calc 96 = .ok (.ifCond .ne 7, 3) := by decide +kernel
theorem dX11_calc_99 : decode cX11_calc 99 = .ok (.iconst 0, 1) := by decide +kernel
theorem dX11_calc_100 : decode cX11_calc 100 = .ok (.goto 19, 3) := by decide +kernel
theorem dX11_calc_103 : decode cX11_calc 103 = .ok (.aload_n 0, 1) := by decide +kernel
theorem dX11_calc_104 : decode cX11_calc 104 = .ok (.getfield 15, 3) := by decide +kernel
theorem dX11_calc_107 : decode cX11_calc 107 = .ok (.aload_n 0, 1) := by decide +kernel
theorem dX11_calc_108 : decode cX11_calc 108 = .ok (.getfield 18, 3) := by decide +kernel
theorem dX11_calc_111 : decode cX11_calc 111 = .ok (.iload_n 2, 1) := by decide +kernel
theorem dX11_calc_112 : decode cX11_calc 112 = .ok (.iaload, 1) := by decide +kernel
theorem dX11_calc_113 : decode cX11_calc 113 = .ok (.iload_n 3, 1) := by decide +kernel
theorem dX11_calc_114 : decode cX11_calc 114 = .ok (.imul, 1) := by decide +kernel
theorem dX11_calc_115 : decode cX11_calc 115 = .ok (.bipush 15, 2) := by decide +kernel
theorem dX11_calc_117 : decode cX11_calc 117 = .ok (.irem, 1) := by decide +kernel
theorem dX11_calc_118 : decode cX11_calc 118 = .ok (.iaload, 1) := by decide +kernel
theorem dX11_calc_119 : decode cX11_calc 119 = .ok (.ireturn, 1) := by decide +kernel
theorem dX11_calc_120 : decode cX11_calc 120 = .ok (.iload_n 3, 1) := by decide +kernel
theorem dX11_calc_121 : decode cX11_calc 121 = .ok (.invokestatic 125, 3) := by decide +kernel
theorem dX11_calc_124 : decode cX11_calc 124 = .ok (.ifCond .eq 12, 3) := by decide +kernel
theorem dX11_calc_127 : decode cX11_calc 127 = .ok (.iload_n 1, 1) := by decide +kernel
theorem dX11_calc_128 : decode cX11_calc 128 = .ok (.iconst 2, 1) := by decide +kernel
theorem dX11_calc_129 : decode cX11_calc 129 = .ok (.if_icmp .ne 10, 3) := by decide +kernel
theorem dX11_calc_132 : decode cX11_calc 132 = .ok (.iload_n 3, 1) := by decide +kernel
theorem dX11_calc_133 : decode cX11_calc 133 = .ok (.ifCond .ne 6, 3) := by decide +kernel
theorem dX11_calc_136 : decode cX11_calc 136 = .ok (.bipush (-2), 2) := by decide +kernel
theorem dX11_calc_138 : decode cX11_calc 138 = .ok (.ireturn, 1) := by decide +kernel
theorem dX11_calc_139 : decode cX11_calc 139 = .ok (.iload_n 1, 1) := by decide +kernel
theorem dX11_calc_140 : decode cX11_calc 140 = .ok (.ifCond .ne 9, 3) := by decide +kernel
theorem dX11_calc_143 : decode cX11_calc 143 = .ok (.iload_n 2, 1) := by decide +kernel
theorem dX11_calc_144 : decode cX11_calc 144 = .ok (.iload_n 3, 1) := by decide +kernel
theorem dX11_calc_145 : decode cX11_calc 145 = .ok (.ixor, 1) := by decide +kernel
theorem dX11_calc_146 : decode cX11_calc 146 = .ok (.goto 23, 3) := by decide +kernel
theorem dX11_calc_149 : decode cX11_calc 149 = .ok (.iload_n 1, 1) := by decide +kernel
theorem dX11_calc_150 : decode cX11_calc 150 = .ok (.iconst 1, 1) := by decide +kernel
theorem dX11_calc_151 : decode cX11_calc 151 = .ok (.if_icmp .ne 12, 3) := by decide +kernel
theorem dX11_calc_154 : decode cX11_calc 154 = .ok (.aload_n 0, 1) := by decide +kernel
theorem dX11_calc_155 : decode cX11_calc 155 = .ok (.iload_n 2, 1) := by decide +kernel
theorem dX11_calc_156 : decode cX11_calc 156 = .ok (.iload_n 3, 1) := by decide +kernel
theorem dX11_calc_157 : decode cX11_calc 157 = .ok (.invokevirtual 128, 3) := by decide +kernel
theorem dX11_calc_160 : decode cX11_calc 160 = .ok (.goto 9, 3) := by decide +kernel
theorem dX11_calc_163 : decode cX11_calc 163 = .ok (.aload_n 0, 1) := by decide +kernel
theorem dX11_calc_164 : decode cX11_calc 164 = .ok (.iload_n 2, 1) := by decide +kernel
theorem dX11_calc_165 : decode cX11_calc 165 = .ok (.iload_n 3, 1) := by decide +kernel
theorem dX11_calc_166 : decode cX11_calc 166 = .ok (.invokevirtual 131, 3) := by decide +kernel
theorem dX11_calc_169 : decode cX11_calc 169 = .ok (.ireturn, 1) := by decide +kernel
theorem dX11_newNode_0 : decode cX11_newNode 0 = .ok (.aload_n 0, 1) := by decide +kernel
theorem dX11_newNode_1 : decode cX11_newNode 1 = .ok (.getfield 21, 3) := by decide +kernel
theorem dX11_newNode_4 : decode cX11_newNode 4 = .ok (.aload_n 0, 1) := by decide +kernel
theorem dX11_newNode_5 : decode cX11_newNode 5 = .ok (.getfield 95, 3) := by decide +kernel
theorem dX11_newNode_8 : decode cX11_newNode 8 = .ok (.iload_n 1, 1) := by decide +kernel
theorem dX11_newNode_9 : decode cX11_newNode 9 = .ok (.iastore, 1) := by decide +kernel
theorem dX11_newNode_10 : decode cX11_newNode 10 = .ok (.aload_n 0, 1) := by decide +kernel
theorem dX11_newNode_11 : decode cX11_newNode 11 = .ok (.getfield 24, 3) := by decide +kernel
theorem dX11_newNode_14 : decode cX11_newNode 14 = .ok (.aload_n 0, 1) := by decide +kernel
theorem dX11_newNode_15 : decode cX11_newNode 15 = .ok (.getfield 95, 3) := by decide +kernel
theorem dX11_newNode_18 : decode cX11_newNode 18 = .ok (.iload_n 2, 1) := by decide +kernel
theorem dX11_newNode_19 : decode cX11_newNode 19 = .ok (.iastore, 1) := by decide +kernel
theorem dX11_newNode_20 : decode cX11_newNode 20 = .ok (.aload_n 0, 1) := by decide +kernel
theorem dX11_newNode_21 : decode cX11_newNode 21 = .ok (.getfield 27, 3) := by decide +kernel
theorem dX11_newNode_24 : decode cX11_newNode 24 = .ok (.aload_n 0, 1) := by decide +kernel
theorem dX11_newNode_25 : decode cX11_newNode 25 = .ok (.getfield 95, 3) := by decide +kernel
theorem dX11_newNode_28 : decode cX11_newNode 28 = .ok (.iload_n 3, 1) := by decide +kernel
theorem dX11_newNode_29 : decode cX11_newNode 29 = .ok (.iastore, 1) := by decide +kernel
theorem dX11_newNode_30 : decode cX11_newNode 30 = .ok (.aload_n 0, 1) := by decide +kernel
theorem dX11_newNode_31 : decode cX11_newNode 31 = .ok (.getfield 30, 3) := by decide +kernel
theorem dX11_newNode_34 : decode cX11_newNode 34 = .ok (.aload_n 0, 1) := by decide +kernel
theorem dX11_newNode_35 : decode cX11_newNode 35 = .ok (.getfield 95, 3) := by decide +kernel
theorem dX11_newNode_38 : decode cX11_newNode 38 = .ok (.iconst 0, 1) := by decide +kernel
theorem dX11_newNode_39 : decode cX11_newNode 39 = .ok (.iastore, 1) := by decide +kernel
theorem dX11_newNode_40 : decode cX11_newNode 40 = .ok (.aload_n 0, 1) := by decide +kernel
theorem dX11_newNode_41 : decode cX11_newNode 41 = .ok (.getfield 33, 3) := by decide +kernel
theorem dX11_newNode_44 : decode cX11_newNode 44 = .ok (.aload_n 0, 1) := by decide +kernel
theorem dX11_newNode_45 : decode cX11_newNode 45 = .ok (.getfield 95, 3) := by decide +kernel
theorem dX11_newNode_48 : decode cX11_newNode 48 = .ok (.iconst 0, 1) := by decide +kernel
theorem dX11_newNode_49 : decode cX11_newNode 49 = .ok (.iastore, 1) := by decide +kernel
theorem dX11_newNode_50 : decode cX11_newNode 50 = .ok (.iconst 0, 1) := by decide +kernel
theorem dX11_newNode_51 : decode cX11_newNode 51 = .ok (.istore 4, 2) := by decide +kernel
theorem dX11_newNode_53 : decode cX11_newNode 53 = .ok (.iload 4, 2) := by decide +kernel
theorem dX11_newNode_55 : decode cX11_newNode 55 = .ok (.iconst 5, 1) := by decide +kernel
theorem dX11_newNode_56 : decode cX11_newNode 56 = .ok (.if_icmp .ge 34, 3) := by decide +kernel
theorem dX11_newNode_59 : decode cX11_newNode 59 = .ok (.aload_n 0, 1) := by decide +kernel
theorem dX11_newNode_60 : decode cX11_newNode 60 = .ok (.getfield 36, 3) := by decide +kernel
theorem dX11_newNode_63 : decode cX11_newNode 63 = .ok (.iconst 5, 1) := by decide +kernel
theorem dX11_newNode_64 : decode cX11_newNode 64 = .ok (.aload_n 0, 1) := by decide +kernel
theorem dX11_newNode_65 : decode cX11_newNode 65 = .ok (.getfield 95, 3) := by decide +kernel
theorem dX11_newNode_68 : decode cX11_newNode 68 = .ok (.imul, 1) := by decide +kernel
theorem dX11_newNode_69 : decode cX11_newNode 69 = .ok (.iload 4, 2) := by decide +kernel
theorem dX11_newNode_71 : decode cX11_newNode 71 = .ok (.iadd, 1) := by decide +kernel
theorem dX11_newNode_72 : decode cX11_newNode 72 = .ok (.iload 4, 2) := by decide +kernel
theorem dX11_newNode_74 : decode cX11_newNode 74 = .ok (.iload_n 3, 1) := by decide +kernel
theorem dX11_newNode_75 : decode cX11_newNode 75 = .ok (.if_icmp .ne 7, 3) := by decide +kernel
theorem dX11_newNode_78 : decode cX11_newNode 78 = .ok (.iconst 1, 1) := by decide +kernel
theorem dX11_newNode_79 : decode cX11_newNode 79 = .ok (.goto 4, 3) := by decide +kernel
theorem dX11_newNode_82 : decode cX11_newNode 82 = .ok (.iconst 0, 1) := by decide +kernel
theorem dX11_newNode_83 : decode cX11_newNode 83 = .ok (.iastore, 1) := by decide +kernel
theorem dX11_newNode_84 : decode cX11_newNode 84 = .ok (.iinc 4 1, 3) := by decide +kernel
theorem dX11_newNode_87 : decode cX11_newNode 87 = .ok (.goto (-34), 3) := by decide +kernel
theorem dX11_newNode_90 : decode cX11_newNode 90 = .ok (.iconst 0, 1) := by decide +kernel
theorem dX11_newNode_91 : decode cX11_newNode 91 = .ok (.istore 4, 2) := by decide +kernel
theorem dX11_newNode_93 : decode cX11_newNode 93 = .ok (.iload 4, 2) := by decide +kernel
theorem dX11_newNode_95 : decode cX11_newNode 95 = .ok (.iconst 4, 1) := by decide +kernel
theorem dX11_newNode_96 : decode cX11_newNode 96 = .ok (.if_icmp .ge 24, 3) := by decide +kernel
theorem dX11_newNode_99 : decode cX11_newNode 99 = .ok (.aload_n 0, 1) := by decide +kernel
theorem dX11_newNode_100 : decode cX11_newNode 100 = .ok (.getfield 39, 3) := by decide +kernel
theorem dX11_newNode_103 : decode cX11_newNode 103 = .ok (.iconst 4, 1) := by decide +kernel
theorem dX11_newNode_104 : decode cX11_newNode 104 = .ok (.aload_n 0, 1) := by decide +kernel
theorem dX11_newNode_105 : decode cX11_newNode 105 = .ok (.getfield 95, 3) := by decide +kernel
theorem dX11_newNode_108 : decode cX11_newNode 108 = .ok (.imul, 1) := by decide +kernel
theorem dX11_newNode_109 : decode cX11_newNode 109 = .ok (.iload 4, 2) := by decide +kernel
theorem dX11_newNode_111 : decode cX11_newNode 111 = .ok (.iadd, 1) := by decide +kernel
theorem dX11_newNode_112 : decode cX11_newNode 112 = .ok (.iconst 0, 1) := by decide +kernel
theorem dX11_newNode_113 : decode cX11_newNode 113 = .ok (.iastore, 1) := by decide +kernel
theorem dX11_newNode_114 : decode cX11_newNode 114 = .ok (.iinc 4 1, 3) := by decide +kernel
theorem dX11_newNode_117 : decode cX11_newNode 117 = .ok (.goto (-24), 3) := by decide +kernel
theorem dX11_newNode_120 : decode cX11_newNode 120 = .ok (.aload_n 0, 1) := by decide +kernel
theorem dX11_newNode_121 : decode cX11_newNode 121 = .ok (.dup, 1) := by decide +kernel
theorem dX11_newNode_122 : decode cX11_newNode 122 = .ok (.getfield 95, 3) := by decide +kernel
theorem dX11_newNode_125 : decode cX11_newNode 125 = .ok (.dup_x1, 1) := by decide +kernel
theorem dX11_newNode_126 : decode cX11_newNode 126 = .ok (.iconst 1, 1) := by decide +kernel
theorem dX11_newNode_127 : decode cX11_newNode 127 = .ok (.iadd, 1) := by decide +kernel
theorem dX11_newNode_128 : decode cX11_newNode 128 = .ok (.putfield 95, 3) := by decide +kernel
theorem dX11_newNode_131 : decode cX11_newNode 131 = .ok (.ireturn, 1) := by decide +kernel
theorem dX11_data_0 : decode cX11_data 0 = .ok (.iload_n 1, 1) := by decide +kernel
theorem dX11_data_1 : decode cX11_data 1 = .ok (.iconst 0, 1) := by decide +kernel
theorem dX11_data_2 : decode cX11_data 2 = .ok (.bipush 6, 2) := by decide +kernel
theorem dX11_data_4 : decode cX11_data 4 = .ok (.invokestatic 99, 3) := by decide +kernel
theorem dX11_data_7 : decode cX11_data 7 = .ok (.ifCond .ne 5, 3) := by decide +kernel
theorem dX11_data_10 : decode cX11_data 10 = .ok (.iconst (-1), 1) := by decide +kernel
theorem dX11_data_11 : decode cX11_data 11 = .ok (.ireturn, 1) := by decide +kernel
theorem dX11_data_12 : decode cX11_data 12 = .ok (.iload_n 2, 1) := by decide +kernel
theorem dX11_data_13 : decode cX11_data 13 = .ok (.iconst 0, 1) := by decide +kernel
theorem dX11_data_14 : decode cX11_data 14 = .ok (.bipush 9, 2) := by decide +kernel
theorem dX11_data_16 : decode cX11_data 16 = .ok (.invokestatic 99, 3) := by decide +kernel
theorem dX11_data_19 : decode cX11_data 19 = .ok (.ifCond .ne 6, 3) := by decide +kernel
theorem dX11_data_22 : decode cX11_data 22 = .ok (.bipush (-2), 2) := by decide +kernel
theorem dX11_data_24 : decode cX11_data 24 = .ok (.ireturn, 1) := by decide +kernel
theorem dX11_data_25 : decode cX11_data 25 = .ok (.aload_n 0, 1) := by decide +kernel
theorem dX11_data_26 : decode cX11_data 26 = .ok (.getfield 134, 3) := by decide +kernel
theorem dX11_data_29 : decode cX11_data 29 = .ok (.iconst 5, 1) := by decide +kernel
theorem dX11_data_30 : decode cX11_data 30 = .ok (.if_icmp .ne 6, 3) := by decide +kernel
theorem dX11_data_33 : decode cX11_data 33 = .ok (.bipush (-4), 2) := by decide +kernel
theorem dX11_data_35 : decode cX11_data 35 = .ok (.ireturn, 1) := by decide +kernel
theorem dX11_data_36 : decode cX11_data 36 = .ok (.aload_n 0, 1) := by decide +kernel
theorem dX11_data_37 : decode cX11_data 37 = .ok (.getfield 42, 3) := by decide +kernel
theorem dX11_data_40 : decode cX11_data 40 = .ok (.aload_n 0, 1) := by decide +kernel
theorem dX11_data_41 : decode cX11_data 41 = .ok (.getfield 134, 3) := by decide +kernel
theorem dX11_data_44 : decode cX11_data 44 = .ok (.iconst 0, 1) := by decide +kernel
theorem dX11_data_45 : decode cX11_data 45 = .ok (.iastore, 1) := by decide +kernel
theorem dX11_data_46 : decode cX11_data 46 = .ok (.aload_n 0, 1) := by decide +kernel
theorem dX11_data_47 : decode cX11_data 47 = .ok (.getfield 45, 3) := by decide +kernel
theorem dX11_data_50 : decode cX11_data 50 = .ok (.aload_n 0, 1) := by decide +kernel
theorem dX11_data_51 : decode cX11_data 51 = .ok (.getfield 134, 3) := by decide +kernel
theorem dX11_data_54 : decode cX11_data 54 = .ok (.aload_n 0, 1) := by decide +kernel
theorem dX11_data_55 : decode cX11_data 55 = .ok (.getfield 95, 3) := by decide +kernel
theorem dX11_data_58 : decode cX11_data 58 = .ok (.iastore, 1) := by decide +kernel
theorem dX11_data_59 : decode cX11_data 59 = .ok (.aload_n 0, 1) := by decide +kernel
theorem dX11_data_60 : decode cX11_data 60 = .ok (.iload_n 1, 1) := by decide +kernel
theorem dX11_data_61 : decode cX11_data 61 = .ok (.iload_n 2, 1) := by decide +kernel
theorem dX11_data_62 : decode cX11_data 62 = .ok (.aload_n 0, 1) := by decide +kernel
theorem dX11_data_63 : decode cX11_data 63 = .ok (.dup, 1) := by decide +kernel
theorem dX11_data_64 : decode cX11_data 64 = .ok (.getfield 134, 3) := by decide +kernel
theorem dX11_data_67 : decode cX11_data 67 = .ok (.dup_x1, 1) := by decide +kernel
theorem dX11_data_68 : decode cX11_data 68 = .ok (.iconst 1, 1) := by decide +kernel
theorem dX11_data_69 : decode cX11_data 69 = .ok (.iadd, 1) := by decide +kernel
theorem dX11_data_70 : decode cX11_data 70 = .ok (.putfield 134, 3) := by decide +kernel
theorem dX11_data_73 : decode cX11_data 73 = .ok (.invokevirtual 137, 3) := by decide +kernel
theorem dX11_data_76 : decode cX11_data 76 = .ok (.ireturn, 1) := by decide +kernel
theorem dX11_feed_0 : decode cX11_feed 0 = .ok (.iload_n 1, 1) := by decide +kernel
theorem dX11_feed_1 : decode cX11_feed 1 = .ok (.iconst 0, 1) := by decide +kernel
theorem dX11_feed_2 : decode cX11_feed 2 = .ok (.bipush 127, 2) := by decide +kernel
theorem dX11_feed_4 : decode cX11_feed 4 = .ok (.invokestatic 99, 3) := by decide +kernel
theorem dX11_feed_7 : decode cX11_feed 7 = .ok (.ifCond .ne 6, 3) := by decide +kernel
theorem dX11_feed_10 : decode cX11_feed 10 = .ok (.bipush (-2), 2) := by decide +kernel
theorem dX11_feed_12 : decode cX11_feed 12 = .ok (.ireturn, 1) := by decide +kernel
theorem dX11_feed_13 : decode cX11_feed 13 = .ok (.aload_n 0, 1) := by decide +kernel
theorem dX11_feed_14 : decode cX11_feed 14 = .ok (.getfield 140, 3) := by decide +kernel
theorem dX11_feed_17 : decode cX11_feed 17 = .ok (.bipush 100, 2) := by decide +kernel
theorem dX11_feed_19 : decode cX11_feed 19 = .ok (.if_icmp .ne 6, 3) := by decide +kernel
theorem dX11_feed_22 : decode cX11_feed 22 = .ok (.bipush (-4), 2) := by decide +kernel
theorem dX11_feed_24 : decode cX11_feed 24 = .ok (.ireturn, 1) := by decide +kernel
theorem dX11_feed_25 : decode cX11_feed 25 = .ok (.aload_n 0, 1) := by decide +kernel
theorem dX11_feed_26 : decode cX11_feed 26 = .ok (.getfield 48, 3) := by decide +kernel
theorem dX11_feed_29 : decode cX11_feed 29 = .ok (.aload_n 0, 1) := by decide +kernel
theorem dX11_feed_30 : decode cX11_feed 30 = .ok (.dup, 1) := by decide +kernel
theorem dX11_feed_31 : decode cX11_feed 31 = .ok (.getfield 140, 3) := by decide +kernel
theorem dX11_feed_34 : decode cX11_feed 34 = .ok (.dup_x1, 1) := by decide +kernel
theorem dX11_feed_35 : decode cX11_feed 35 = .ok (.iconst 1, 1) := by decide +kernel
theorem dX11_feed_36 : decode cX11_feed 36 = .ok (.iadd, 1) := by decide +kernel
theorem dX11_feed_37 : decode cX11_feed 37 = .ok (.putfield 140, 3) := by decide +kernel
theorem dX11_feed_40 : decode cX11_feed 40 = .ok (.iload_n 1, 1) := by decide +kernel
theorem dX11_feed_41 : decode cX11_feed 41 = .ok (.iastore, 1) := by decide +kernel
theorem dX11_feed_42 : decode cX11_feed 42 = .ok (.aload_n 0, 1) := by decide +kernel
theorem dX11_feed_43 : decode cX11_feed 43 = .ok (.getfield 140, 3) := by decide +kernel
theorem dX11_feed_46 : decode cX11_feed 46 = .ok (.ireturn, 1) := by decide +kernel
theorem dX11_sign_0 : decode cX11_sign 0 = .ok (.aload_n 0, 1) := by decide +kernel
theorem dX11_sign_1 : decode cX11_sign 1 = .ok (.getfield 143, 3) := by decide +kernel
theorem dX11_sign_4 : decode cX11_sign 4 = .ok (.aload_n 0, 1) := by decide +kernel
theorem dX11_sign_5 : decode cX11_sign 5 = .ok (.getfield 140, 3) := by decide +kernel
theorem dX11_sign_8 : decode cX11_sign 8 = .ok (.if_icmp .ge 15, 3) := by decide +kernel
theorem dX11_sign_11 : decode cX11_sign 11 = .ok (.aload_n 0, 1) := by decide +kernel
theorem dX11_sign_12 : decode cX11_sign 12 = .ok (.getfield 48, 3) := by decide +kernel
theorem dX11_sign_15 : decode cX11_sign 15 = .ok (.aload_n 0, 1) := by decide +kernel
theorem dX11_sign_16 : decode cX11_sign 16 = .ok (.getfield 143, 3) := by decide +kernel
theorem dX11_sign_19 : decode cX11_sign 19 = .ok (.iaload, 1) := by decide +kernel
theorem dX11_sign_20 : decode cX11_sign 20 = .ok (.goto 4, 3) := by decide +kernel
theorem dX11_sign_23 : decode cX11_sign 23 = .ok (.iconst (-1), 1) := by decide +kernel
theorem dX11_sign_24 : decode cX11_sign 24 = .ok (.ireturn, 1) := by decide +kernel
theorem dX11_is_0 : decode cX11_is 0 = .ok (.aload_n 0, 1) := by decide +kernel
theorem dX11_is_1 : decode cX11_is 1 = .ok (.invokevirtual 146, 3) := by decide +kernel
theorem dX11_is_4 : decode cX11_is 4 = .ok (.iload_n 1, 1) := by decide +kernel
theorem dX11_is_5 : decode cX11_is 5 = .ok (.if_icmp .eq 5, 3) := by decide +kernel
theorem dX11_is_8 : decode cX11_is 8 = .ok (.iconst 0, 1) := by decide +kernel
theorem dX11_is_9 : decode cX11_is 9 = .ok (.ireturn, 1) := by decide +kernel
theorem dX11_is_10 : decode cX11_is 10 = .ok (.aload_n 0, 1) := by decide +kernel
theorem dX11_is_11 : decode cX11_is 11 = .ok (.dup, 1) := by decide +kernel
theorem dX11_is_12 : decode cX11_is 12 = .ok (.getfield 143, 3) := by decide +kernel
theorem dX11_is_15 : decode cX11_is 15 = .ok (.iconst 1, 1) := by decide +kernel
theorem dX11_is_16 : decode cX11_is 16 = .ok (.iadd, 1) := by decide +kernel
theorem dX11_is_17 : decode cX11_is 17 = .ok (.putfield 143, 3) := by decide +kernel
theorem dX11_is_20 : decode cX11_is 20 = .ok (.iconst 1, 1) := by decide +kernel
theorem dX11_is_21 : decode cX11_is 21 = .ok (.ireturn, 1) := by decide +kernel
theorem dX11_isT_0 : decode cX11_isT 0 = .ok (.aload_n 0, 1) := by decide +kernel
theorem dX11_isT_1 : decode cX11_isT 1 = .ok (.bipush 120, 2) := by decide +kernel
theorem dX11_isT_3 : decode cX11_isT 3 = .ok (.invokevirtual 150, 3) := by decide +kernel
theorem dX11_isT_6 : decode cX11_isT 6 = .ok (.ifCond .eq 49, 3) := by decide +kernel
theorem dX11_isT_9 : decode cX11_isT 9 = .ok (.aload_n 0, 1) := by decide +kernel
theorem dX11_isT_10 : decode cX11_isT 10 = .ok (.invokevirtual 146, 3) := by decide +kernel
theorem dX11_isT_13 : decode cX11_isT 13 = .ok (.bipush 48, 2) := by decide +kernel
theorem dX11_isT_15 : decode cX11_isT 15 = .ok (.bipush 52, 2) := by decide +kernel
theorem dX11_isT_17 : decode cX11_isT 17 = .ok (.invokestatic 99, 3) := by decide +kernel
theorem dX11_isT_20 : decode cX11_isT 20 = .ok (.ifCond .ne 5, 3) := by decide +kernel
theorem dX11_isT_23 : decode cX11_isT 23 = .ok (.iconst 0, 1) := by decide +kernel
theorem dX11_isT_24 : decode cX11_isT 24 = .ok (.ireturn, 1) := by decide +kernel
theorem dX11_isT_25 : decode cX11_isT 25 = .ok (.aload_n 0, 1) := by decide +kernel
theorem dX11_isT_26 : decode cX11_isT 26 = .ok (.invokevirtual 146, 3) := by decide +kernel
theorem dX11_isT_29 : decode cX11_isT 29 = .ok (.bipush 48, 2) := by decide +kernel
theorem dX11_isT_31 : decode cX11_isT 31 = .ok (.isub, 1) := by decide +kernel
theorem dX11_isT_32 : decode cX11_isT 32 = .ok (.istore_n 2, 1) := by decide +kernel
theorem dX11_isT_33 : decode cX11_isT 33 = .ok (.aload_n 0, 1) := by decide +kernel
theorem dX11_isT_34 : decode cX11_isT 34 = .ok (.getfield 51, 3) := by decide +kernel
theorem dX11_isT_37 : decode cX11_isT 37 = .ok (.iload_n 2, 1) := by decide +kernel
theorem dX11_isT_38 : decode cX11_isT 38 = .ok (.dup2, 1) := by decide +kernel
theorem dX11_isT_39 : decode cX11_isT 39 = .ok (.iaload, 1) := by decide +kernel
theorem dX11_isT_40 : decode cX11_isT 40 = .ok (.iload_n 1, 1) := by decide +kernel
theorem dX11_isT_41 : decode cX11_isT 41 = .ok (.ixor, 1) := by decide +kernel
theorem dX11_isT_42 : decode cX11_isT 42 = .ok (.iastore, 1) := by decide +kernel
theorem dX11_isT_43 : decode cX11_isT 43 = .ok (.aload_n 0, 1) := by decide +kernel
theorem dX11_isT_44 : decode cX11_isT 44 = .ok (.dup, 1) := by decide +kernel
theorem dX11_isT_45 : decode cX11_isT 45 = .ok (.getfield 143, 3) := by decide +kernel
theorem dX11_isT_48 : decode cX11_isT 48 = .ok (.iconst 1, 1) := by decide +kernel
theorem dX11_isT_49 : decode cX11_isT 49 = .ok (.iadd, 1) := by decide +kernel
theorem dX11_isT_50 : decode cX11_isT 50 = .ok (.putfield 143, 3) := by decide +kernel
theorem dX11_isT_53 : decode cX11_isT 53 = .ok (.iconst 1, 1) := by decide +kernel
theorem dX11_isT_54 : decode cX11_isT 54 = .ok (.ireturn, 1) := by decide +kernel
theorem dX11_isT_55 : decode cX11_isT 55 = .ok (.aload_n 0, 1) := by decide +kernel
theorem dX11_isT_56 : decode cX11_isT 56 = .ok (.getfield 153, 3) := by decide +kernel
theorem dX11_isT_59 : decode cX11_isT 59 = .ok (.iconst 4, 1) := by decide +kernel
theorem dX11_isT_60 : decode cX11_isT 60 = .ok (.if_icmp .ne 5, 3) := by decide +kernel
theorem dX11_isT_63 : decode cX11_isT 63 = .ok (.iconst 0, 1) := by decide +kernel
theorem dX11_isT_64 : decode cX11_isT 64 = .ok (.ireturn, 1) := by decide +kernel
theorem dX11_isT_65 : decode cX11_isT 65 = .ok (.aload_n 0, 1) := by decide +kernel
theorem dX11_isT_66 : decode cX11_isT 66 = .ok (.invokevirtual 146, 3) := by decide +kernel
theorem dX11_isT_69 : decode cX11_isT 69 = .ok (.bipush 48, 2) := by decide +kernel
theorem dX11_isT_71 : decode cX11_isT 71 = .ok (.bipush 57, 2) := by decide +kernel
theorem dX11_isT_73 : decode cX11_isT 73 = .ok (.invokestatic 99, 3) := by decide +kernel
theorem dX11_isT_76 : decode cX11_isT 76 = .ok (.ifCond .eq 13, 3) := by decide +kernel
theorem dX11_isT_79 : decode cX11_isT 79 = .ok (.aload_n 0, 1) := by decide +kernel
theorem dX11_isT_80 : decode cX11_isT 80 = .ok (.invokevirtual 146, 3) := by decide +kernel
theorem dX11_isT_83 : decode cX11_isT 83 = .ok (.bipush 48, 2) := by decide +kernel
theorem dX11_isT_85 : decode cX11_isT 85 = .ok (.isub, 1) := by decide +kernel
theorem dX11_isT_86 : decode cX11_isT 86 = .ok (.goto 31, 3) := by decide +kernel
theorem dX11_isT_89 : decode cX11_isT 89 = .ok (.aload_n 0, 1) := by decide +kernel
theorem dX11_isT_90 : decode cX11_isT 90 = .ok (.invokevirtual 146, 3) := by decide +kernel
theorem dX11_isT_93 : decode cX11_isT 93 = .ok (.bipush 97, 2) := by decide +kernel
theorem dX11_isT_95 : decode cX11_isT 95 = .ok (.bipush 102, 2) := by decide +kernel
theorem dX11_isT_97 : decode cX11_isT 97 = .ok (.invokestatic 99, 3) := by decide +kernel
theorem dX11_isT_100 : decode cX11_isT 100 = .ok (.ifCond .eq 16, 3) := by decide +kernel
theorem dX11_isT_103 : decode cX11_isT 103 = .ok (.aload_n 0, 1) := by decide +kernel
theorem dX11_isT_104 : decode cX11_isT 104 = .ok (.invokevirtual 146, 3) := by decide +kernel
theorem dX11_isT_107 : decode cX11_isT 107 = .ok (.bipush 97, 2) := by decide +kernel
theorem dX11_isT_109 : decode cX11_isT 109 = .ok (.isub, 1) := by decide +kernel
theorem dX11_isT_110 : decode cX11_isT 110 = .ok (.bipush 10, 2) := by decide +kernel
theorem dX11_isT_112 : decode cX11_isT 112 = .ok (.iadd, 1) := by decide +kernel
theorem dX11_isT_113 : decode cX11_isT 113 = .ok (.goto 4, 3) := by decide +kernel
theorem dX11_isT_116 : decode cX11_isT 116 = .ok (.iconst (-1), 1) := by decide +kernel
theorem dX11_isT_117 : decode cX11_isT 117 = .ok (.istore_n 2, 1) := by decide +kernel
theorem dX11_isT_118 : decode cX11_isT 118 = .ok (.iload_n 2, 1) := by decide +kernel
theorem dX11_isT_119 : decode cX11_isT 119 = .ok (.iconst (-1), 1) := by decide +kernel
theorem dX11_isT_120 : decode cX11_isT 120 = .ok (.if_icmp .eq 48, 3) := by decide +kernel
theorem dX11_isT_123 : decode cX11_isT 123 = .ok (.aload_n 0, 1) := by decide +kernel
theorem dX11_isT_124 : decode cX11_isT 124 = .ok (.dup, 1) := by decide +kernel
theorem dX11_isT_125 : decode cX11_isT 125 = .ok (.getfield 143, 3) := by decide +kernel
theorem dX11_isT_128 : decode cX11_isT 128 = .ok (.iconst 1, 1) := by decide +kernel
theorem dX11_isT_129 : decode cX11_isT 129 = .ok (.iadd, 1) := by decide +kernel
theorem dX11_isT_130 : decode cX11_isT 130 = .ok (.putfield 143, 3) := by decide +kernel
theorem dX11_isT_133 : decode cX11_isT 133 = .ok (.aload_n 0, 1) := by decide +kernel
theorem dX11_isT_134 : decode cX11_isT 134 = .ok (.bipush 42, 2) := by decide +kernel
theorem dX11_isT_136 : decode cX11_isT 136 = .ok (.invokevirtual 150, 3) := by decide +kernel
theorem dX11_isT_139 : decode cX11_isT 139 = .ok (.ifCond .ne 5, 3) := by decide +kernel
theorem dX11_isT_142 : decode cX11_isT 142 = .ok (.iconst 0, 1) := by decide +kernel
theorem dX11_isT_143 : decode cX11_isT 143 = .ok (.ireturn, 1) := by decide +kernel
theorem dX11_isT_144 : decode cX11_isT 144 = .ok (.aload_n 0, 1) := by decide +kernel
theorem dX11_isT_145 : decode cX11_isT 145 = .ok (.dup, 1) := by decide +kernel
theorem dX11_isT_146 : decode cX11_isT 146 = .ok (.getfield 153, 3) := by decide +kernel
theorem dX11_isT_149 : decode cX11_isT 149 = .ok (.iconst 1, 1) := by decide +kernel
theorem dX11_isT_150 : decode cX11_isT 150 = .ok (.iadd, 1) := by decide +kernel
theorem dX11_isT_151 : decode cX11_isT 151 = .ok (.putfield 153, 3) := by decide +kernel
theorem dX11_isT_154 : decode cX11_isT 154 = .ok (.aload_n 0, 1) := by decide +kernel
theorem dX11_isT_155 : decode cX11_isT 155 = .ok (.aload_n 0, 1) := by decide +kernel
theorem dX11_isT_156 : decode cX11_isT 156 = .ok (.iload_n 1, 1) := by decide +kernel
theorem dX11_isT_157 : decode cX11_isT 157 = .ok (.iload_n 2, 1) := by decide +kernel
theorem dX11_isT_158 : decode cX11_isT 158 = .ok (.invokevirtual 128, 3) := by decide +kernel
theorem dX11_isT_161 : decode cX11_isT 161 = .ok (.invokevirtual 156, 3) := by decide +kernel
theorem dX11_isT_164 : decode cX11_isT 164 = .ok (.istore_n 3, 1) := by decide +kernel
theorem dX11_isT_165 : decode cX11_isT 165 = .ok (.goto 47, 3) := by decide +kernel
theorem dX11_isT_168 : decode cX11_isT 168 = .ok (.aload_n 0, 1) := by decide +kernel
theorem dX11_isT_169 : decode cX11_isT 169 = .ok (.bipush 40, 2) := by decide +kernel
theorem dX11_isT_171 : decode cX11_isT 171 = .ok (.invokevirtual 150, 3) := by decide +kernel
theorem dX11_isT_174 : decode cX11_isT 174 = .ok (.ifCond .ne 5, 3) := by decide +kernel
theorem dX11_isT_177 : decode cX11_isT 177 = .ok (.iconst 0, 1) := by decide +kernel
theorem dX11_isT_178 : decode cX11_isT 178 = .ok (.ireturn, 1) := by decide +kernel
theorem dX11_isT_179 : decode cX11_isT 179 = .ok (.aload_n 0, 1) := by decide +kernel
theorem dX11_isT_180 : decode cX11_isT 180 = .ok (.dup, 1) := by decide +kernel
theorem dX11_isT_181 : decode cX11_isT 181 = .ok (.getfield 153, 3) := by decide +kernel
theorem dX11_isT_184 : decode cX11_isT 184 = .ok (.iconst 1, 1) := by decide +kernel
theorem dX11_isT_185 : decode cX11_isT 185 = .ok (.iadd, 1) := by decide +kernel
theorem dX11_isT_186 : decode cX11_isT 186 = .ok (.putfield 153, 3) := by decide +kernel
theorem dX11_isT_189 : decode cX11_isT 189 = .ok (.aload_n 0, 1) := by decide +kernel
theorem dX11_isT_190 : decode cX11_isT 190 = .ok (.iload_n 1, 1) := by decide +kernel
theorem dX11_isT_191 : decode cX11_isT 191 = .ok (.invokevirtual 159, 3) := by decide +kernel
theorem dX11_isT_194 : decode cX11_isT 194 = .ok (.ifCond .eq 16, 3) := by decide +kernel
theorem dX11_isT_197 : decode cX11_isT 197 = .ok (.aload_n 0, 1) := by decide +kernel
theorem dX11_isT_198 : decode cX11_isT 198 = .ok (.bipush 41, 2) := by decide +kernel
theorem dX11_isT_200 : decode cX11_isT 200 = .ok (.invokevirtual 150, 3) := by decide +kernel
theorem dX11_isT_203 : decode cX11_isT 203 = .ok (.ifCond .eq 7, 3) := by decide +kernel
theorem dX11_isT_206 : decode cX11_isT 206 = .ok (.iconst 1, 1) := by decide +kernel
theorem dX11_isT_207 : decode cX11_isT 207 = .ok (.goto 4, 3) := by decide +kernel
theorem dX11_isT_210 : decode cX11_isT 210 = .ok (.iconst 0, 1) := by decide +kernel
theorem dX11_isT_211 : decode cX11_isT 211 = .ok (.istore_n 3, 1) := by decide +kernel
theorem dX11_isT_212 : decode cX11_isT 212 = .ok (.aload_n 0, 1) := by decide +kernel
theorem dX11_isT_213 : decode cX11_isT 213 = .ok (.dup, 1) := by decide +kernel
theorem dX11_isT_214 : decode cX11_isT 214 = .ok (.getfield 153, 3) := by decide +kernel
theorem dX11_isT_217 : decode cX11_isT 217 = .ok (.iconst 1, 1) := by decide +kernel
theorem dX11_isT_218 : decode cX11_isT 218 = .ok (.isub, 1) := by decide +kernel
theorem dX11_isT_219 : decode cX11_isT 219 = .ok (.putfield 153, 3) := by decide +kernel
theorem dX11_isT_222 : decode cX11_isT 222 = .ok (.iload_n 3, 1) := by decide +kernel
theorem dX11_isT_223 : decode cX11_isT 223 = .ok (.ireturn, 1) := by decide +kernel
theorem dX11_isE_0 : decode cX11_isE 0 = .ok (.aload_n 0, 1) := by decide +kernel
theorem dX11_isE_1 : decode cX11_isE 1 = .ok (.iload_n 1, 1) := by decide +kernel
theorem dX11_isE_2 : decode cX11_isE 2 = .ok (.invokevirtual 156, 3) := by decide +kernel
theorem dX11_isE_5 : decode cX11_isE 5 = .ok (.istore_n 2, 1) := by decide +kernel
theorem dX11_isE_6 : decode cX11_isE 6 = .ok (.iload_n 2, 1) := by decide +kernel
theorem dX11_isE_7 : decode cX11_isE 7 = .ok (.ifCond .eq 21, 3) := by decide +kernel
theorem dX11_isE_10 : decode cX11_isE 10 = .ok (.aload_n 0, 1) := by decide +kernel
theorem dX11_isE_11 : decode cX11_isE 11 = .ok (.bipush 43, 2) := by decide +kernel
theorem dX11_isE_13 : decode cX11_isE 13 = .ok (.invokevirtual 150, 3) := by decide +kernel
theorem dX11_isE_16 : decode cX11_isE 16 = .ok (.ifCond .eq 12, 3) := by decide +kernel
theorem dX11_isE_19 : decode cX11_isE 19 = .ok (.aload_n 0, 1) := by decide +kernel
theorem dX11_isE_20 : decode cX11_isE 20 = .ok (.iload_n 1, 1) := by decide +kernel
theorem dX11_isE_21 : decode cX11_isE 21 = .ok (.invokevirtual 156, 3) := by decide +kernel
theorem dX11_isE_24 : decode cX11_isE 24 = .ok (.istore_n 2, 1) := by decide +kernel
theorem dX11_isE_25 : decode cX11_isE 25 = .ok (.goto (-19), 3) := by decide +kernel
theorem dX11_isE_28 : decode cX11_isE 28 = .ok (.iload_n 2, 1) := by decide +kernel
theorem dX11_isE_29 : decode cX11_isE 29 = .ok (.ireturn, 1) := by decide +kernel
theorem dX11_isLost_0 : decode cX11_isLost 0 = .ok (.iconst 0, 1) := by decide +kernel
theorem dX11_isLost_1 : decode cX11_isLost 1 = .ok (.istore_n 1, 1) := by decide +kernel
theorem dX11_isLost_2 : decode cX11_isLost 2 = .ok (.iload_n 1, 1) := by decide +kernel
theorem dX11_isLost_3 : decode cX11_isLost 3 = .ok (.aload_n 0, 1) := by decide +kernel
theorem dX11_isLost_4 : decode cX11_isLost 4 = .ok (.getfield 134, 3) := by decide +kernel
theorem dX11_isLost_7 : decode cX11_isLost 7 = .ok (.if_icmp .ge 35, 3) := by decide +kernel
theorem dX11_isLost_10 : decode cX11_isLost 10 = .ok (.aload_n 0, 1) := by decide +kernel
theorem dX11_isLost_11 : decode cX11_isLost 11 = .ok (.getfield 51, 3) := by decide +kernel
theorem dX11_isLost_14 : decode cX11_isLost 14 = .ok (.iload_n 1, 1) := by decide +kernel
theorem dX11_isLost_15 : decode cX11_isLost 15 = .ok (.iaload, 1) := by decide +kernel
theorem dX11_isLost_16 : decode cX11_isLost 16 = .ok (.ifCond .eq 20, 3) := by decide +kernel
theorem dX11_isLost_19 : decode cX11_isLost 19 = .ok (.aload_n 0, 1) := by decide +kernel
theorem dX11_isLost_20 : decode cX11_isLost 20 = .ok (.getfield 33, 3) := by decide +kernel
theorem dX11_isLost_23 : decode cX11_isLost 23 = .ok (.aload_n 0, 1) := by decide +kernel
theorem dX11_isLost_24 : decode cX11_isLost 24 = .ok (.getfield 45, 3) := by decide +kernel
theorem dX11_isLost_27 : decode cX11_isLost 27 = .ok (.iload_n 1, 1) := by decide +kernel
theorem dX11_isLost_28 : decode cX11_isLost 28 = .ok (.iaload, 1) := by decide +kernel
theorem dX11_isLost_29 : decode cX11_isLost 29 = .ok (.iaload, 1) := by decide +kernel
theorem dX11_isLost_30 : decode cX11_isLost 30 = .ok (.iconst 1, 1) := by decide +kernel
theorem dX11_isLost_31 : decode cX11_isLost 31 = .ok (.if_icmp .ne 5, 3) := by decide +kernel
theorem dX11_isLost_34 : decode cX11_isLost 34 = .ok (.iconst 1, 1) := by decide +kernel
theorem dX11_isLost_35 : decode cX11_isLost 35 = .ok (.ireturn, 1) := by decide +kernel
theorem dX11_isLost_36 : decode cX11_isLost 36 = .ok (.iinc 1 1, 3) := by decide +kernel
theorem dX11_isLost_39 : decode cX11_isLost 39 = .ok (.goto (-37), 3) := by decide +kernel
theorem dX11_isLost_42 : decode cX11_isLost 42 = .ok (.iconst 0, 1) := by decide +kernel
theorem dX11_isLost_43 : decode cX11_isLost 43 = .ok (.ireturn, 1) := by decide +kernel
theorem dX11_parity_0 : decode cX11_parity 0 = .ok (.iload_n 1, 1) := by decide +kernel
theorem dX11_parity_1 : decode cX11_parity 1 = .ok (.iconst 0, 1) := by decide +kernel
theorem dX11_parity_2 : decode cX11_parity 2 = .ok (.bipush 6, 2) := by decide +kernel
theorem dX11_parity_4 : decode cX11_parity 4 = .ok (.invokestatic 99, 3) := by decide +kernel
theorem dX11_parity_7 : decode cX11_parity 7 = .ok (.ifCond .ne 5, 3) := by decide +kernel
theorem dX11_parity_10 : decode cX11_parity 10 = .ok (.iconst (-1), 1) := by decide +kernel
theorem dX11_parity_11 : decode cX11_parity 11 = .ok (.ireturn, 1) := by decide +kernel
theorem dX11_parity_12 : decode cX11_parity 12 = .ok (.iload_n 2, 1) := by decide +kernel
theorem dX11_parity_13 : decode cX11_parity 13 = .ok (.iconst 0, 1) := by decide +kernel
theorem dX11_parity_14 : decode cX11_parity 14 = .ok (.bipush 9, 2) := by decide +kernel
theorem dX11_parity_16 : decode cX11_parity 16 = .ok (.invokestatic 99, 3) := by decide +kernel
theorem dX11_parity_19 : decode cX11_parity 19 = .ok (.ifCond .ne 6, 3) := by decide +kernel
theorem dX11_parity_22 : decode cX11_parity 22 = .ok (.bipush (-2), 2) := by decide +kernel
theorem dX11_parity_24 : decode cX11_parity 24 = .ok (.ireturn, 1) := by decide +kernel
theorem dX11_parity_25 : decode cX11_parity 25 = .ok (.aload_n 0, 1) := by decide +kernel
theorem dX11_parity_26 : decode cX11_parity 26 = .ok (.getfield 162, 3) := by decide +kernel
theorem dX11_parity_29 : decode cX11_parity 29 = .ok (.iconst 5, 1) := by decide +kernel
theorem dX11_parity_30 : decode cX11_parity 30 = .ok (.if_icmp .ne 6, 3) := by decide +kernel
theorem dX11_parity_33 : decode cX11_parity 33 = .ok (.bipush (-4), 2) := by decide +kernel
theorem dX11_parity_35 : decode cX11_parity 35 = .ok (.ireturn, 1) := by decide +kernel
theorem dX11_parity_36 : decode cX11_parity 36 = .ok (.aload_n 0, 1) := by decide +kernel
theorem dX11_parity_37 : decode cX11_parity 37 = .ok (.iconst 0, 1) := by decide +kernel
theorem dX11_parity_38 : decode cX11_parity 38 = .ok (.putfield 143, 3) := by decide +kernel
theorem dX11_parity_41 : decode cX11_parity 41 = .ok (.aload_n 0, 1) := by decide +kernel
theorem dX11_parity_42 : decode cX11_parity 42 = .ok (.iconst 0, 1) := by decide +kernel
theorem dX11_parity_43 : decode cX11_parity 43 = .ok (.putfield 153, 3) := by decide +kernel
theorem dX11_parity_46 : decode cX11_parity 46 = .ok (.iconst 0, 1) := by decide +kernel
theorem dX11_parity_47 : decode cX11_parity 47 = .ok (.istore_n 3, 1) := by decide +kernel
theorem dX11_parity_48 : decode cX11_parity 48 = .ok (.iload_n 3, 1) := by decide +kernel
theorem dX11_parity_49 : decode cX11_parity 49 = .ok (.iconst 5, 1) := by decide +kernel
theorem dX11_parity_50 : decode cX11_parity 50 = .ok (.if_icmp .ge 16, 3) := by decide +kernel
theorem dX11_parity_53 : decode cX11_parity 53 = .ok (.aload_n 0, 1) := by decide +kernel
theorem dX11_parity_54 : decode cX11_parity 54 = .ok (.getfield 51, 3) := by decide +kernel
theorem dX11_parity_57 : decode cX11_parity 57 = .ok (.iload_n 3, 1) := by decide +kernel
theorem dX11_parity_58 : decode cX11_parity 58 = .ok (.iconst 0, 1) := by decide +kernel
theorem dX11_parity_59 : decode cX11_parity 59 = .ok (.iastore, 1) := by decide +kernel
theorem dX11_parity_60 : decode cX11_parity 60 = .ok (.iinc 3 1, 3) := by decide +kernel
theorem dX11_parity_63 : decode cX11_parity 63 = .ok (.goto (-15), 3) := by decide +kernel
theorem dX11_parity_66 : decode cX11_parity 66 = .ok (.aload_n 0, 1) := by decide +kernel
theorem dX11_parity_67 : decode cX11_parity 67 = .ok (.iconst 1, 1) := by decide +kernel
theorem dX11_parity_68 : decode cX11_parity 68 = .ok (.invokevirtual 159, 3) := by decide +kernel
theorem dX11_parity_71 : decode cX11_parity 71 = .ok (.ifCond .eq 18, 3) := by decide +kernel
theorem dX11_parity_74 : decode cX11_parity 74 = .ok (.aload_n 0, 1) := by decide +kernel
theorem dX11_parity_75 : decode cX11_parity 75 = .ok (.getfield 143, 3) := by decide +kernel
theorem dX11_parity_78 : decode cX11_parity 78 = .ok (.aload_n 0, 1) := by decide +kernel
theorem dX11_parity_79 : decode cX11_parity 79 = .ok (.getfield 140, 3) := by decide +kernel
theorem dX11_parity_82 : decode cX11_parity 82 = .ok (.if_icmp .ne 7, 3) := by decide +kernel
theorem dX11_parity_85 : decode cX11_parity 85 = .ok (.iconst 1, 1) := by decide +kernel
theorem dX11_parity_86 : decode cX11_parity 86 = .ok (.goto 4, 3) := by decide +kernel
theorem dX11_parity_89 : decode cX11_parity 89 = .ok (.iconst 0, 1) := by decide +kernel
theorem dX11_parity_90 : decode cX11_parity 90 = .ok (.istore_n 3, 1) := by decide +kernel
theorem dX11_parity_91 : decode cX11_parity 91 = .ok (.aload_n 0, 1) := by decide +kernel
theorem dX11_parity_92 : decode cX11_parity 92 = .ok (.iconst 0, 1) := by decide +kernel
theorem dX11_parity_93 : decode cX11_parity 93 = .ok (.putfield 140, 3) := by decide +kernel
theorem dX11_parity_96 : decode cX11_parity 96 = .ok (.iload_n 3, 1) := by decide +kernel
theorem dX11_parity_97 : decode cX11_parity 97 = .ok (.ifCond .ne 11, 3) := by decide +kernel
theorem dX11_parity_100 : decode cX11_parity 100 = .ok (.bipush (-10), 2) := by decide +kernel
theorem dX11_parity_102 : decode cX11_parity 102 = .ok (.aload_n 0, 1) := by decide +kernel
theorem dX11_parity_103 : decode cX11_parity 103 = .ok (.getfield 143, 3) := by decide +kernel
theorem dX11_parity_106 : decode cX11_parity 106 = .ok (.isub, 1) := by decide +kernel
theorem dX11_parity_107 : decode cX11_parity 107 = .ok (.ireturn, 1) := by decide +kernel
theorem dX11_parity_108 : decode cX11_parity 108 = .ok (.aload_n 0, 1) := by decide +kernel
theorem dX11_parity_109 : decode cX11_parity 109 = .ok (.invokevirtual 165, 3) := by decide +kernel
theorem dX11_parity_112 : decode cX11_parity 112 = .ok (.ifCond .eq 6, 3) := by decide +kernel
theorem dX11_parity_115 : decode cX11_parity 115 = .ok (.bipush (-3), 2) := by decide +kernel
theorem dX11_parity_117 : decode cX11_parity 117 = .ok (.ireturn, 1) := by decide +kernel
theorem dX11_parity_118 : decode cX11_parity 118 = .ok (.aload_n 0, 1) := by decide +kernel
theorem dX11_parity_119 : decode cX11_parity 119 = .ok (.dup, 1) := by decide +kernel
theorem dX11_parity_120 : decode cX11_parity 120 = .ok (.getfield 162, 3) := by decide +kernel
theorem dX11_parity_123 : decode cX11_parity 123 = .ok (.iconst 1, 1) := by decide +kernel
theorem dX11_parity_124 : decode cX11_parity 124 = .ok (.iadd, 1) := by decide +kernel
theorem dX11_parity_125 : decode cX11_parity 125 = .ok (.putfield 162, 3) := by decide +kernel
theorem dX11_parity_128 : decode cX11_parity 128 = .ok (.aload_n 0, 1) := by decide +kernel
theorem dX11_parity_129 : decode cX11_parity 129 = .ok (.iload_n 1, 1) := by decide +kernel
theorem dX11_parity_130 : decode cX11_parity 130 = .ok (.iload_n 2, 1) := by decide +kernel
theorem dX11_parity_131 : decode cX11_parity 131 = .ok (.bipush (-5), 2) := by decide +kernel
theorem dX11_parity_133 : decode cX11_parity 133 = .ok (.invokevirtual 137, 3) := by decide +kernel
theorem dX11_parity_136 : decode cX11_parity 136 = .ok (.istore 4, 2) := by decide +kernel
theorem dX11_parity_138 : decode cX11_parity 138 = .ok (.iconst 0, 1) := by decide +kernel
theorem dX11_parity_139 : decode cX11_parity 139 = .ok (.istore 5, 2) := by decide +kernel
theorem dX11_parity_141 : decode cX11_parity 141 = .ok (.iload 5, 2) := by decide +kernel
theorem dX11_parity_143 : decode cX11_parity 143 = .ok (.iconst 5, 1) := by decide +kernel
theorem dX11_parity_144 : decode cX11_parity 144 = .ok (.if_icmp .ge 28, 3) := by decide +kernel
theorem dX11_parity_147 : decode cX11_parity 147 = .ok (.aload_n 0, 1) := by decide +kernel
theorem dX11_parity_148 : decode cX11_parity 148 = .ok (.getfield 36, 3) := by decide +kernel
theorem dX11_parity_151 : decode cX11_parity 151 = .ok (.iconst 5, 1) := by decide +kernel
theorem dX11_parity_152 : decode cX11_parity 152 = .ok (.iload 4, 2) := by decide +kernel
theorem dX11_parity_154 : decode cX11_parity 154 = .ok (.imul, 1) := by decide +kernel
theorem dX11_parity_155 : decode cX11_parity 155 = .ok (.iload 5, 2) := by decide +kernel
theorem dX11_parity_157 : decode cX11_parity 157 = .ok (.iadd, 1) := by decide +kernel
theorem dX11_parity_158 : decode cX11_parity 158 = .ok (.aload_n 0, 1) := by decide +kernel
theorem dX11_parity_159 : decode cX11_parity 159 = .ok (.getfield 51, 3) := by decide +kernel
theorem dX11_parity_162 : decode cX11_parity 162 = .ok (.iload 5, 2) := by decide +kernel
theorem dX11_parity_164 : decode cX11_parity 164 = .ok (.iaload, 1) := by decide +kernel
theorem dX11_parity_165 : decode cX11_parity 165 = .ok (.iastore, 1) := by decide +kernel
theorem dX11_parity_166 : decode cX11_parity 166 = .ok (.iinc 5 1, 3) := by decide +kernel
theorem dX11_parity_169 : decode cX11_parity 169 = .ok (.goto (-28), 3) := by decide +kernel
theorem dX11_parity_172 : decode cX11_parity 172 = .ok (.iload 4, 2) := by decide +kernel
theorem dX11_parity_174 : decode cX11_parity 174 = .ok (.ireturn, 1) := by decide +kernel
theorem dX11_row_0 : decode cX11_row 0 = .ok (.aload_n 0, 1) := by decide +kernel
theorem dX11_row_1 : decode cX11_row 1 = .ok (.iload_n 1, 1) := by decide +kernel
theorem dX11_row_2 : decode cX11_row 2 = .ok (.invokevirtual 169, 3) := by decide +kernel
theorem dX11_row_5 : decode cX11_row 5 = .ok (.ifCond .eq 12, 3) := by decide +kernel
theorem dX11_row_8 : decode cX11_row 8 = .ok (.iload_n 2, 1) := by decide +kernel
theorem dX11_row_9 : decode cX11_row 9 = .ok (.iconst 0, 1) := by decide +kernel
theorem dX11_row_10 : decode cX11_row 10 = .ok (.iconst 3, 1) := by decide +kernel
theorem dX11_row_11 : decode cX11_row 11 = .ok (.invokestatic 99, 3) := by decide +kernel
theorem dX11_row_14 : decode cX11_row 14 = .ok (.ifCond .ne 5, 3) := by decide +kernel
theorem dX11_row_17 : decode cX11_row 17 = .ok (.iconst (-1), 1) := by decide +kernel
theorem dX11_row_18 : decode cX11_row 18 = .ok (.ireturn, 1) := by decide +kernel
theorem dX11_row_19 : decode cX11_row 19 = .ok (.iload_n 3, 1) := by decide +kernel
theorem dX11_row_20 : decode cX11_row 20 = .ok (.iconst 0, 1) := by decide +kernel
theorem dX11_row_21 : decode cX11_row 21 = .ok (.bipush 9, 2) := by decide +kernel
theorem dX11_row_23 : decode cX11_row 23 = .ok (.invokestatic 99, 3) := by decide +kernel
theorem dX11_row_26 : decode cX11_row 26 = .ok (.ifCond .ne 6, 3) := by decide +kernel
theorem dX11_row_29 : decode cX11_row 29 = .ok (.bipush (-2), 2) := by decide +kernel
theorem dX11_row_31 : decode cX11_row 31 = .ok (.ireturn, 1) := by decide +kernel
theorem dX11_row_32 : decode cX11_row 32 = .ok (.aload_n 0, 1) := by decide +kernel
theorem dX11_row_33 : decode cX11_row 33 = .ok (.getfield 21, 3) := by decide +kernel
theorem dX11_row_36 : decode cX11_row 36 = .ok (.iload_n 1, 1) := by decide +kernel
theorem dX11_row_37 : decode cX11_row 37 = .ok (.iaload, 1) := by decide +kernel
theorem dX11_row_38 : decode cX11_row 38 = .ok (.bipush 6, 2) := by decide +kernel
theorem dX11_row_40 : decode cX11_row 40 = .ok (.if_icmp .eq 6, 3) := by decide +kernel
theorem dX11_row_43 : decode cX11_row 43 = .ok (.bipush (-3), 2) := by decide +kernel
theorem dX11_row_45 : decode cX11_row 45 = .ok (.ireturn, 1) := by decide +kernel
theorem dX11_row_46 : decode cX11_row 46 = .ok (.aload_n 0, 1) := by decide +kernel
theorem dX11_row_47 : decode cX11_row 47 = .ok (.getfield 39, 3) := by decide +kernel
theorem dX11_row_50 : decode cX11_row 50 = .ok (.iconst 4, 1) := by decide +kernel
theorem dX11_row_51 : decode cX11_row 51 = .ok (.iload_n 1, 1) := by decide +kernel
theorem dX11_row_52 : decode cX11_row 52 = .ok (.imul, 1) := by decide +kernel
theorem dX11_row_53 : decode cX11_row 53 = .ok (.iload_n 2, 1) := by decide +kernel
theorem dX11_row_54 : decode cX11_row 54 = .ok (.iadd, 1) := by decide +kernel
theorem dX11_row_55 : decode cX11_row 55 = .ok (.iaload, 1) := by decide +kernel
theorem dX11_row_56 : decode cX11_row 56 = .ok (.istore 4, 2) := by decide +kernel
theorem dX11_row_58 : decode cX11_row 58 = .ok (.aload_n 0, 1) := by decide +kernel
theorem dX11_row_59 : decode cX11_row 59 = .ok (.getfield 39, 3) := by decide +kernel
theorem dX11_row_62 : decode cX11_row 62 = .ok (.iconst 4, 1) := by decide +kernel
theorem dX11_row_63 : decode cX11_row 63 = .ok (.iload_n 1, 1) := by decide +kernel
theorem dX11_row_64 : decode cX11_row 64 = .ok (.imul, 1) := by decide +kernel
theorem dX11_row_65 : decode cX11_row 65 = .ok (.iload_n 2, 1) := by decide +kernel
theorem dX11_row_66 : decode cX11_row 66 = .ok (.iadd, 1) := by decide +kernel
theorem dX11_row_67 : decode cX11_row 67 = .ok (.iload_n 3, 1) := by decide +kernel
theorem dX11_row_68 : decode cX11_row 68 = .ok (.iastore, 1) := by decide +kernel
theorem dX11_row_69 : decode cX11_row 69 = .ok (.iload 4, 2) := by decide +kernel
theorem dX11_row_71 : decode cX11_row 71 = .ok (.ireturn, 1) := by decide +kernel
theorem dX11_cost_0 : decode cX11_cost 0 = .ok (.aload_n 0, 1) := by decide +kernel
theorem dX11_cost_1 : decode cX11_cost 1 = .ok (.getfield 24, 3) := by decide +kernel
theorem dX11_cost_4 : decode cX11_cost 4 = .ok (.iload_n 1, 1) := by decide +kernel
theorem dX11_cost_5 : decode cX11_cost 5 = .ok (.iaload, 1) := by decide +kernel
theorem dX11_cost_6 : decode cX11_cost 6 = .ok (.iconst 1, 1) := by decide +kernel
theorem dX11_cost_7 : decode cX11_cost 7 = .ok (.iadd, 1) := by decide +kernel
theorem dX11_cost_8 : decode cX11_cost 8 = .ok (.istore_n 2, 1) := by decide +kernel
theorem dX11_cost_9 : decode cX11_cost 9 = .ok (.iconst 1, 1) := by decide +kernel
theorem dX11_cost_10 : decode cX11_cost 10 = .ok (.iload_n 2, 1) := by decide +kernel
theorem dX11_cost_11 : decode cX11_cost 11 = .ok (.iconst 2, 1) := by decide +kernel
theorem dX11_cost_12 : decode cX11_cost 12 = .ok (.idiv, 1) := by decide +kernel
theorem dX11_cost_13 : decode cX11_cost 13 = .ok (.invokestatic 172, 3) := by decide +kernel
theorem dX11_cost_16 : decode cX11_cost 16 = .ok (.istore_n 3, 1) := by decide +kernel
theorem dX11_cost_17 : decode cX11_cost 17 = .ok (.iload_n 2, 1) := by decide +kernel
theorem dX11_cost_18 : decode cX11_cost 18 = .ok (.bipush 9, 2) := by decide +kernel
theorem dX11_cost_20 : decode cX11_cost 20 = .ok (.aload_n 0, 1) := by decide +kernel
theorem dX11_cost_21 : decode cX11_cost 21 = .ok (.getfield 30, 3) := by decide +kernel
theorem dX11_cost_24 : decode cX11_cost 24 = .ok (.iload_n 1, 1) := by decide +kernel
theorem dX11_cost_25 : decode cX11_cost 25 = .ok (.iaload, 1) := by decide +kernel
theorem dX11_cost_26 : decode cX11_cost 26 = .ok (.invokestatic 177, 3) := by decide +kernel
theorem dX11_cost_29 : decode cX11_cost 29 = .ok (.iadd, 1) := by decide +kernel
theorem dX11_cost_30 : decode cX11_cost 30 = .ok (.istore 4, 2) := by decide +kernel
theorem dX11_cost_32 : decode cX11_cost 32 = .ok (.aload_n 0, 1) := by decide +kernel
theorem dX11_cost_33 : decode cX11_cost 33 = .ok (.getfield 21, 3) := by decide +kernel
theorem dX11_cost_36 : decode cX11_cost 36 = .ok (.iload_n 1, 1) := by decide +kernel
theorem dX11_cost_37 : decode cX11_cost 37 = .ok (.iaload, 1) := by decide +kernel
theorem dX11_cost_38 : decode cX11_cost 38 = .ok (.tableswitch 107 1 6 #[38, 40, 44, 47, 65, 86], 38) := by decide +kernel
theorem dX11_cost_76 : decode cX11_cost 76 = .ok (.iload_n 3, 1) := by decide +kernel
theorem dX11_cost_77 : decode cX11_cost 77 = .ok (.ireturn, 1) := by decide +kernel
theorem dX11_cost_78 : decode cX11_cost 78 = .ok (.iconst 2, 1) := by decide +kernel
theorem dX11_cost_79 : decode cX11_cost 79 = .ok (.iload_n 2, 1) := by decide +kernel
theorem dX11_cost_80 : decode cX11_cost 80 = .ok (.imul, 1) := by decide +kernel
theorem dX11_cost_81 : decode cX11_cost 81 = .ok (.ireturn, 1) := by decide +kernel
theorem dX11_cost_82 : decode cX11_cost 82 = .ok (.iload 4, 2) := by decide +kernel
theorem dX11_cost_84 : decode cX11_cost 84 = .ok (.ireturn, 1) := by decide +kernel
theorem dX11_cost_85 : decode cX11_cost 85 = .ok (.aload_n 0, 1) := by decide +kernel
theorem dX11_cost_86 : decode cX11_cost 86 = .ok (.getfield 30, 3) := by decide +kernel
theorem dX11_cost_89 : decode cX11_cost 89 = .ok (.iload_n 1, 1) := by decide +kernel
theorem dX11_cost_90 : decode cX11_cost 90 = .ok (.iaload, 1) := by decide +kernel
theorem dX11_cost_91 : decode cX11_cost 91 = .ok (.iconst 2, 1) := by decide +kernel
theorem dX11_cost_92 : decode cX11_cost 92 = .ok (.irem, 1) := by decide +kernel
theorem dX11_cost_93 : decode cX11_cost 93 = .ok (.iconst 1, 1) := by decide +kernel
theorem dX11_cost_94 : decode cX11_cost 94 = .ok (.if_icmp .ne 7, 3) := by decide +kernel
theorem dX11_cost_97 : decode cX11_cost 97 = .ok (.iconst 1, 1) := by decide +kernel
theorem dX11_cost_98 : decode cX11_cost 98 = .ok (.goto 4, 3) := by decide +kernel
theorem dX11_cost_101 : decode cX11_cost 101 = .ok (.iload_n 3, 1) := by decide +kernel
theorem dX11_cost_102 : decode cX11_cost 102 = .ok (.ireturn, 1) := by decide +kernel
theorem dX11_cost_103 : decode cX11_cost 103 = .ok (.iconst 2, 1) := by decide +kernel
theorem dX11_cost_104 : decode cX11_cost 104 = .ok (.iload_n 2, 1) := by decide +kernel
theorem dX11_cost_105 : decode cX11_cost 105 = .ok (.imul, 1) := by decide +kernel
theorem dX11_cost_106 : decode cX11_cost 106 = .ok (.aload_n 0, 1) := by decide +kernel
theorem dX11_cost_107 : decode cX11_cost 107 = .ok (.getfield 27, 3) := by decide +kernel
theorem dX11_cost_110 : decode cX11_cost 110 = .ok (.iload_n 1, 1) := by decide +kernel
theorem dX11_cost_111 : decode cX11_cost 111 = .ok (.iaload, 1) := by decide +kernel
theorem dX11_cost_112 : decode cX11_cost 112 = .ok (.bipush (-5), 2) := by decide +kernel
theorem dX11_cost_114 : decode cX11_cost 114 = .ok (.if_icmp .ne 7, 3) := by decide +kernel
theorem dX11_cost_117 : decode cX11_cost 117 = .ok (.iconst 5, 1) := by decide +kernel
theorem dX11_cost_118 : decode cX11_cost 118 = .ok (.goto 4, 3) := by decide +kernel
theorem dX11_cost_121 : decode cX11_cost 121 = .ok (.iconst 0, 1) := by decide +kernel
theorem dX11_cost_122 : decode cX11_cost 122 = .ok (.iadd, 1) := by decide +kernel
theorem dX11_cost_123 : decode cX11_cost 123 = .ok (.ireturn, 1) := by decide +kernel
theorem dX11_cost_124 : decode cX11_cost 124 = .ok (.iload 4, 2) := by decide +kernel
theorem dX11_cost_126 : decode cX11_cost 126 = .ok (.aload_n 0, 1) := by decide +kernel
theorem dX11_cost_127 : decode cX11_cost 127 = .ok (.getfield 39, 3) := by decide +kernel
theorem dX11_cost_130 : decode cX11_cost 130 = .ok (.iconst 4, 1) := by decide +kernel
theorem dX11_cost_131 : decode cX11_cost 131 = .ok (.iload_n 1, 1) := by decide +kernel
theorem dX11_cost_132 : decode cX11_cost 132 = .ok (.imul, 1) := by decide +kernel
theorem dX11_cost_133 : decode cX11_cost 133 = .ok (.aload_n 0, 1) := by decide +kernel
theorem dX11_cost_134 : decode cX11_cost 134 = .ok (.getfield 30, 3) := by decide +kernel
theorem dX11_cost_137 : decode cX11_cost 137 = .ok (.iload_n 1, 1) := by decide +kernel
theorem dX11_cost_138 : decode cX11_cost 138 = .ok (.iaload, 1) := by decide +kernel
theorem dX11_cost_139 : decode cX11_cost 139 = .ok (.iconst 4, 1) := by decide +kernel
theorem dX11_cost_140 : decode cX11_cost 140 = .ok (.irem, 1) := by decide +kernel
theorem dX11_cost_141 : decode cX11_cost 141 = .ok (.iadd, 1) := by decide +kernel
theorem dX11_cost_142 : decode cX11_cost 142 = .ok (.iaload, 1) := by decide +kernel
theorem dX11_cost_143 : decode cX11_cost 143 = .ok (.iadd, 1) := by decide +kernel
theorem dX11_cost_144 : decode cX11_cost 144 = .ok (.ireturn, 1) := by decide +kernel
theorem dX11_cost_145 : decode cX11_cost 145 = .ok (.iload_n 2, 1) := by decide +kernel
theorem dX11_cost_146 : decode cX11_cost 146 = .ok (.ireturn, 1) := by decide +kernel
theorem dX11_symbol_0 : decode cX11_symbol 0 = .ok (.iconst 0, 1) := by decide +kernel
theorem dX11_symbol_1 : decode cX11_symbol 1 = .ok (.istore_n 2, 1) := by decide +kernel
theorem dX11_symbol_2 : decode cX11_symbol 2 = .ok (.iconst 0, 1) := by decide +kernel
theorem dX11_symbol_3 : decode cX11_symbol 3 = .ok (.istore_n 3, 1) := by decide +kernel
theorem dX11_symbol_4 : decode cX11_symbol 4 = .ok (.iload_n 3, 1) := by decide +kernel
theorem dX11_symbol_5 : decode cX11_symbol 5 = .ok (.aload_n 0, 1) := by decide +kernel
theorem dX11_symbol_6 : decode cX11_symbol 6 = .ok (.getfield 134, 3) := by decide +kernel
theorem dX11_symbol_9 : decode cX11_symbol 9 = .ok (.if_icmp .ge 32, 3) := by decide +kernel
theorem dX11_symbol_12 : decode cX11_symbol 12 = .ok (.iload_n 2, 1) := by decide +kernel
theorem dX11_symbol_13 : decode cX11_symbol 13 = .ok (.aload_n 0, 1) := by decide +kernel
theorem dX11_symbol_14 : decode cX11_symbol 14 = .ok (.aload_n 0, 1) := by decide +kernel
theorem dX11_symbol_15 : decode cX11_symbol 15 = .ok (.getfield 36, 3) := by decide +kernel
theorem dX11_symbol_18 : decode cX11_symbol 18 = .ok (.iconst 5, 1) := by decide +kernel
theorem dX11_symbol_19 : decode cX11_symbol 19 = .ok (.iload_n 1, 1) := by decide +kernel
theorem dX11_symbol_20 : decode cX11_symbol 20 = .ok (.imul, 1) := by decide +kernel
theorem dX11_symbol_21 : decode cX11_symbol 21 = .ok (.iload_n 3, 1) := by decide +kernel
theorem dX11_symbol_22 : decode cX11_symbol 22 = .ok (.iadd, 1) := by decide +kernel
theorem dX11_symbol_23 : decode cX11_symbol 23 = .ok (.iaload, 1) := by decide +kernel
theorem dX11_symbol_24 : decode cX11_symbol 24 = .ok (.aload_n 0, 1) := by decide +kernel
theorem dX11_symbol_25 : decode cX11_symbol 25 = .ok (.getfield 42, 3) := by decide +kernel
theorem dX11_symbol_28 : decode cX11_symbol 28 = .ok (.iload_n 3, 1) := by decide +kernel
theorem dX11_symbol_29 : decode cX11_symbol 29 = .ok (.iaload, 1) := by decide +kernel
theorem dX11_symbol_30 : decode cX11_symbol 30 = .ok (.invokevirtual 128, 3) := by decide +kernel
theorem dX11_symbol_33 : decode cX11_symbol 33 = .ok (.ixor, 1) := by decide +kernel
theorem dX11_symbol_34 : decode cX11_symbol 34 = .ok (.istore_n 2, 1) := by decide +kernel
theorem dX11_symbol_35 : decode cX11_symbol 35 = .ok (.iinc 3 1, 3) := by decide +kernel
theorem dX11_symbol_38 : decode cX11_symbol 38 = .ok (.goto (-34), 3) := by decide +kernel
theorem dX11_symbol_41 : decode cX11_symbol 41 = .ok (.iload_n 2, 1) := by decide +kernel
theorem dX11_symbol_42 : decode cX11_symbol 42 = .ok (.ireturn, 1) := by decide +kernel
theorem dX11_of_0 : decode cX11_of 0 = .ok (.aload_n 0, 1) := by decide +kernel
theorem dX11_of_1 : decode cX11_of 1 = .ok (.iload_n 1, 1) := by decide +kernel
theorem dX11_of_2 : decode cX11_of 2 = .ok (.invokevirtual 169, 3) := by decide +kernel
theorem dX11_of_5 : decode cX11_of 5 = .ok (.ifCond .ne 5, 3) := by decide +kernel
theorem dX11_of_8 : decode cX11_of 8 = .ok (.iconst (-1), 1) := by decide +kernel
theorem dX11_of_9 : decode cX11_of 9 = .ok (.ireturn, 1) := by decide +kernel
theorem dX11_of_10 : decode cX11_of 10 = .ok (.iload_n 2, 1) := by decide +kernel
theorem dX11_of_11 : decode cX11_of 11 = .ok (.bipush 10, 2) := by decide +kernel
theorem dX11_of_13 : decode cX11_of 13 = .ok (.bipush 14, 2) := by decide +kernel
theorem dX11_of_15 : decode cX11_of 15 = .ok (.invokestatic 99, 3) := by decide +kernel
theorem dX11_of_18 : decode cX11_of 18 = .ok (.ifCond .eq 17, 3) := by decide +kernel
theorem dX11_of_21 : decode cX11_of 21 = .ok (.aload_n 0, 1) := by decide +kernel
theorem dX11_of_22 : decode cX11_of 22 = .ok (.getfield 36, 3) := by decide +kernel
theorem dX11_of_25 : decode cX11_of 25 = .ok (.iconst 5, 1) := by decide +kernel
theorem dX11_of_26 : decode cX11_of 26 = .ok (.iload_n 1, 1) := by decide +kernel
theorem dX11_of_27 : decode cX11_of 27 = .ok (.imul, 1) := by decide +kernel
theorem dX11_of_28 : decode cX11_of 28 = .ok (.iload_n 2, 1) := by decide +kernel
theorem dX11_of_29 : decode cX11_of 29 = .ok (.iadd, 1) := by decide +kernel
theorem dX11_of_30 : decode cX11_of 30 = .ok (.bipush 10, 2) := by decide +kernel
theorem dX11_of_32 : decode cX11_of 32 = .ok (.isub, 1) := by decide +kernel
theorem dX11_of_33 : decode cX11_of 33 = .ok (.iaload, 1) := by decide +kernel
theorem dX11_of_34 : decode cX11_of 34 = .ok (.ireturn, 1) := by decide +kernel
theorem dX11_of_35 : decode cX11_of 35 = .ok (.iload_n 2, 1) := by decide +kernel
theorem dX11_of_36 : decode cX11_of 36 = .ok (.bipush 6, 2) := by decide +kernel
theorem dX11_of_38 : decode cX11_of 38 = .ok (.bipush 7, 2) := by decide +kernel
theorem dX11_of_40 : decode cX11_of 40 = .ok (.invokestatic 99, 3) := by decide +kernel
theorem dX11_of_43 : decode cX11_of 43 = .ok (.ifCond .eq 8, 3) := by decide +kernel
theorem dX11_of_46 : decode cX11_of 46 = .ok (.aload_n 0, 1) := by decide +kernel
theorem dX11_of_47 : decode cX11_of 47 = .ok (.iload_n 1, 1) := by decide +kernel
theorem dX11_of_48 : decode cX11_of 48 = .ok (.invokevirtual 180, 3) := by decide +kernel
theorem dX11_of_51 : decode cX11_of 51 = .ok (.iload_n 2, 1) := by decide +kernel
theorem dX11_of_52 : decode cX11_of 52 = .ok (.tableswitch 123 0 8 #[52, 59, 66, 73, 80, 86, 107, 112, 117], 52) := by decide +kernel
theorem dX11_of_104 : decode cX11_of 104 = .ok (.aload_n 0, 1) := by decide +kernel
theorem dX11_of_105 : decode cX11_of 105 = .ok (.getfield 21, 3) := by decide +kernel
theorem dX11_of_108 : decode cX11_of 108 = .ok (.iload_n 1, 1) := by decide +kernel
theorem dX11_of_109 : decode cX11_of 109 = .ok (.iaload, 1) := by decide +kernel
theorem dX11_of_110 : decode cX11_of 110 = .ok (.ireturn, 1) := by decide +kernel
theorem dX11_of_111 : decode cX11_of 111 = .ok (.aload_n 0, 1) := by decide +kernel
theorem dX11_of_112 : decode cX11_of 112 = .ok (.getfield 24, 3) := by decide +kernel
theorem dX11_of_115 : decode cX11_of 115 = .ok (.iload_n 1, 1) := by decide +kernel
theorem dX11_of_116 : decode cX11_of 116 = .ok (.iaload, 1) := by decide +kernel
theorem dX11_of_117 : decode cX11_of 117 = .ok (.ireturn, 1) := by decide +kernel
theorem dX11_of_118 : decode cX11_of 118 = .ok (.aload_n 0, 1) := by decide +kernel
theorem dX11_of_119 : decode cX11_of 119 = .ok (.getfield 27, 3) := by decide +kernel
theorem dX11_of_122 : decode cX11_of 122 = .ok (.iload_n 1, 1) := by decide +kernel
theorem dX11_of_123 : decode cX11_of 123 = .ok (.iaload, 1) := by decide +kernel
theorem dX11_of_124 : decode cX11_of 124 = .ok (.ireturn, 1) := by decide +kernel
theorem dX11_of_125 : decode cX11_of 125 = .ok (.aload_n 0, 1) := by decide +kernel
theorem dX11_of_126 : decode cX11_of 126 = .ok (.getfield 30, 3) := by decide +kernel
theorem dX11_of_129 : decode cX11_of 129 = .ok (.iload_n 1, 1) := by decide +kernel
theorem dX11_of_130 : decode cX11_of 130 = .ok (.iaload, 1) := by decide +kernel
theorem dX11_of_131 : decode cX11_of 131 = .ok (.ireturn, 1) := by decide +kernel
theorem dX11_of_132 : decode cX11_of 132 = .ok (.aload_n 0, 1) := by decide +kernel
theorem dX11_of_133 : decode cX11_of 133 = .ok (.iload_n 1, 1) := by decide +kernel
theorem dX11_of_134 : decode cX11_of 134 = .ok (.invokevirtual 183, 3) := by decide +kernel
theorem dX11_of_137 : decode cX11_of 137 = .ok (.ireturn, 1) := by decide +kernel
theorem dX11_of_138 : decode cX11_of 138 = .ok (.aload_n 0, 1) := by decide +kernel
theorem dX11_of_139 : decode cX11_of 139 = .ok (.getfield 33, 3) := by decide +kernel
theorem dX11_of_142 : decode cX11_of 142 = .ok (.iload_n 1, 1) := by decide +kernel
theorem dX11_of_143 : decode cX11_of 143 = .ok (.iaload, 1) := by decide +kernel
theorem dX11_of_144 : decode cX11_of 144 = .ok (.iconst 1, 1) := by decide +kernel
theorem dX11_of_145 : decode cX11_of 145 = .ok (.if_icmp .ne 8, 3) := by decide +kernel
theorem dX11_of_148 : decode cX11_of 148 = .ok (.bipush (-5), 2) := by decide +kernel
theorem dX11_of_150 : decode cX11_of 150 = .ok (.goto 8, 3) := by decide +kernel
theorem dX11_of_153 : decode cX11_of 153 = .ok (.aload_n 0, 1) := by decide +kernel
theorem dX11_of_154 : decode cX11_of 154 = .ok (.iload_n 1, 1) := by decide +kernel
theorem dX11_of_155 : decode cX11_of 155 = .ok (.invokevirtual 187, 3) := by decide +kernel
theorem dX11_of_158 : decode cX11_of 158 = .ok (.ireturn, 1) := by decide +kernel
theorem dX11_of_159 : decode cX11_of 159 = .ok (.aload_n 0, 1) := by decide +kernel
theorem dX11_of_160 : decode cX11_of 160 = .ok (.getfield 190, 3) := by decide +kernel
theorem dX11_of_163 : decode cX11_of 163 = .ok (.ireturn, 1) := by decide +kernel
theorem dX11_of_164 : decode cX11_of 164 = .ok (.aload_n 0, 1) := by decide +kernel
theorem dX11_of_165 : decode cX11_of 165 = .ok (.getfield 193, 3) := by decide +kernel
theorem dX11_of_168 : decode cX11_of 168 = .ok (.ireturn, 1) := by decide +kernel
theorem dX11_of_169 : decode cX11_of 169 = .ok (.aload_n 0, 1) := by decide +kernel
theorem dX11_of_170 : decode cX11_of 170 = .ok (.iload_n 1, 1) := by decide +kernel
theorem dX11_of_171 : decode cX11_of 171 = .ok (.invokevirtual 196, 3) := by decide +kernel
theorem dX11_of_174 : decode cX11_of 174 = .ok (.ireturn, 1) := by decide +kernel
theorem dX11_of_175 : decode cX11_of 175 = .ok (.iconst (-1), 1) := by decide +kernel
theorem dX11_of_176 : decode cX11_of 176 = .ok (.ireturn, 1) := by decide +kernel
theorem dX11_write_0 : decode cX11_write 0 = .ok (.iload_n 1, 1) := by decide +kernel
theorem dX11_write_1 : decode cX11_write 1 = .ok (.iconst 0, 1) := by decide +kernel
theorem dX11_write_2 : decode cX11_write 2 = .ok (.aload_n 0, 1) := by decide +kernel
theorem dX11_write_3 : decode cX11_write 3 = .ok (.getfield 134, 3) := by decide +kernel
theorem dX11_write_6 : decode cX11_write 6 = .ok (.iconst 1, 1) := by decide +kernel
theorem dX11_write_7 : decode cX11_write 7 = .ok (.isub, 1) := by decide +kernel
theorem dX11_write_8 : decode cX11_write 8 = .ok (.invokestatic 99, 3) := by decide +kernel
theorem dX11_write_11 : decode cX11_write 11 = .ok (.ifCond .ne 5, 3) := by decide +kernel
theorem dX11_write_14 : decode cX11_write 14 = .ok (.iconst (-1), 1) := by decide +kernel
theorem dX11_write_15 : decode cX11_write 15 = .ok (.ireturn, 1) := by decide +kernel
theorem dX11_write_16 : decode cX11_write 16 = .ok (.iload_n 2, 1) := by decide +kernel
theorem dX11_write_17 : decode cX11_write 17 = .ok (.invokestatic 125, 3) := by decide +kernel
theorem dX11_write_20 : decode cX11_write 20 = .ok (.ifCond .ne 6, 3) := by decide +kernel
theorem dX11_write_23 : decode cX11_write 23 = .ok (.bipush (-2), 2) := by decide +kernel
theorem dX11_write_25 : decode cX11_write 25 = .ok (.ireturn, 1) := by decide +kernel
theorem dX11_write_26 : decode cX11_write 26 = .ok (.aload_n 0, 1) := by decide +kernel
theorem dX11_write_27 : decode cX11_write 27 = .ok (.getfield 33, 3) := by decide +kernel
theorem dX11_write_30 : decode cX11_write 30 = .ok (.aload_n 0, 1) := by decide +kernel
theorem dX11_write_31 : decode cX11_write 31 = .ok (.getfield 45, 3) := by decide +kernel
theorem dX11_write_34 : decode cX11_write 34 = .ok (.iload_n 1, 1) := by decide +kernel
theorem dX11_write_35 : decode cX11_write 35 = .ok (.iaload, 1) := by decide +kernel
theorem dX11_write_36 : decode cX11_write 36 = .ok (.iaload, 1) := by decide +kernel
theorem dX11_write_37 : decode cX11_write 37 = .ok (.iconst 1, 1) := by decide +kernel
theorem dX11_write_38 : decode cX11_write 38 = .ok (.if_icmp .ne 6, 3) := by decide +kernel
theorem dX11_write_41 : decode cX11_write 41 = .ok (.bipush (-3), 2) := by decide +kernel
theorem dX11_write_43 : decode cX11_write 43 = .ok (.ireturn, 1) := by decide +kernel
theorem dX11_write_44 : decode cX11_write 44 = .ok (.aload_n 0, 1) := by decide +kernel
theorem dX11_write_45 : decode cX11_write 45 = .ok (.getfield 42, 3) := by decide +kernel
theorem dX11_write_48 : decode cX11_write 48 = .ok (.iload_n 1, 1) := by decide +kernel
theorem dX11_write_49 : decode cX11_write 49 = .ok (.iaload, 1) := by decide +kernel
theorem dX11_write_50 : decode cX11_write 50 = .ok (.istore_n 3, 1) := by decide +kernel
theorem dX11_write_51 : decode cX11_write 51 = .ok (.aload_n 0, 1) := by decide +kernel
theorem dX11_write_52 : decode cX11_write 52 = .ok (.getfield 42, 3) := by decide +kernel
theorem dX11_write_55 : decode cX11_write 55 = .ok (.iload_n 1, 1) := by decide +kernel
theorem dX11_write_56 : decode cX11_write 56 = .ok (.iload_n 2, 1) := by decide +kernel
theorem dX11_write_57 : decode cX11_write 57 = .ok (.iastore, 1) := by decide +kernel
theorem dX11_write_58 : decode cX11_write 58 = .ok (.iload_n 3, 1) := by decide +kernel
theorem dX11_write_59 : decode cX11_write 59 = .ok (.ireturn, 1) := by decide +kernel
theorem dX11_lose_0 : decode cX11_lose 0 = .ok (.aload_n 0, 1) := by decide +kernel
theorem dX11_lose_1 : decode cX11_lose 1 = .ok (.iload_n 1, 1) := by decide +kernel
theorem dX11_lose_2 : decode cX11_lose 2 = .ok (.invokevirtual 169, 3) := by decide +kernel
theorem dX11_lose_5 : decode cX11_lose 5 = .ok (.ifCond .ne 5, 3) := by decide +kernel
theorem dX11_lose_8 : decode cX11_lose 8 = .ok (.iconst (-1), 1) := by decide +kernel
theorem dX11_lose_9 : decode cX11_lose 9 = .ok (.ireturn, 1) := by decide +kernel
theorem dX11_lose_10 : decode cX11_lose 10 = .ok (.aload_n 0, 1) := by decide +kernel
theorem dX11_lose_11 : decode cX11_lose 11 = .ok (.getfield 33, 3) := by decide +kernel
theorem dX11_lose_14 : decode cX11_lose 14 = .ok (.iload_n 1, 1) := by decide +kernel
theorem dX11_lose_15 : decode cX11_lose 15 = .ok (.iaload, 1) := by decide +kernel
theorem dX11_lose_16 : decode cX11_lose 16 = .ok (.iconst 1, 1) := by decide +kernel
theorem dX11_lose_17 : decode cX11_lose 17 = .ok (.if_icmp .ne 6, 3) := by decide +kernel
theorem dX11_lose_20 : decode cX11_lose 20 = .ok (.bipush (-3), 2) := by decide +kernel
theorem dX11_lose_22 : decode cX11_lose 22 = .ok (.ireturn, 1) := by decide +kernel
theorem dX11_lose_23 : decode cX11_lose 23 = .ok (.aload_n 0, 1) := by decide +kernel
theorem dX11_lose_24 : decode cX11_lose 24 = .ok (.getfield 33, 3) := by decide +kernel
theorem dX11_lose_27 : decode cX11_lose 27 = .ok (.iload_n 1, 1) := by decide +kernel
theorem dX11_lose_28 : decode cX11_lose 28 = .ok (.iconst 1, 1) := by decide +kernel
theorem dX11_lose_29 : decode cX11_lose 29 = .ok (.iastore, 1) := by decide +kernel
theorem dX11_lose_30 : decode cX11_lose 30 = .ok (.aload_n 0, 1) := by decide +kernel
theorem dX11_lose_31 : decode cX11_lose 31 = .ok (.iload_n 1, 1) := by decide +kernel
theorem dX11_lose_32 : decode cX11_lose 32 = .ok (.invokevirtual 187, 3) := by decide +kernel
theorem dX11_lose_35 : decode cX11_lose 35 = .ok (.ireturn, 1) := by decide +kernel
theorem dX11_repairs_0 : decode cX11_repairs 0 = .ok (.aload_n 0, 1) := by decide +kernel
theorem dX11_repairs_1 : decode cX11_repairs 1 = .ok (.getfield 33, 3) := by decide +kernel
theorem dX11_repairs_4 : decode cX11_repairs 4 = .ok (.iload_n 1, 1) := by decide +kernel
theorem dX11_repairs_5 : decode cX11_repairs 5 = .ok (.iaload, 1) := by decide +kernel
theorem dX11_repairs_6 : decode cX11_repairs 6 = .ok (.ifCond .ne 5, 3) := by decide +kernel
theorem dX11_repairs_9 : decode cX11_repairs 9 = .ok (.iconst 0, 1) := by decide +kernel
theorem dX11_repairs_10 : decode cX11_repairs 10 = .ok (.ireturn, 1) := by decide +kernel
theorem dX11_repairs_11 : decode cX11_repairs 11 = .ok (.aload_n 0, 1) := by decide +kernel
theorem dX11_repairs_12 : decode cX11_repairs 12 = .ok (.iload_n 1, 1) := by decide +kernel
theorem dX11_repairs_13 : decode cX11_repairs 13 = .ok (.invokevirtual 180, 3) := by decide +kernel
theorem dX11_repairs_16 : decode cX11_repairs 16 = .ok (.aload_n 0, 1) := by decide +kernel
theorem dX11_repairs_17 : decode cX11_repairs 17 = .ok (.getfield 190, 3) := by decide +kernel
theorem dX11_repairs_20 : decode cX11_repairs 20 = .ok (.bipush (-5), 2) := by decide +kernel
theorem dX11_repairs_22 : decode cX11_repairs 22 = .ok (.if_icmp .ne 5, 3) := by decide +kernel
theorem dX11_repairs_25 : decode cX11_repairs 25 = .ok (.iconst 0, 1) := by decide +kernel
theorem dX11_repairs_26 : decode cX11_repairs 26 = .ok (.ireturn, 1) := by decide +kernel
theorem dX11_repairs_27 : decode cX11_repairs 27 = .ok (.aload_n 0, 1) := by decide +kernel
theorem dX11_repairs_28 : decode cX11_repairs 28 = .ok (.getfield 33, 3) := by decide +kernel
theorem dX11_repairs_31 : decode cX11_repairs 31 = .ok (.iload_n 1, 1) := by decide +kernel
theorem dX11_repairs_32 : decode cX11_repairs 32 = .ok (.iconst 0, 1) := by decide +kernel
theorem dX11_repairs_33 : decode cX11_repairs 33 = .ok (.iastore, 1) := by decide +kernel
theorem dX11_repairs_34 : decode cX11_repairs 34 = .ok (.iconst 0, 1) := by decide +kernel
theorem dX11_repairs_35 : decode cX11_repairs 35 = .ok (.istore_n 2, 1) := by decide +kernel
theorem dX11_repairs_36 : decode cX11_repairs 36 = .ok (.iload_n 2, 1) := by decide +kernel
theorem dX11_repairs_37 : decode cX11_repairs 37 = .ok (.aload_n 0, 1) := by decide +kernel
theorem dX11_repairs_38 : decode cX11_repairs 38 = .ok (.getfield 95, 3) := by decide +kernel
theorem dX11_repairs_41 : decode cX11_repairs 41 = .ok (.if_icmp .ge 40, 3) := by decide +kernel
theorem dX11_repairs_44 : decode cX11_repairs 44 = .ok (.aload_n 0, 1) := by decide +kernel
theorem dX11_repairs_45 : decode cX11_repairs 45 = .ok (.getfield 190, 3) := by decide +kernel
theorem dX11_repairs_48 : decode cX11_repairs 48 = .ok (.iload_n 2, 1) := by decide +kernel
theorem dX11_repairs_49 : decode cX11_repairs 49 = .ok (.invokestatic 103, 3) := by decide +kernel
theorem dX11_repairs_52 : decode cX11_repairs 52 = .ok (.ifCond .eq 23, 3) := by decide +kernel
theorem dX11_repairs_55 : decode cX11_repairs 55 = .ok (.aload_n 0, 1) := by decide +kernel
theorem dX11_repairs_56 : decode cX11_repairs 56 = .ok (.getfield 30, 3) := by decide +kernel
theorem dX11_repairs_59 : decode cX11_repairs 59 = .ok (.iload_n 2, 1) := by decide +kernel
theorem dX11_repairs_60 : decode cX11_repairs 60 = .ok (.sipush 9999, 3) := by decide +kernel
theorem dX11_repairs_63 : decode cX11_repairs 63 = .ok (.aload_n 0, 1) := by decide +kernel
theorem dX11_repairs_64 : decode cX11_repairs 64 = .ok (.getfield 30, 3) := by decide +kernel
theorem dX11_repairs_67 : decode cX11_repairs 67 = .ok (.iload_n 2, 1) := by decide +kernel
theorem dX11_repairs_68 : decode cX11_repairs 68 = .ok (.iaload, 1) := by decide +kernel
theorem dX11_repairs_69 : decode cX11_repairs 69 = .ok (.iconst 1, 1) := by decide +kernel
theorem dX11_repairs_70 : decode cX11_repairs 70 = .ok (.iadd, 1) := by decide +kernel
theorem dX11_repairs_71 : decode cX11_repairs 71 = .ok (.invokestatic 177, 3) := by decide +kernel
theorem dX11_repairs_74 : decode cX11_repairs 74 = .ok (.iastore, 1) := by decide +kernel
theorem dX11_repairs_75 : decode cX11_repairs 75 = .ok (.iinc 2 1, 3) := by decide +kernel
theorem dX11_repairs_78 : decode cX11_repairs 78 = .ok (.goto (-42), 3) := by decide +kernel
theorem dX11_repairs_81 : decode cX11_repairs 81 = .ok (.iconst 1, 1) := by decide +kernel
theorem dX11_repairs_82 : decode cX11_repairs 82 = .ok (.ireturn, 1) := by decide +kernel
theorem dX11_repair_0 : decode cX11_repair 0 = .ok (.aload_n 0, 1) := by decide +kernel
theorem dX11_repair_1 : decode cX11_repair 1 = .ok (.iload_n 1, 1) := by decide +kernel
theorem dX11_repair_2 : decode cX11_repair 2 = .ok (.invokevirtual 169, 3) := by decide +kernel
theorem dX11_repair_5 : decode cX11_repair 5 = .ok (.ifCond .ne 5, 3) := by decide +kernel
theorem dX11_repair_8 : decode cX11_repair 8 = .ok (.iconst (-1), 1) := by decide +kernel
theorem dX11_repair_9 : decode cX11_repair 9 = .ok (.ireturn, 1) := by decide +kernel
theorem dX11_repair_10 : decode cX11_repair 10 = .ok (.aload_n 0, 1) := by decide +kernel
theorem dX11_repair_11 : decode cX11_repair 11 = .ok (.iload_n 1, 1) := by decide +kernel
theorem dX11_repair_12 : decode cX11_repair 12 = .ok (.invokevirtual 199, 3) := by decide +kernel
theorem dX11_repair_15 : decode cX11_repair 15 = .ok (.ifCond .ne 6, 3) := by decide +kernel
theorem dX11_repair_18 : decode cX11_repair 18 = .ok (.bipush (-3), 2) := by decide +kernel
theorem dX11_repair_20 : decode cX11_repair 20 = .ok (.ireturn, 1) := by decide +kernel
theorem dX11_repair_21 : decode cX11_repair 21 = .ok (.aload_n 0, 1) := by decide +kernel
theorem dX11_repair_22 : decode cX11_repair 22 = .ok (.iload_n 1, 1) := by decide +kernel
theorem dX11_repair_23 : decode cX11_repair 23 = .ok (.invokevirtual 187, 3) := by decide +kernel
theorem dX11_repair_26 : decode cX11_repair 26 = .ok (.ireturn, 1) := by decide +kernel
theorem dX11_takes_0 : decode cX11_takes 0 = .ok (.iconst 0, 1) := by decide +kernel
theorem dX11_takes_1 : decode cX11_takes 1 = .ok (.istore_n 2, 1) := by decide +kernel
theorem dX11_takes_2 : decode cX11_takes 2 = .ok (.iload_n 2, 1) := by decide +kernel
theorem dX11_takes_3 : decode cX11_takes 3 = .ok (.iconst 5, 1) := by decide +kernel
theorem dX11_takes_4 : decode cX11_takes 4 = .ok (.if_icmp .ge 33, 3) := by decide +kernel
theorem dX11_takes_7 : decode cX11_takes 7 = .ok (.aload_n 0, 1) := by decide +kernel
theorem dX11_takes_8 : decode cX11_takes 8 = .ok (.getfield 78, 3) := by decide +kernel
theorem dX11_takes_11 : decode cX11_takes 11 = .ok (.bipush 6, 2) := by decide +kernel
theorem dX11_takes_13 : decode cX11_takes 13 = .ok (.aload_n 0, 1) := by decide +kernel
theorem dX11_takes_14 : decode cX11_takes 14 = .ok (.getfield 202, 3) := by decide +kernel
theorem dX11_takes_17 : decode cX11_takes 17 = .ok (.imul, 1) := by decide +kernel
theorem dX11_takes_18 : decode cX11_takes 18 = .ok (.iload_n 2, 1) := by decide +kernel
theorem dX11_takes_19 : decode cX11_takes 19 = .ok (.iadd, 1) := by decide +kernel
theorem dX11_takes_20 : decode cX11_takes 20 = .ok (.aload_n 0, 1) := by decide +kernel
theorem dX11_takes_21 : decode cX11_takes 21 = .ok (.getfield 36, 3) := by decide +kernel
theorem dX11_takes_24 : decode cX11_takes 24 = .ok (.iconst 5, 1) := by decide +kernel
theorem dX11_takes_25 : decode cX11_takes 25 = .ok (.iload_n 1, 1) := by decide +kernel
theorem dX11_takes_26 : decode cX11_takes 26 = .ok (.imul, 1) := by decide +kernel
theorem dX11_takes_27 : decode cX11_takes 27 = .ok (.iload_n 2, 1) := by decide +kernel
theorem dX11_takes_28 : decode cX11_takes 28 = .ok (.iadd, 1) := by decide +kernel
theorem dX11_takes_29 : decode cX11_takes 29 = .ok (.iaload, 1) := by decide +kernel
theorem dX11_takes_30 : decode cX11_takes 30 = .ok (.iastore, 1) := by decide +kernel
theorem dX11_takes_31 : decode cX11_takes 31 = .ok (.iinc 2 1, 3) := by decide +kernel
theorem dX11_takes_34 : decode cX11_takes 34 = .ok (.goto (-32), 3) := by decide +kernel
theorem dX11_takes_37 : decode cX11_takes 37 = .ok (.aload_n 0, 1) := by decide +kernel
theorem dX11_takes_38 : decode cX11_takes 38 = .ok (.getfield 78, 3) := by decide +kernel
theorem dX11_takes_41 : decode cX11_takes 41 = .ok (.bipush 6, 2) := by decide +kernel
theorem dX11_takes_43 : decode cX11_takes 43 = .ok (.aload_n 0, 1) := by decide +kernel
theorem dX11_takes_44 : decode cX11_takes 44 = .ok (.getfield 202, 3) := by decide +kernel
theorem dX11_takes_47 : decode cX11_takes 47 = .ok (.imul, 1) := by decide +kernel
theorem dX11_takes_48 : decode cX11_takes 48 = .ok (.iconst 5, 1) := by decide +kernel
theorem dX11_takes_49 : decode cX11_takes 49 = .ok (.iadd, 1) := by decide +kernel
theorem dX11_takes_50 : decode cX11_takes 50 = .ok (.iconst 0, 1) := by decide +kernel
theorem dX11_takes_51 : decode cX11_takes 51 = .ok (.iastore, 1) := by decide +kernel
theorem dX11_takes_52 : decode cX11_takes 52 = .ok (.aload_n 0, 1) := by decide +kernel
theorem dX11_takes_53 : decode cX11_takes 53 = .ok (.dup, 1) := by decide +kernel
theorem dX11_takes_54 : decode cX11_takes 54 = .ok (.getfield 202, 3) := by decide +kernel
theorem dX11_takes_57 : decode cX11_takes 57 = .ok (.iconst 1, 1) := by decide +kernel
theorem dX11_takes_58 : decode cX11_takes 58 = .ok (.iadd, 1) := by decide +kernel
theorem dX11_takes_59 : decode cX11_takes 59 = .ok (.putfield 202, 3) := by decide +kernel
theorem dX11_takes_62 : decode cX11_takes 62 = .ok (.return_, 1) := by decide +kernel
theorem dX11_adds_0 : decode cX11_adds 0 = .ok (.iconst 0, 1) := by decide +kernel
theorem dX11_adds_1 : decode cX11_adds 1 = .ok (.istore 4, 2) := by decide +kernel
theorem dX11_adds_3 : decode cX11_adds 3 = .ok (.iload 4, 2) := by decide +kernel
theorem dX11_adds_5 : decode cX11_adds 5 = .ok (.bipush 6, 2) := by decide +kernel
theorem dX11_adds_7 : decode cX11_adds 7 = .ok (.if_icmp .ge 41, 3) := by decide +kernel
theorem dX11_adds_10 : decode cX11_adds 10 = .ok (.aload_n 0, 1) := by decide +kernel
theorem dX11_adds_11 : decode cX11_adds 11 = .ok (.getfield 78, 3) := by decide +kernel
theorem dX11_adds_14 : decode cX11_adds 14 = .ok (.bipush 6, 2) := by decide +kernel
theorem dX11_adds_16 : decode cX11_adds 16 = .ok (.iload_n 2, 1) := by decide +kernel
theorem dX11_adds_17 : decode cX11_adds 17 = .ok (.imul, 1) := by decide +kernel
theorem dX11_adds_18 : decode cX11_adds 18 = .ok (.iload 4, 2) := by decide +kernel
theorem dX11_adds_20 : decode cX11_adds 20 = .ok (.iadd, 1) := by decide +kernel
theorem dX11_adds_21 : decode cX11_adds 21 = .ok (.dup2, 1) := by decide +kernel
theorem dX11_adds_22 : decode cX11_adds 22 = .ok (.iaload, 1) := by decide +kernel
theorem dX11_adds_23 : decode cX11_adds 23 = .ok (.aload_n 0, 1) := by decide +kernel
theorem dX11_adds_24 : decode cX11_adds 24 = .ok (.aload_n 0, 1) := by decide +kernel
theorem dX11_adds_25 : decode cX11_adds 25 = .ok (.getfield 78, 3) := by decide +kernel
theorem dX11_adds_28 : decode cX11_adds 28 = .ok (.bipush 6, 2) := by decide +kernel
theorem dX11_adds_30 : decode cX11_adds 30 = .ok (.iload_n 1, 1) := by decide +kernel
theorem dX11_adds_31 : decode cX11_adds 31 = .ok (.imul, 1) := by decide +kernel
theorem dX11_adds_32 : decode cX11_adds 32 = .ok (.iload 4, 2) := by decide +kernel
theorem dX11_adds_34 : decode cX11_adds 34 = .ok (.iadd, 1) := by decide +kernel
theorem dX11_adds_35 : decode cX11_adds 35 = .ok (.iaload, 1) := by decide +kernel
theorem dX11_adds_36 : decode cX11_adds 36 = .ok (.iload_n 3, 1) := by decide +kernel
theorem dX11_adds_37 : decode cX11_adds 37 = .ok (.invokevirtual 128, 3) := by decide +kernel
theorem dX11_adds_40 : decode cX11_adds 40 = .ok (.ixor, 1) := by decide +kernel
theorem dX11_adds_41 : decode cX11_adds 41 = .ok (.iastore, 1) := by decide +kernel
theorem dX11_adds_42 : decode cX11_adds 42 = .ok (.iinc 4 1, 3) := by decide +kernel
theorem dX11_adds_45 : decode cX11_adds 45 = .ok (.goto (-42), 3) := by decide +kernel
theorem dX11_adds_48 : decode cX11_adds 48 = .ok (.return_, 1) := by decide +kernel
theorem dX11_ranks_0 : decode cX11_ranks 0 = .ok (.iconst 0, 1) := by decide +kernel
theorem dX11_ranks_1 : decode cX11_ranks 1 = .ok (.istore_n 1, 1) := by decide +kernel
theorem dX11_ranks_2 : decode cX11_ranks 2 = .ok (.iconst 0, 1) := by decide +kernel
theorem dX11_ranks_3 : decode cX11_ranks 3 = .ok (.istore_n 2, 1) := by decide +kernel
theorem dX11_ranks_4 : decode cX11_ranks 4 = .ok (.iload_n 2, 1) := by decide +kernel
theorem dX11_ranks_5 : decode cX11_ranks 5 = .ok (.iconst 5, 1) := by decide +kernel
theorem dX11_ranks_6 : decode cX11_ranks 6 = .ok (.if_icmp .ge 190, 3) := by decide +kernel
theorem dX11_ranks_9 : decode cX11_ranks 9 = .ok (.iload_n 1, 1) := by decide +kernel
theorem dX11_ranks_10 : decode cX11_ranks 10 = .ok (.istore_n 3, 1) := by decide +kernel
theorem dX11_ranks_11 : decode cX11_ranks 11 = .ok (.iload_n 3, 1) := by decide +kernel
theorem dX11_ranks_12 : decode cX11_ranks 12 = .ok (.aload_n 0, 1) := by decide +kernel
theorem dX11_ranks_13 : decode cX11_ranks 13 = .ok (.getfield 202, 3) := by decide +kernel
theorem dX11_ranks_16 : decode cX11_ranks 16 = .ok (.if_icmp .ge 23, 3) := by decide +kernel
theorem dX11_ranks_19 : decode cX11_ranks 19 = .ok (.aload_n 0, 1) := by decide +kernel
theorem dX11_ranks_20 : decode cX11_ranks 20 = .ok (.getfield 78, 3) := by decide +kernel
theorem dX11_ranks_23 : decode cX11_ranks 23 = .ok (.bipush 6, 2) := by decide +kernel
theorem dX11_ranks_25 : decode cX11_ranks 25 = .ok (.iload_n 3, 1) := by decide +kernel
theorem dX11_ranks_26 : decode cX11_ranks 26 = .ok (.imul, 1) := by decide +kernel
theorem dX11_ranks_27 : decode cX11_ranks 27 = .ok (.iload_n 2, 1) := by decide +kernel
theorem dX11_ranks_28 : decode cX11_ranks 28 = .ok (.iadd, 1) := by decide +kernel
theorem dX11_ranks_29 : decode cX11_ranks 29 = .ok (.iaload, 1) := by decide +kernel
theorem dX11_ranks_30 : decode cX11_ranks 30 = .ok (.ifCond .ne 9, 3) := by decide +kernel
theorem dX11_ranks_33 : decode cX11_ranks 33 = .ok (.iinc 3 1, 3) := by decide +kernel
theorem dX11_ranks_36 : decode cX11_ranks 36 = .ok (.goto (-25), 3) := by decide +kernel
theorem dX11_ranks_39 : decode cX11_ranks 39 = .ok (.iload_n 3, 1) := by decide +kernel
theorem dX11_ranks_40 : decode cX11_ranks 40 = .ok (.aload_n 0, 1) := by decide +kernel
theorem dX11_ranks_41 : decode cX11_ranks 41 = .ok (.getfield 202, 3) := by decide +kernel
theorem dX11_ranks_44 : decode cX11_ranks 44 = .ok (.if_icmp .ne 6, 3) := by decide +kernel
theorem dX11_ranks_47 : decode cX11_ranks 47 = .ok (.goto 143, 3) := by decide +kernel
theorem dX11_ranks_50 : decode cX11_ranks 50 = .ok (.iconst 0, 1) := by decide +kernel
theorem dX11_ranks_51 : decode cX11_ranks 51 = .ok (.istore 4, 2) := by decide +kernel
theorem dX11_ranks_53 : decode cX11_ranks 53 = .ok (.iload 4, 2) := by decide +kernel
theorem dX11_ranks_55 : decode cX11_ranks 55 = .ok (.bipush 6, 2) := by decide +kernel
theorem dX11_ranks_57 : decode cX11_ranks 57 = .ok (.if_icmp .ge 61, 3) := by decide +kernel
theorem dX11_ranks_60 : decode cX11_ranks 60 = .ok (.aload_n 0, 1) := by decide +kernel
theorem dX11_ranks_61 : decode cX11_ranks 61 = .ok (.getfield 78, 3) := by decide +kernel
theorem dX11_ranks_64 : decode cX11_ranks 64 = .ok (.bipush 6, 2) := by decide +kernel
theorem dX11_ranks_66 : decode cX11_ranks 66 = .ok (.iload_n 1, 1) := by decide +kernel
theorem dX11_ranks_67 : decode cX11_ranks 67 = .ok (.imul, 1) := by decide +kernel
theorem dX11_ranks_68 : decode cX11_ranks 68 = .ok (.iload 4, 2) := by decide +kernel
theorem dX11_ranks_70 : decode cX11_ranks 70 = .ok (.iadd, 1) := by decide +kernel
theorem dX11_ranks_71 : decode cX11_ranks 71 = .ok (.iaload, 1) := by decide +kernel
theorem dX11_ranks_72 : decode cX11_ranks 72 = .ok (.istore 5, 2) := by decide +kernel
theorem dX11_ranks_74 : decode cX11_ranks 74 = .ok (.aload_n 0, 1) := by decide +kernel
theorem dX11_ranks_75 : decode cX11_ranks 75 = .ok (.getfield 78, 3) := by decide +kernel
theorem dX11_ranks_78 : decode cX11_ranks 78 = .ok (.bipush 6, 2) := by decide +kernel
theorem dX11_ranks_80 : decode cX11_ranks 80 = .ok (.iload_n 1, 1) := by decide +kernel
theorem dX11_ranks_81 : decode cX11_ranks 81 = .ok (.imul, 1) := by decide +kernel
theorem dX11_ranks_82 : decode cX11_ranks 82 = .ok (.iload 4, 2) := by decide +kernel
theorem dX11_ranks_84 : decode cX11_ranks 84 = .ok (.iadd, 1) := by decide +kernel
theorem dX11_ranks_85 : decode cX11_ranks 85 = .ok (.aload_n 0, 1) := by decide +kernel
theorem dX11_ranks_86 : decode cX11_ranks 86 = .ok (.getfield 78, 3) := by decide +kernel
theorem dX11_ranks_89 : decode cX11_ranks 89 = .ok (.bipush 6, 2) := by decide +kernel
theorem dX11_ranks_91 : decode cX11_ranks 91 = .ok (.iload_n 3, 1) := by decide +kernel
theorem dX11_ranks_92 : decode cX11_ranks 92 = .ok (.imul, 1) := by decide +kernel
theorem dX11_ranks_93 : decode cX11_ranks 93 = .ok (.iload 4, 2) := by decide +kernel
theorem dX11_ranks_95 : decode cX11_ranks 95 = .ok (.iadd, 1) := by decide +kernel
theorem dX11_ranks_96 : decode cX11_ranks 96 = .ok (.iaload, 1) := by decide +kernel
theorem dX11_ranks_97 : decode cX11_ranks 97 = .ok (.iastore, 1) := by decide +kernel
theorem dX11_ranks_98 : decode cX11_ranks 98 = .ok (.aload_n 0, 1) := by decide +kernel
theorem dX11_ranks_99 : decode cX11_ranks 99 = .ok (.getfield 78, 3) := by decide +kernel
theorem dX11_ranks_102 : decode cX11_ranks 102 = .ok (.bipush 6, 2) := by decide +kernel
theorem dX11_ranks_104 : decode cX11_ranks 104 = .ok (.iload_n 3, 1) := by decide +kernel
theorem dX11_ranks_105 : decode cX11_ranks 105 = .ok (.imul, 1) := by decide +kernel
theorem dX11_ranks_106 : decode cX11_ranks 106 = .ok (.iload 4, 2) := by decide +kernel
theorem dX11_ranks_108 : decode cX11_ranks 108 = .ok (.iadd, 1) := by decide +kernel
theorem dX11_ranks_109 : decode cX11_ranks 109 = .ok (.iload 5, 2) := by decide +kernel
theorem dX11_ranks_111 : decode cX11_ranks 111 = .ok (.iastore, 1) := by decide +kernel
theorem dX11_ranks_112 : decode cX11_ranks 112 = .ok (.iinc 4 1, 3) := by decide +kernel
theorem dX11_ranks_115 : decode cX11_ranks 115 = .ok (.goto (-62), 3) := by decide +kernel
theorem dX11_ranks_118 : decode cX11_ranks 118 = .ok (.iload_n 1, 1) := by decide +kernel
theorem dX11_ranks_119 : decode cX11_ranks 119 = .ok (.iconst 1, 1) := by decide +kernel
theorem dX11_ranks_120 : decode cX11_ranks 120 = .ok (.iadd, 1) := by decide +kernel
theorem dX11_ranks_121 : decode cX11_ranks 121 = .ok (.istore 4, 2) := by decide +kernel
theorem dX11_ranks_123 : decode cX11_ranks 123 = .ok (.iload 4, 2) := by decide +kernel
theorem dX11_ranks_125 : decode cX11_ranks 125 = .ok (.aload_n 0, 1) := by decide +kernel
theorem dX11_ranks_126 : decode cX11_ranks 126 = .ok (.getfield 202, 3) := by decide +kernel
theorem dX11_ranks_129 : decode cX11_ranks 129 = .ok (.if_icmp .ge 58, 3) := by decide +kernel
theorem dX11_ranks_132 : decode cX11_ranks 132 = .ok (.aload_n 0, 1) := by decide +kernel
theorem dX11_ranks_133 : decode cX11_ranks 133 = .ok (.getfield 78, 3) := by decide +kernel
theorem dX11_ranks_136 : decode cX11_ranks 136 = .ok (.bipush 6, 2) := by decide +kernel
theorem dX11_ranks_138 : decode cX11_ranks 138 = .ok (.iload 4, 2) := by decide +kernel
theorem dX11_ranks_140 : decode cX11_ranks 140 = .ok (.imul, 1) := by decide +kernel
theorem dX11_ranks_141 : decode cX11_ranks 141 = .ok (.iload_n 2, 1) := by decide +kernel
theorem dX11_ranks_142 : decode cX11_ranks 142 = .ok (.iadd, 1) := by decide +kernel
theorem dX11_ranks_143 : decode cX11_ranks 143 = .ok (.iaload, 1) := by decide +kernel
theorem dX11_ranks_144 : decode cX11_ranks 144 = .ok (.ifCond .eq 37, 3) := by decide +kernel
theorem dX11_ranks_147 : decode cX11_ranks 147 = .ok (.aload_n 0, 1) := by decide +kernel
theorem dX11_ranks_148 : decode cX11_ranks 148 = .ok (.iload_n 1, 1) := by decide +kernel
theorem dX11_ranks_149 : decode cX11_ranks 149 = .ok (.iload 4, 2) := by decide +kernel
theorem dX11_ranks_151 : decode cX11_ranks 151 = .ok (.aload_n 0, 1) := by decide +kernel
theorem dX11_ranks_152 : decode cX11_ranks 152 = .ok (.aload_n 0, 1) := by decide +kernel
theorem dX11_ranks_153 : decode cX11_ranks 153 = .ok (.getfield 78, 3) := by decide +kernel
theorem dX11_ranks_156 : decode cX11_ranks 156 = .ok (.bipush 6, 2) := by decide +kernel
theorem dX11_ranks_158 : decode cX11_ranks 158 = .ok (.iload 4, 2) := by decide +kernel
theorem dX11_ranks_160 : decode cX11_ranks 160 = .ok (.imul, 1) := by decide +kernel
theorem dX11_ranks_161 : decode cX11_ranks 161 = .ok (.iload_n 2, 1) := by decide +kernel
theorem dX11_ranks_162 : decode cX11_ranks 162 = .ok (.iadd, 1) := by decide +kernel
theorem dX11_ranks_163 : decode cX11_ranks 163 = .ok (.iaload, 1) := by decide +kernel
theorem dX11_ranks_164 : decode cX11_ranks 164 = .ok (.aload_n 0, 1) := by decide +kernel
theorem dX11_ranks_165 : decode cX11_ranks 165 = .ok (.getfield 78, 3) := by decide +kernel
theorem dX11_ranks_168 : decode cX11_ranks 168 = .ok (.bipush 6, 2) := by decide +kernel
theorem dX11_ranks_170 : decode cX11_ranks 170 = .ok (.iload_n 1, 1) := by decide +kernel
theorem dX11_ranks_171 : decode cX11_ranks 171 = .ok (.imul, 1) := by decide +kernel
theorem dX11_ranks_172 : decode cX11_ranks 172 = .ok (.iload_n 2, 1) := by decide +kernel
theorem dX11_ranks_173 : decode cX11_ranks 173 = .ok (.iadd, 1) := by decide +kernel
theorem dX11_ranks_174 : decode cX11_ranks 174 = .ok (.iaload, 1) := by decide +kernel
theorem dX11_ranks_175 : decode cX11_ranks 175 = .ok (.invokevirtual 131, 3) := by decide +kernel
theorem dX11_ranks_178 : decode cX11_ranks 178 = .ok (.invokevirtual 205, 3) := by decide +kernel
theorem dX11_ranks_181 : decode cX11_ranks 181 = .ok (.iinc 4 1, 3) := by decide +kernel
theorem dX11_ranks_184 : decode cX11_ranks 184 = .ok (.goto (-61), 3) := by decide +kernel
theorem dX11_ranks_187 : decode cX11_ranks 187 = .ok (.iinc 1 1, 3) := by decide +kernel
theorem dX11_ranks_190 : decode cX11_ranks 190 = .ok (.iinc 2 1, 3) := by decide +kernel
theorem dX11_ranks_193 : decode cX11_ranks 193 = .ok (.goto (-189), 3) := by decide +kernel
theorem dX11_ranks_196 : decode cX11_ranks 196 = .ok (.iload_n 1, 1) := by decide +kernel
theorem dX11_ranks_197 : decode cX11_ranks 197 = .ok (.ireturn, 1) := by decide +kernel
theorem dX11_rankOf_0 : decode cX11_rankOf 0 = .ok (.aload_n 0, 1) := by decide +kernel
theorem dX11_rankOf_1 : decode cX11_rankOf 1 = .ok (.iconst 0, 1) := by decide +kernel
theorem dX11_rankOf_2 : decode cX11_rankOf 2 = .ok (.putfield 202, 3) := by decide +kernel
theorem dX11_rankOf_5 : decode cX11_rankOf 5 = .ok (.iconst 0, 1) := by decide +kernel
theorem dX11_rankOf_6 : decode cX11_rankOf 6 = .ok (.istore_n 2, 1) := by decide +kernel
theorem dX11_rankOf_7 : decode cX11_rankOf 7 = .ok (.iload_n 2, 1) := by decide +kernel
theorem dX11_rankOf_8 : decode cX11_rankOf 8 = .ok (.aload_n 0, 1) := by decide +kernel
theorem dX11_rankOf_9 : decode cX11_rankOf 9 = .ok (.getfield 95, 3) := by decide +kernel
theorem dX11_rankOf_12 : decode cX11_rankOf 12 = .ok (.if_icmp .ge 22, 3) := by decide +kernel
theorem dX11_rankOf_15 : decode cX11_rankOf 15 = .ok (.iload_n 1, 1) := by decide +kernel
theorem dX11_rankOf_16 : decode cX11_rankOf 16 = .ok (.iload_n 2, 1) := by decide +kernel
theorem dX11_rankOf_17 : decode cX11_rankOf 17 = .ok (.invokestatic 103, 3) := by decide +kernel
theorem dX11_rankOf_20 : decode cX11_rankOf 20 = .ok (.ifCond .eq 8, 3) := by decide +kernel
theorem dX11_rankOf_23 : decode cX11_rankOf 23 = .ok (.aload_n 0, 1) := by decide +kernel
theorem dX11_rankOf_24 : decode cX11_rankOf 24 = .ok (.iload_n 2, 1) := by decide +kernel
theorem dX11_rankOf_25 : decode cX11_rankOf 25 = .ok (.invokevirtual 209, 3) := by decide +kernel
theorem dX11_rankOf_28 : decode cX11_rankOf 28 = .ok (.iinc 2 1, 3) := by decide +kernel
theorem dX11_rankOf_31 : decode cX11_rankOf 31 = .ok (.goto (-24), 3) := by decide +kernel
theorem dX11_rankOf_34 : decode cX11_rankOf 34 = .ok (.aload_n 0, 1) := by decide +kernel
theorem dX11_rankOf_35 : decode cX11_rankOf 35 = .ok (.invokevirtual 212, 3) := by decide +kernel
theorem dX11_rankOf_38 : decode cX11_rankOf 38 = .ok (.ireturn, 1) := by decide +kernel
theorem dX11_tells_0 : decode cX11_tells 0 = .ok (.aload_n 0, 1) := by decide +kernel
theorem dX11_tells_1 : decode cX11_tells 1 = .ok (.iload_n 1, 1) := by decide +kernel
theorem dX11_tells_2 : decode cX11_tells 2 = .ok (.invokevirtual 215, 3) := by decide +kernel
theorem dX11_tells_5 : decode cX11_tells 5 = .ok (.aload_n 0, 1) := by decide +kernel
theorem dX11_tells_6 : decode cX11_tells 6 = .ok (.iload_n 1, 1) := by decide +kernel
theorem dX11_tells_7 : decode cX11_tells 7 = .ok (.iload_n 2, 1) := by decide +kernel
theorem dX11_tells_8 : decode cX11_tells 8 = .ok (.ior, 1) := by decide +kernel
theorem dX11_tells_9 : decode cX11_tells 9 = .ok (.invokevirtual 215, 3) := by decide +kernel
theorem dX11_tells_12 : decode cX11_tells 12 = .ok (.if_icmp .ne 7, 3) := by decide +kernel
theorem dX11_tells_15 : decode cX11_tells 15 = .ok (.iconst 1, 1) := by decide +kernel
theorem dX11_tells_16 : decode cX11_tells 16 = .ok (.goto 4, 3) := by decide +kernel
theorem dX11_tells_19 : decode cX11_tells 19 = .ok (.iconst 0, 1) := by decide +kernel
theorem dX11_tells_20 : decode cX11_tells 20 = .ok (.ireturn, 1) := by decide +kernel
theorem dX11_there_0 : decode cX11_there 0 = .ok (.iconst 0, 1) := by decide +kernel
theorem dX11_there_1 : decode cX11_there 1 = .ok (.istore_n 1, 1) := by decide +kernel
theorem dX11_there_2 : decode cX11_there 2 = .ok (.iconst 0, 1) := by decide +kernel
theorem dX11_there_3 : decode cX11_there 3 = .ok (.istore_n 2, 1) := by decide +kernel
theorem dX11_there_4 : decode cX11_there 4 = .ok (.iload_n 2, 1) := by decide +kernel
theorem dX11_there_5 : decode cX11_there 5 = .ok (.aload_n 0, 1) := by decide +kernel
theorem dX11_there_6 : decode cX11_there 6 = .ok (.getfield 95, 3) := by decide +kernel
theorem dX11_there_9 : decode cX11_there 9 = .ok (.if_icmp .ge 24, 3) := by decide +kernel
theorem dX11_there_12 : decode cX11_there 12 = .ok (.aload_n 0, 1) := by decide +kernel
theorem dX11_there_13 : decode cX11_there 13 = .ok (.getfield 33, 3) := by decide +kernel
theorem dX11_there_16 : decode cX11_there 16 = .ok (.iload_n 2, 1) := by decide +kernel
theorem dX11_there_17 : decode cX11_there 17 = .ok (.iaload, 1) := by decide +kernel
theorem dX11_there_18 : decode cX11_there 18 = .ok (.ifCond .ne 9, 3) := by decide +kernel
theorem dX11_there_21 : decode cX11_there 21 = .ok (.iload_n 1, 1) := by decide +kernel
theorem dX11_there_22 : decode cX11_there 22 = .ok (.iconst 1, 1) := by decide +kernel
theorem dX11_there_23 : decode cX11_there 23 = .ok (.iload_n 2, 1) := by decide +kernel
theorem dX11_there_24 : decode cX11_there 24 = .ok (.ishl, 1) := by decide +kernel
theorem dX11_there_25 : decode cX11_there 25 = .ok (.ior, 1) := by decide +kernel
theorem dX11_there_26 : decode cX11_there 26 = .ok (.istore_n 1, 1) := by decide +kernel
theorem dX11_there_27 : decode cX11_there 27 = .ok (.iinc 2 1, 3) := by decide +kernel
theorem dX11_there_30 : decode cX11_there 30 = .ok (.goto (-26), 3) := by decide +kernel
theorem dX11_there_33 : decode cX11_there 33 = .ok (.iload_n 1, 1) := by decide +kernel
theorem dX11_there_34 : decode cX11_there 34 = .ok (.ireturn, 1) := by decide +kernel
theorem dX11_allData_0 : decode cX11_allData 0 = .ok (.iconst 0, 1) := by decide +kernel
theorem dX11_allData_1 : decode cX11_allData 1 = .ok (.istore_n 1, 1) := by decide +kernel
theorem dX11_allData_2 : decode cX11_allData 2 = .ok (.iconst 0, 1) := by decide +kernel
theorem dX11_allData_3 : decode cX11_allData 3 = .ok (.istore_n 2, 1) := by decide +kernel
theorem dX11_allData_4 : decode cX11_allData 4 = .ok (.iload_n 2, 1) := by decide +kernel
theorem dX11_allData_5 : decode cX11_allData 5 = .ok (.aload_n 0, 1) := by decide +kernel
theorem dX11_allData_6 : decode cX11_allData 6 = .ok (.getfield 134, 3) := by decide +kernel
theorem dX11_allData_9 : decode cX11_allData 9 = .ok (.if_icmp .ge 20, 3) := by decide +kernel
theorem dX11_allData_12 : decode cX11_allData 12 = .ok (.iload_n 1, 1) := by decide +kernel
theorem dX11_allData_13 : decode cX11_allData 13 = .ok (.iconst 1, 1) := by decide +kernel
theorem dX11_allData_14 : decode cX11_allData 14 = .ok (.aload_n 0, 1) := by decide +kernel
theorem dX11_allData_15 : decode cX11_allData 15 = .ok (.getfield 45, 3) := by decide +kernel
theorem dX11_allData_18 : decode cX11_allData 18 = .ok (.iload_n 2, 1) := by decide +kernel
theorem dX11_allData_19 : decode cX11_allData 19 = .ok (.iaload, 1) := by decide +kernel
theorem dX11_allData_20 : decode cX11_allData 20 = .ok (.ishl, 1) := by decide +kernel
theorem dX11_allData_21 : decode cX11_allData 21 = .ok (.ior, 1) := by decide +kernel
theorem dX11_allData_22 : decode cX11_allData 22 = .ok (.istore_n 1, 1) := by decide +kernel
theorem dX11_allData_23 : decode cX11_allData 23 = .ok (.iinc 2 1, 3) := by decide +kernel
theorem dX11_allData_26 : decode cX11_allData 26 = .ok (.goto (-22), 3) := by decide +kernel
theorem dX11_allData_29 : decode cX11_allData 29 = .ok (.iload_n 1, 1) := by decide +kernel
theorem dX11_allData_30 : decode cX11_allData 30 = .ok (.ireturn, 1) := by decide +kernel
theorem dX11_helps_0 : decode cX11_helps 0 = .ok (.aload_n 0, 1) := by decide +kernel
theorem dX11_helps_1 : decode cX11_helps 1 = .ok (.bipush (-5), 2) := by decide +kernel
theorem dX11_helps_3 : decode cX11_helps 3 = .ok (.putfield 190, 3) := by decide +kernel
theorem dX11_helps_6 : decode cX11_helps 6 = .ok (.aload_n 0, 1) := by decide +kernel
theorem dX11_helps_7 : decode cX11_helps 7 = .ok (.bipush (-5), 2) := by decide +kernel
theorem dX11_helps_9 : decode cX11_helps 9 = .ok (.putfield 193, 3) := by decide +kernel
theorem dX11_helps_12 : decode cX11_helps 12 = .ok (.aload_n 0, 1) := by decide +kernel
theorem dX11_helps_13 : decode cX11_helps 13 = .ok (.invokevirtual 218, 3) := by decide +kernel
theorem dX11_helps_16 : decode cX11_helps 16 = .ok (.iconst 1, 1) := by decide +kernel
theorem dX11_helps_17 : decode cX11_helps 17 = .ok (.iload_n 1, 1) := by decide +kernel
theorem dX11_helps_18 : decode cX11_helps 18 = .ok (.ishl, 1) := by decide +kernel
theorem dX11_helps_19 : decode cX11_helps 19 = .ok (.iconst (-1), 1) := by decide +kernel
theorem dX11_helps_20 : decode cX11_helps 20 = .ok (.ixor, 1) := by decide +kernel
theorem dX11_helps_21 : decode cX11_helps 21 = .ok (.iand, 1) := by decide +kernel
theorem dX11_helps_22 : decode cX11_helps 22 = .ok (.istore_n 2, 1) := by decide +kernel
theorem dX11_helps_23 : decode cX11_helps 23 = .ok (.iconst 0, 1) := by decide +kernel
theorem dX11_helps_24 : decode cX11_helps 24 = .ok (.istore_n 3, 1) := by decide +kernel
theorem dX11_helps_25 : decode cX11_helps 25 = .ok (.iload_n 3, 1) := by decide +kernel
theorem dX11_helps_26 : decode cX11_helps 26 = .ok (.iconst 1, 1) := by decide +kernel
theorem dX11_helps_27 : decode cX11_helps 27 = .ok (.aload_n 0, 1) := by decide +kernel
theorem dX11_helps_28 : decode cX11_helps 28 = .ok (.getfield 95, 3) := by decide +kernel
theorem dX11_helps_31 : decode cX11_helps 31 = .ok (.ishl, 1) := by decide +kernel
theorem dX11_helps_32 : decode cX11_helps 32 = .ok (.if_icmp .ge 104, 3) := by decide +kernel
theorem dX11_helps_35 : decode cX11_helps 35 = .ok (.iload_n 3, 1) := by decide +kernel
theorem dX11_helps_36 : decode cX11_helps 36 = .ok (.iload_n 2, 1) := by decide +kernel
theorem dX11_helps_37 : decode cX11_helps 37 = .ok (.iconst (-1), 1) := by decide +kernel
theorem dX11_helps_38 : decode cX11_helps 38 = .ok (.ixor, 1) := by decide +kernel
theorem dX11_helps_39 : decode cX11_helps 39 = .ok (.iand, 1) := by decide +kernel
theorem dX11_helps_40 : decode cX11_helps 40 = .ok (.ifCond .eq 6, 3) := by decide +kernel
theorem dX11_helps_43 : decode cX11_helps 43 = .ok (.goto 87, 3) := by decide +kernel
theorem dX11_helps_46 : decode cX11_helps 46 = .ok (.iconst 0, 1) := by decide +kernel
theorem dX11_helps_47 : decode cX11_helps 47 = .ok (.istore 4, 2) := by decide +kernel
theorem dX11_helps_49 : decode cX11_helps 49 = .ok (.iconst 0, 1) := by decide +kernel
theorem dX11_helps_50 : decode cX11_helps 50 = .ok (.istore 5, 2) := by decide +kernel
theorem dX11_helps_52 : decode cX11_helps 52 = .ok (.iload 5, 2) := by decide +kernel
theorem dX11_helps_54 : decode cX11_helps 54 = .ok (.aload_n 0, 1) := by decide +kernel
theorem dX11_helps_55 : decode cX11_helps 55 = .ok (.getfield 95, 3) := by decide +kernel
theorem dX11_helps_58 : decode cX11_helps 58 = .ok (.if_icmp .ge 29, 3) := by decide +kernel
theorem dX11_helps_61 : decode cX11_helps 61 = .ok (.iload_n 3, 1) := by decide +kernel
theorem dX11_helps_62 : decode cX11_helps 62 = .ok (.iload 5, 2) := by decide +kernel
theorem dX11_helps_64 : decode cX11_helps 64 = .ok (.invokestatic 103, 3) := by decide +kernel
theorem dX11_helps_67 : decode cX11_helps 67 = .ok (.ifCond .eq 14, 3) := by decide +kernel
theorem dX11_helps_70 : decode cX11_helps 70 = .ok (.iload 4, 2) := by decide +kernel
theorem dX11_helps_72 : decode cX11_helps 72 = .ok (.aload_n 0, 1) := by decide +kernel
theorem dX11_helps_73 : decode cX11_helps 73 = .ok (.iload 5, 2) := by decide +kernel
theorem dX11_helps_75 : decode cX11_helps 75 = .ok (.invokevirtual 183, 3) := by decide +kernel
theorem dX11_helps_78 : decode cX11_helps 78 = .ok (.iadd, 1) := by decide +kernel
theorem dX11_helps_79 : decode cX11_helps 79 = .ok (.istore 4, 2) := by decide +kernel
theorem dX11_helps_81 : decode cX11_helps 81 = .ok (.iinc 5 1, 3) := by decide +kernel
theorem dX11_helps_84 : decode cX11_helps 84 = .ok (.goto (-32), 3) := by decide +kernel
theorem dX11_helps_87 : decode cX11_helps 87 = .ok (.aload_n 0, 1) := by decide +kernel
theorem dX11_helps_88 : decode cX11_helps 88 = .ok (.getfield 190, 3) := by decide +kernel
theorem dX11_helps_91 : decode cX11_helps 91 = .ok (.bipush (-5), 2) := by decide +kernel
theorem dX11_helps_93 : decode cX11_helps 93 = .ok (.if_icmp .eq 12, 3) := by decide +kernel
theorem dX11_helps_96 : decode cX11_helps 96 = .ok (.iload 4, 2) := by decide +kernel
theorem dX11_helps_98 : decode cX11_helps 98 = .ok (.aload_n 0, 1) := by decide +kernel
theorem dX11_helps_99 : decode cX11_helps 99 = .ok (.getfield 193, 3) := by decide +kernel
theorem dX11_helps_102 : decode cX11_helps 102 = .ok (.if_icmp .ge 28, 3) := by decide +kernel
theorem dX11_helps_105 : decode cX11_helps 105 = .ok (.aload_n 0, 1) := by decide +kernel
theorem dX11_helps_106 : decode cX11_helps 106 = .ok (.iload_n 3, 1) := by decide +kernel
theorem dX11_helps_107 : decode cX11_helps 107 = .ok (.iconst 1, 1) := by decide +kernel
theorem dX11_helps_108 : decode cX11_helps 108 = .ok (.iload_n 1, 1) := by decide +kernel
theorem dX11_helps_109 : decode cX11_helps 109 = .ok (.ishl, 1) := by decide +kernel
theorem dX11_helps_110 : decode cX11_helps 110 = .ok (.invokevirtual 221, 3) := by decide +kernel
theorem dX11_helps_113 : decode cX11_helps 113 = .ok (.ifCond .ne 6, 3) := by decide +kernel
theorem dX11_helps_116 : decode cX11_helps 116 = .ok (.goto 14, 3) := by decide +kernel
theorem dX11_helps_119 : decode cX11_helps 119 = .ok (.aload_n 0, 1) := by decide +kernel
theorem dX11_helps_120 : decode cX11_helps 120 = .ok (.iload_n 3, 1) := by decide +kernel
theorem dX11_helps_121 : decode cX11_helps 121 = .ok (.putfield 190, 3) := by decide +kernel
theorem dX11_helps_124 : decode cX11_helps 124 = .ok (.aload_n 0, 1) := by decide +kernel
theorem dX11_helps_125 : decode cX11_helps 125 = .ok (.iload 4, 2) := by decide +kernel
theorem dX11_helps_127 : decode cX11_helps 127 = .ok (.putfield 193, 3) := by decide +kernel
theorem dX11_helps_130 : decode cX11_helps 130 = .ok (.iinc 3 1, 3) := by decide +kernel
theorem dX11_helps_133 : decode cX11_helps 133 = .ok (.goto (-108), 3) := by decide +kernel
theorem dX11_helps_136 : decode cX11_helps 136 = .ok (.return_, 1) := by decide +kernel
theorem dX11_local_0 : decode cX11_local 0 = .ok (.bipush (-5), 2) := by decide +kernel
theorem dX11_local_2 : decode cX11_local 2 = .ok (.istore_n 2, 1) := by decide +kernel
theorem dX11_local_3 : decode cX11_local 3 = .ok (.iconst 0, 1) := by decide +kernel
theorem dX11_local_4 : decode cX11_local 4 = .ok (.istore_n 3, 1) := by decide +kernel
theorem dX11_local_5 : decode cX11_local 5 = .ok (.iload_n 3, 1) := by decide +kernel
theorem dX11_local_6 : decode cX11_local 6 = .ok (.iconst 1, 1) := by decide +kernel
theorem dX11_local_7 : decode cX11_local 7 = .ok (.aload_n 0, 1) := by decide +kernel
theorem dX11_local_8 : decode cX11_local 8 = .ok (.getfield 95, 3) := by decide +kernel
theorem dX11_local_11 : decode cX11_local 11 = .ok (.ishl, 1) := by decide +kernel
theorem dX11_local_12 : decode cX11_local 12 = .ok (.if_icmp .ge 52, 3) := by decide +kernel
theorem dX11_local_15 : decode cX11_local 15 = .ok (.iload_n 3, 1) := by decide +kernel
theorem dX11_local_16 : decode cX11_local 16 = .ok (.invokestatic 224, 3) := by decide +kernel
theorem dX11_local_19 : decode cX11_local 19 = .ok (.istore 4, 2) := by decide +kernel
theorem dX11_local_21 : decode cX11_local 21 = .ok (.iload_n 3, 1) := by decide +kernel
theorem dX11_local_22 : decode cX11_local 22 = .ok (.iload_n 1, 1) := by decide +kernel
theorem dX11_local_23 : decode cX11_local 23 = .ok (.invokestatic 103, 3) := by decide +kernel
theorem dX11_local_26 : decode cX11_local 26 = .ok (.ifCond .ne 32, 3) := by decide +kernel
theorem dX11_local_29 : decode cX11_local 29 = .ok (.iload_n 2, 1) := by decide +kernel
theorem dX11_local_30 : decode cX11_local 30 = .ok (.bipush (-5), 2) := by decide +kernel
theorem dX11_local_32 : decode cX11_local 32 = .ok (.if_icmp .eq 9, 3) := by decide +kernel
theorem dX11_local_35 : decode cX11_local 35 = .ok (.iload 4, 2) := by decide +kernel
theorem dX11_local_37 : decode cX11_local 37 = .ok (.iload_n 2, 1) := by decide +kernel
theorem dX11_local_38 : decode cX11_local 38 = .ok (.if_icmp .ge 20, 3) := by decide +kernel
theorem dX11_local_41 : decode cX11_local 41 = .ok (.aload_n 0, 1) := by decide +kernel
theorem dX11_local_42 : decode cX11_local 42 = .ok (.iload_n 3, 1) := by decide +kernel
theorem dX11_local_43 : decode cX11_local 43 = .ok (.iconst 1, 1) := by decide +kernel
theorem dX11_local_44 : decode cX11_local 44 = .ok (.iload_n 1, 1) := by decide +kernel
theorem dX11_local_45 : decode cX11_local 45 = .ok (.ishl, 1) := by decide +kernel
theorem dX11_local_46 : decode cX11_local 46 = .ok (.invokevirtual 221, 3) := by decide +kernel
theorem dX11_local_49 : decode cX11_local 49 = .ok (.ifCond .ne 6, 3) := by decide +kernel
theorem dX11_local_52 : decode cX11_local 52 = .ok (.goto 6, 3) := by decide +kernel
theorem dX11_local_55 : decode cX11_local 55 = .ok (.iload 4, 2) := by decide +kernel
theorem dX11_local_57 : decode cX11_local 57 = .ok (.istore_n 2, 1) := by decide +kernel
theorem dX11_local_58 : decode cX11_local 58 = .ok (.iinc 3 1, 3) := by decide +kernel
theorem dX11_local_61 : decode cX11_local 61 = .ok (.goto (-56), 3) := by decide +kernel
theorem dX11_local_64 : decode cX11_local 64 = .ok (.iload_n 2, 1) := by decide +kernel
theorem dX11_local_65 : decode cX11_local 65 = .ok (.ireturn, 1) := by decide +kernel
theorem dX11_helped_0 : decode cX11_helped 0 = .ok (.iconst 0, 1) := by decide +kernel
theorem dX11_helped_1 : decode cX11_helped 1 = .ok (.istore_n 1, 1) := by decide +kernel
theorem dX11_helped_2 : decode cX11_helped 2 = .ok (.iconst 0, 1) := by decide +kernel
theorem dX11_helped_3 : decode cX11_helped 3 = .ok (.istore_n 2, 1) := by decide +kernel
theorem dX11_helped_4 : decode cX11_helped 4 = .ok (.iload_n 2, 1) := by decide +kernel
theorem dX11_helped_5 : decode cX11_helped 5 = .ok (.aload_n 0, 1) := by decide +kernel
theorem dX11_helped_6 : decode cX11_helped 6 = .ok (.getfield 95, 3) := by decide +kernel
theorem dX11_helped_9 : decode cX11_helped 9 = .ok (.if_icmp .ge 41, 3) := by decide +kernel
theorem dX11_helped_12 : decode cX11_helped 12 = .ok (.aload_n 0, 1) := by decide +kernel
theorem dX11_helped_13 : decode cX11_helped 13 = .ok (.getfield 33, 3) := by decide +kernel
theorem dX11_helped_16 : decode cX11_helped 16 = .ok (.iload_n 2, 1) := by decide +kernel
theorem dX11_helped_17 : decode cX11_helped 17 = .ok (.iaload, 1) := by decide +kernel
theorem dX11_helped_18 : decode cX11_helped 18 = .ok (.ifCond .ne 6, 3) := by decide +kernel
theorem dX11_helped_21 : decode cX11_helped 21 = .ok (.goto 23, 3) := by decide +kernel
theorem dX11_helped_24 : decode cX11_helped 24 = .ok (.aload_n 0, 1) := by decide +kernel
theorem dX11_helped_25 : decode cX11_helped 25 = .ok (.aload_n 0, 1) := by decide +kernel
theorem dX11_helped_26 : decode cX11_helped 26 = .ok (.invokevirtual 218, 3) := by decide +kernel
theorem dX11_helped_29 : decode cX11_helped 29 = .ok (.iconst 1, 1) := by decide +kernel
theorem dX11_helped_30 : decode cX11_helped 30 = .ok (.iload_n 2, 1) := by decide +kernel
theorem dX11_helped_31 : decode cX11_helped 31 = .ok (.ishl, 1) := by decide +kernel
theorem dX11_helped_32 : decode cX11_helped 32 = .ok (.invokevirtual 221, 3) := by decide +kernel
theorem dX11_helped_35 : decode cX11_helped 35 = .ok (.ifCond .eq 9, 3) := by decide +kernel
theorem dX11_helped_38 : decode cX11_helped 38 = .ok (.iload_n 1, 1) := by decide +kernel
theorem dX11_helped_39 : decode cX11_helped 39 = .ok (.iconst 1, 1) := by decide +kernel
theorem dX11_helped_40 : decode cX11_helped 40 = .ok (.iload_n 2, 1) := by decide +kernel
theorem dX11_helped_41 : decode cX11_helped 41 = .ok (.ishl, 1) := by decide +kernel
theorem dX11_helped_42 : decode cX11_helped 42 = .ok (.ior, 1) := by decide +kernel
theorem dX11_helped_43 : decode cX11_helped 43 = .ok (.istore_n 1, 1) := by decide +kernel
theorem dX11_helped_44 : decode cX11_helped 44 = .ok (.iinc 2 1, 3) := by decide +kernel
theorem dX11_helped_47 : decode cX11_helped 47 = .ok (.goto (-43), 3) := by decide +kernel
theorem dX11_helped_50 : decode cX11_helped 50 = .ok (.iload_n 1, 1) := by decide +kernel
theorem dX11_helped_51 : decode cX11_helped 51 = .ok (.ireturn, 1) := by decide +kernel
theorem dX11_all_0 : decode cX11_all 0 = .ok (.iconst 1, 1) := by decide +kernel
theorem dX11_all_1 : decode cX11_all 1 = .ok (.aload_n 0, 1) := by decide +kernel
theorem dX11_all_2 : decode cX11_all 2 = .ok (.getfield 95, 3) := by decide +kernel
theorem dX11_all_5 : decode cX11_all 5 = .ok (.ishl, 1) := by decide +kernel
theorem dX11_all_6 : decode cX11_all 6 = .ok (.iconst 1, 1) := by decide +kernel
theorem dX11_all_7 : decode cX11_all 7 = .ok (.isub, 1) := by decide +kernel
theorem dX11_all_8 : decode cX11_all 8 = .ok (.ireturn, 1) := by decide +kernel
theorem dX11_safeOf_0 : decode cX11_safeOf 0 = .ok (.iconst 0, 1) := by decide +kernel
theorem dX11_safeOf_1 : decode cX11_safeOf 1 = .ok (.istore_n 3, 1) := by decide +kernel
theorem dX11_safeOf_2 : decode cX11_safeOf 2 = .ok (.iconst 0, 1) := by decide +kernel
theorem dX11_safeOf_3 : decode cX11_safeOf 3 = .ok (.istore 4, 2) := by decide +kernel
theorem dX11_safeOf_5 : decode cX11_safeOf 5 = .ok (.iload 4, 2) := by decide +kernel
theorem dX11_safeOf_7 : decode cX11_safeOf 7 = .ok (.iconst 1, 1) := by decide +kernel
theorem dX11_safeOf_8 : decode cX11_safeOf 8 = .ok (.aload_n 0, 1) := by decide +kernel
theorem dX11_safeOf_9 : decode cX11_safeOf 9 = .ok (.getfield 95, 3) := by decide +kernel
theorem dX11_safeOf_12 : decode cX11_safeOf 12 = .ok (.ishl, 1) := by decide +kernel
theorem dX11_safeOf_13 : decode cX11_safeOf 13 = .ok (.if_icmp .ge 45, 3) := by decide +kernel
theorem dX11_safeOf_16 : decode cX11_safeOf 16 = .ok (.iload 4, 2) := by decide +kernel
theorem dX11_safeOf_18 : decode cX11_safeOf 18 = .ok (.invokestatic 224, 3) := by decide +kernel
theorem dX11_safeOf_21 : decode cX11_safeOf 21 = .ok (.iload_n 1, 1) := by decide +kernel
theorem dX11_safeOf_22 : decode cX11_safeOf 22 = .ok (.if_icmp .ne 30, 3) := by decide +kernel
theorem dX11_safeOf_25 : decode cX11_safeOf 25 = .ok (.iload_n 2, 1) := by decide +kernel
theorem dX11_safeOf_26 : decode cX11_safeOf 26 = .ok (.ifCond .ne 23, 3) := by decide +kernel
theorem dX11_safeOf_29 : decode cX11_safeOf 29 = .ok (.aload_n 0, 1) := by decide +kernel
theorem dX11_safeOf_30 : decode cX11_safeOf 30 = .ok (.aload_n 0, 1) := by decide +kernel
theorem dX11_safeOf_31 : decode cX11_safeOf 31 = .ok (.invokevirtual 229, 3) := by decide +kernel
theorem dX11_safeOf_34 : decode cX11_safeOf 34 = .ok (.iload 4, 2) := by decide +kernel
theorem dX11_safeOf_36 : decode cX11_safeOf 36 = .ok (.iconst (-1), 1) := by decide +kernel
theorem dX11_safeOf_37 : decode cX11_safeOf 37 = .ok (.ixor, 1) := by decide +kernel
theorem dX11_safeOf_38 : decode cX11_safeOf 38 = .ok (.iand, 1) := by decide +kernel
theorem dX11_safeOf_39 : decode cX11_safeOf 39 = .ok (.aload_n 0, 1) := by decide +kernel
theorem dX11_safeOf_40 : decode cX11_safeOf 40 = .ok (.invokevirtual 232, 3) := by decide +kernel
theorem dX11_safeOf_43 : decode cX11_safeOf 43 = .ok (.invokevirtual 221, 3) := by decide +kernel
theorem dX11_safeOf_46 : decode cX11_safeOf 46 = .ok (.ifCond .eq 6, 3) := by decide +kernel
theorem dX11_safeOf_49 : decode cX11_safeOf 49 = .ok (.iinc 3 1, 3) := by decide +kernel
theorem dX11_safeOf_52 : decode cX11_safeOf 52 = .ok (.iinc 4 1, 3) := by decide +kernel
theorem dX11_safeOf_55 : decode cX11_safeOf 55 = .ok (.goto (-50), 3) := by decide +kernel
theorem dX11_safeOf_58 : decode cX11_safeOf 58 = .ok (.iload_n 3, 1) := by decide +kernel
theorem dX11_safeOf_59 : decode cX11_safeOf 59 = .ok (.ireturn, 1) := by decide +kernel
theorem dX11_distance_0 : decode cX11_distance 0 = .ok (.aload_n 0, 1) := by decide +kernel
theorem dX11_distance_1 : decode cX11_distance 1 = .ok (.getfield 134, 3) := by decide +kernel
theorem dX11_distance_4 : decode cX11_distance 4 = .ok (.ifCond .ne 6, 3) := by decide +kernel
theorem dX11_distance_7 : decode cX11_distance 7 = .ok (.bipush (-5), 2) := by decide +kernel
theorem dX11_distance_9 : decode cX11_distance 9 = .ok (.ireturn, 1) := by decide +kernel
theorem dX11_distance_10 : decode cX11_distance 10 = .ok (.iconst 0, 1) := by decide +kernel
theorem dX11_distance_11 : decode cX11_distance 11 = .ok (.istore_n 1, 1) := by decide +kernel
theorem dX11_distance_12 : decode cX11_distance 12 = .ok (.aload_n 0, 1) := by decide +kernel
theorem dX11_distance_13 : decode cX11_distance 13 = .ok (.iload_n 1, 1) := by decide +kernel
theorem dX11_distance_14 : decode cX11_distance 14 = .ok (.iconst 0, 1) := by decide +kernel
theorem dX11_distance_15 : decode cX11_distance 15 = .ok (.invokevirtual 235, 3) := by decide +kernel
theorem dX11_distance_18 : decode cX11_distance 18 = .ok (.aload_n 0, 1) := by decide +kernel
theorem dX11_distance_19 : decode cX11_distance 19 = .ok (.iload_n 1, 1) := by decide +kernel
theorem dX11_distance_20 : decode cX11_distance 20 = .ok (.iconst 1, 1) := by decide +kernel
theorem dX11_distance_21 : decode cX11_distance 21 = .ok (.invokevirtual 235, 3) := by decide +kernel
theorem dX11_distance_24 : decode cX11_distance 24 = .ok (.if_icmp .ne 9, 3) := by decide +kernel
theorem dX11_distance_27 : decode cX11_distance 27 = .ok (.iinc 1 1, 3) := by decide +kernel
theorem dX11_distance_30 : decode cX11_distance 30 = .ok (.goto (-18), 3) := by decide +kernel
theorem dX11_distance_33 : decode cX11_distance 33 = .ok (.iload_n 1, 1) := by decide +kernel
theorem dX11_distance_34 : decode cX11_distance 34 = .ok (.ireturn, 1) := by decide +kernel
theorem dX11_told_0 : decode cX11_told 0 = .ok (.iload_n 1, 1) := by decide +kernel
theorem dX11_told_1 : decode cX11_told 1 = .ok (.tableswitch 105 0 6 #[43, 48, 53, 65, 70, 79, 100], 43) := by decide +kernel
theorem dX11_told_44 : decode cX11_told 44 = .ok (.aload_n 0, 1) := by decide +kernel
theorem dX11_told_45 : decode cX11_told 45 = .ok (.getfield 111, 3) := by decide +kernel
theorem dX11_told_48 : decode cX11_told 48 = .ok (.ireturn, 1) := by decide +kernel
theorem dX11_told_49 : decode cX11_told 49 = .ok (.aload_n 0, 1) := by decide +kernel
theorem dX11_told_50 : decode cX11_told 50 = .ok (.getfield 114, 3) := by decide +kernel
theorem dX11_told_53 : decode cX11_told 53 = .ok (.ireturn, 1) := by decide +kernel
theorem dX11_told_54 : decode cX11_told 54 = .ok (.aload_n 0, 1) := by decide +kernel
theorem dX11_told_55 : decode cX11_told 55 = .ok (.invokevirtual 229, 3) := by decide +kernel
theorem dX11_told_58 : decode cX11_told 58 = .ok (.aload_n 0, 1) := by decide +kernel
theorem dX11_told_59 : decode cX11_told 59 = .ok (.invokevirtual 218, 3) := by decide +kernel
theorem dX11_told_62 : decode cX11_told 62 = .ok (.iconst (-1), 1) := by decide +kernel
theorem dX11_told_63 : decode cX11_told 63 = .ok (.ixor, 1) := by decide +kernel
theorem dX11_told_64 : decode cX11_told 64 = .ok (.iand, 1) := by decide +kernel
theorem dX11_told_65 : decode cX11_told 65 = .ok (.ireturn, 1) := by decide +kernel
theorem dX11_told_66 : decode cX11_told 66 = .ok (.aload_n 0, 1) := by decide +kernel
theorem dX11_told_67 : decode cX11_told 67 = .ok (.invokevirtual 239, 3) := by decide +kernel
theorem dX11_told_70 : decode cX11_told 70 = .ok (.ireturn, 1) := by decide +kernel
theorem dX11_told_71 : decode cX11_told 71 = .ok (.aload_n 0, 1) := by decide +kernel
theorem dX11_told_72 : decode cX11_told 72 = .ok (.aload_n 0, 1) := by decide +kernel
theorem dX11_told_73 : decode cX11_told 73 = .ok (.invokevirtual 218, 3) := by decide +kernel
theorem dX11_told_76 : decode cX11_told 76 = .ok (.invokevirtual 215, 3) := by decide +kernel
theorem dX11_told_79 : decode cX11_told 79 = .ok (.ireturn, 1) := by decide +kernel
theorem dX11_told_80 : decode cX11_told 80 = .ok (.aload_n 0, 1) := by decide +kernel
theorem dX11_told_81 : decode cX11_told 81 = .ok (.aload_n 0, 1) := by decide +kernel
theorem dX11_told_82 : decode cX11_told 82 = .ok (.invokevirtual 218, 3) := by decide +kernel
theorem dX11_told_85 : decode cX11_told 85 = .ok (.aload_n 0, 1) := by decide +kernel
theorem dX11_told_86 : decode cX11_told 86 = .ok (.invokevirtual 232, 3) := by decide +kernel
theorem dX11_told_89 : decode cX11_told 89 = .ok (.invokevirtual 221, 3) := by decide +kernel
theorem dX11_told_92 : decode cX11_told 92 = .ok (.ifCond .eq 7, 3) := by decide +kernel
theorem dX11_told_95 : decode cX11_told 95 = .ok (.iconst 1, 1) := by decide +kernel
theorem dX11_told_96 : decode cX11_told 96 = .ok (.goto 4, 3) := by decide +kernel
theorem dX11_told_99 : decode cX11_told 99 = .ok (.iconst 0, 1) := by decide +kernel
theorem dX11_told_100 : decode cX11_told 100 = .ok (.ireturn, 1) := by decide +kernel
theorem dX11_told_101 : decode cX11_told 101 = .ok (.aload_n 0, 1) := by decide +kernel
theorem dX11_told_102 : decode cX11_told 102 = .ok (.invokevirtual 242, 3) := by decide +kernel
theorem dX11_told_105 : decode cX11_told 105 = .ok (.ireturn, 1) := by decide +kernel
theorem dX11_told_106 : decode cX11_told 106 = .ok (.iconst (-1), 1) := by decide +kernel
theorem dX11_told_107 : decode cX11_told 107 = .ok (.ireturn, 1) := by decide +kernel
theorem dX11_rank_0 : decode cX11_rank 0 = .ok (.iload_n 1, 1) := by decide +kernel
theorem dX11_rank_1 : decode cX11_rank 1 = .ok (.iconst 0, 1) := by decide +kernel
theorem dX11_rank_2 : decode cX11_rank 2 = .ok (.aload_n 0, 1) := by decide +kernel
theorem dX11_rank_3 : decode cX11_rank 3 = .ok (.invokevirtual 229, 3) := by decide +kernel
theorem dX11_rank_6 : decode cX11_rank 6 = .ok (.invokestatic 99, 3) := by decide +kernel
theorem dX11_rank_9 : decode cX11_rank 9 = .ok (.ifCond .eq 11, 3) := by decide +kernel
theorem dX11_rank_12 : decode cX11_rank 12 = .ok (.aload_n 0, 1) := by decide +kernel
theorem dX11_rank_13 : decode cX11_rank 13 = .ok (.iload_n 1, 1) := by decide +kernel
theorem dX11_rank_14 : decode cX11_rank 14 = .ok (.invokevirtual 215, 3) := by decide +kernel
theorem dX11_rank_17 : decode cX11_rank 17 = .ok (.goto 4, 3) := by decide +kernel
theorem dX11_rank_20 : decode cX11_rank 20 = .ok (.iconst (-1), 1) := by decide +kernel
theorem dX11_rank_21 : decode cX11_rank 21 = .ok (.ireturn, 1) := by decide +kernel
theorem dX11_safe_0 : decode cX11_safe 0 = .ok (.iload_n 1, 1) := by decide +kernel
theorem dX11_safe_1 : decode cX11_safe 1 = .ok (.iconst 0, 1) := by decide +kernel
theorem dX11_safe_2 : decode cX11_safe 2 = .ok (.bipush 10, 2) := by decide +kernel
theorem dX11_safe_4 : decode cX11_safe 4 = .ok (.invokestatic 99, 3) := by decide +kernel
theorem dX11_safe_7 : decode cX11_safe 7 = .ok (.ifCond .eq 12, 3) := by decide +kernel
theorem dX11_safe_10 : decode cX11_safe 10 = .ok (.aload_n 0, 1) := by decide +kernel
theorem dX11_safe_11 : decode cX11_safe 11 = .ok (.iload_n 1, 1) := by decide +kernel
theorem dX11_safe_12 : decode cX11_safe 12 = .ok (.iconst 0, 1) := by decide +kernel
theorem dX11_safe_13 : decode cX11_safe 13 = .ok (.invokevirtual 235, 3) := by decide +kernel
theorem dX11_safe_16 : decode cX11_safe 16 = .ok (.goto 5, 3) := by decide +kernel
theorem dX11_safe_19 : decode cX11_safe 19 = .ok (.bipush (-2), 2) := by decide +kernel
theorem dX11_safe_21 : decode cX11_safe 21 = .ok (.ireturn, 1) := by decide +kernel
theorem dX11_best_0 : decode cX11_best 0 = .ok (.aload_n 0, 1) := by decide +kernel
theorem dX11_best_1 : decode cX11_best 1 = .ok (.iload_n 1, 1) := by decide +kernel
theorem dX11_best_2 : decode cX11_best 2 = .ok (.invokevirtual 169, 3) := by decide +kernel
theorem dX11_best_5 : decode cX11_best 5 = .ok (.ifCond .eq 23, 3) := by decide +kernel
theorem dX11_best_8 : decode cX11_best 8 = .ok (.aload_n 0, 1) := by decide +kernel
theorem dX11_best_9 : decode cX11_best 9 = .ok (.getfield 27, 3) := by decide +kernel
theorem dX11_best_12 : decode cX11_best 12 = .ok (.iload_n 1, 1) := by decide +kernel
theorem dX11_best_13 : decode cX11_best 13 = .ok (.iaload, 1) := by decide +kernel
theorem dX11_best_14 : decode cX11_best 14 = .ok (.bipush (-5), 2) := by decide +kernel
theorem dX11_best_16 : decode cX11_best 16 = .ok (.if_icmp .ne 12, 3) := by decide +kernel
theorem dX11_best_19 : decode cX11_best 19 = .ok (.iload_n 2, 1) := by decide +kernel
theorem dX11_best_20 : decode cX11_best 20 = .ok (.iconst 0, 1) := by decide +kernel
theorem dX11_best_21 : decode cX11_best 21 = .ok (.iconst 4, 1) := by decide +kernel
theorem dX11_best_22 : decode cX11_best 22 = .ok (.invokestatic 99, 3) := by decide +kernel
theorem dX11_best_25 : decode cX11_best 25 = .ok (.ifCond .ne 5, 3) := by decide +kernel
theorem dX11_best_28 : decode cX11_best 28 = .ok (.iconst (-1), 1) := by decide +kernel
theorem dX11_best_29 : decode cX11_best 29 = .ok (.ireturn, 1) := by decide +kernel
theorem dX11_best_30 : decode cX11_best 30 = .ok (.iload_n 3, 1) := by decide +kernel
theorem dX11_best_31 : decode cX11_best 31 = .ok (.iconst 0, 1) := by decide +kernel
theorem dX11_best_32 : decode cX11_best 32 = .ok (.bipush 10, 2) := by decide +kernel
theorem dX11_best_34 : decode cX11_best 34 = .ok (.invokestatic 99, 3) := by decide +kernel
theorem dX11_best_37 : decode cX11_best 37 = .ok (.ifCond .ne 6, 3) := by decide +kernel
theorem dX11_best_40 : decode cX11_best 40 = .ok (.bipush (-2), 2) := by decide +kernel
theorem dX11_best_42 : decode cX11_best 42 = .ok (.ireturn, 1) := by decide +kernel
theorem dX11_best_43 : decode cX11_best 43 = .ok (.iconst 5, 1) := by decide +kernel
theorem dX11_best_44 : decode cX11_best 44 = .ok (.iload_n 1, 1) := by decide +kernel
theorem dX11_best_45 : decode cX11_best 45 = .ok (.imul, 1) := by decide +kernel
theorem dX11_best_46 : decode cX11_best 46 = .ok (.iload_n 2, 1) := by decide +kernel
theorem dX11_best_47 : decode cX11_best 47 = .ok (.iadd, 1) := by decide +kernel
theorem dX11_best_48 : decode cX11_best 48 = .ok (.istore 4, 2) := by decide +kernel
theorem dX11_best_50 : decode cX11_best 50 = .ok (.aload_n 0, 1) := by decide +kernel
theorem dX11_best_51 : decode cX11_best 51 = .ok (.getfield 36, 3) := by decide +kernel
theorem dX11_best_54 : decode cX11_best 54 = .ok (.iload 4, 2) := by decide +kernel
theorem dX11_best_56 : decode cX11_best 56 = .ok (.iaload, 1) := by decide +kernel
theorem dX11_best_57 : decode cX11_best 57 = .ok (.istore 5, 2) := by decide +kernel
theorem dX11_best_59 : decode cX11_best 59 = .ok (.iconst 0, 1) := by decide +kernel
theorem dX11_best_60 : decode cX11_best 60 = .ok (.istore 6, 2) := by decide +kernel
theorem dX11_best_62 : decode cX11_best 62 = .ok (.iconst (-1), 1) := by decide +kernel
theorem dX11_best_63 : decode cX11_best 63 = .ok (.istore 7, 2) := by decide +kernel
theorem dX11_best_65 : decode cX11_best 65 = .ok (.iconst 0, 1) := by decide +kernel
theorem dX11_best_66 : decode cX11_best 66 = .ok (.istore 8, 2) := by decide +kernel
theorem dX11_best_68 : decode cX11_best 68 = .ok (.iload 8, 2) := by decide +kernel
theorem dX11_best_70 : decode cX11_best 70 = .ok (.bipush 16, 2) := by decide +kernel
theorem dX11_best_72 : decode cX11_best 72 = .ok (.if_icmp .ge 44, 3) := by decide +kernel
theorem dX11_best_75 : decode cX11_best 75 = .ok (.aload_n 0, 1) := by decide +kernel
theorem dX11_best_76 : decode cX11_best 76 = .ok (.getfield 36, 3) := by decide +kernel
theorem dX11_best_79 : decode cX11_best 79 = .ok (.iload 4, 2) := by decide +kernel
theorem dX11_best_81 : decode cX11_best 81 = .ok (.iload 8, 2) := by decide +kernel
theorem dX11_best_83 : decode cX11_best 83 = .ok (.iastore, 1) := by decide +kernel
theorem dX11_best_84 : decode cX11_best 84 = .ok (.aload_n 0, 1) := by decide +kernel
theorem dX11_best_85 : decode cX11_best 85 = .ok (.iload_n 3, 1) := by decide +kernel
theorem dX11_best_86 : decode cX11_best 86 = .ok (.iconst 0, 1) := by decide +kernel
theorem dX11_best_87 : decode cX11_best 87 = .ok (.invokevirtual 235, 3) := by decide +kernel
theorem dX11_best_90 : decode cX11_best 90 = .ok (.istore 9, 2) := by decide +kernel
theorem dX11_best_92 : decode cX11_best 92 = .ok (.iload 9, 2) := by decide +kernel
theorem dX11_best_94 : decode cX11_best 94 = .ok (.iload 7, 2) := by decide +kernel
theorem dX11_best_96 : decode cX11_best 96 = .ok (.if_icmp .gt 6, 3) := by decide +kernel
theorem dX11_best_99 : decode cX11_best 99 = .ok (.goto 11, 3) := by decide +kernel
theorem dX11_best_102 : decode cX11_best 102 = .ok (.iload 9, 2) := by decide +kernel
theorem dX11_best_104 : decode cX11_best 104 = .ok (.istore 7, 2) := by decide +kernel
theorem dX11_best_106 : decode cX11_best 106 = .ok (.iload 8, 2) := by decide +kernel
theorem dX11_best_108 : decode cX11_best 108 = .ok (.istore 6, 2) := by decide +kernel
theorem dX11_best_110 : decode cX11_best 110 = .ok (.iinc 8 1, 3) := by decide +kernel
theorem dX11_best_113 : decode cX11_best 113 = .ok (.goto (-45), 3) := by decide +kernel
theorem dX11_best_116 : decode cX11_best 116 = .ok (.aload_n 0, 1) := by decide +kernel
theorem dX11_best_117 : decode cX11_best 117 = .ok (.getfield 36, 3) := by decide +kernel
theorem dX11_best_120 : decode cX11_best 120 = .ok (.iload 4, 2) := by decide +kernel
theorem dX11_best_122 : decode cX11_best 122 = .ok (.iload 5, 2) := by decide +kernel
theorem dX11_best_124 : decode cX11_best 124 = .ok (.iastore, 1) := by decide +kernel
theorem dX11_best_125 : decode cX11_best 125 = .ok (.iload 6, 2) := by decide +kernel
theorem dX11_best_127 : decode cX11_best 127 = .ok (.ireturn, 1) := by decide +kernel
theorem dX11_see_0 : decode cX11_see 0 = .ok (.iload_n 1, 1) := by decide +kernel
theorem dX11_see_1 : decode cX11_see 1 = .ok (.iconst (-1), 1) := by decide +kernel
theorem dX11_see_2 : decode cX11_see 2 = .ok (.if_icmp .ne 10, 3) := by decide +kernel
theorem dX11_see_5 : decode cX11_see 5 = .ok (.aload_n 0, 1) := by decide +kernel
theorem dX11_see_6 : decode cX11_see 6 = .ok (.iconst 0, 1) := by decide +kernel
theorem dX11_see_7 : decode cX11_see 7 = .ok (.putfield 245, 3) := by decide +kernel
theorem dX11_see_10 : decode cX11_see 10 = .ok (.iconst 0, 1) := by decide +kernel
theorem dX11_see_11 : decode cX11_see 11 = .ok (.ireturn, 1) := by decide +kernel
theorem dX11_see_12 : decode cX11_see 12 = .ok (.aload_n 0, 1) := by decide +kernel
theorem dX11_see_13 : decode cX11_see 13 = .ok (.iload_n 1, 1) := by decide +kernel
theorem dX11_see_14 : decode cX11_see 14 = .ok (.invokevirtual 169, 3) := by decide +kernel
theorem dX11_see_17 : decode cX11_see 17 = .ok (.ifCond .ne 5, 3) := by decide +kernel
theorem dX11_see_20 : decode cX11_see 20 = .ok (.iconst (-1), 1) := by decide +kernel
theorem dX11_see_21 : decode cX11_see 21 = .ok (.ireturn, 1) := by decide +kernel
theorem dX11_see_22 : decode cX11_see 22 = .ok (.iload_n 2, 1) := by decide +kernel
theorem dX11_see_23 : decode cX11_see 23 = .ok (.invokestatic 125, 3) := by decide +kernel
theorem dX11_see_26 : decode cX11_see 26 = .ok (.ifCond .ne 6, 3) := by decide +kernel
theorem dX11_see_29 : decode cX11_see 29 = .ok (.bipush (-2), 2) := by decide +kernel
theorem dX11_see_31 : decode cX11_see 31 = .ok (.ireturn, 1) := by decide +kernel
theorem dX11_see_32 : decode cX11_see 32 = .ok (.aload_n 0, 1) := by decide +kernel
theorem dX11_see_33 : decode cX11_see 33 = .ok (.getfield 245, 3) := by decide +kernel
theorem dX11_see_36 : decode cX11_see 36 = .ok (.iconst 5, 1) := by decide +kernel
theorem dX11_see_37 : decode cX11_see 37 = .ok (.if_icmp .ne 6, 3) := by decide +kernel
theorem dX11_see_40 : decode cX11_see 40 = .ok (.bipush (-4), 2) := by decide +kernel
theorem dX11_see_42 : decode cX11_see 42 = .ok (.ireturn, 1) := by decide +kernel
theorem dX11_see_43 : decode cX11_see 43 = .ok (.aload_n 0, 1) := by decide +kernel
theorem dX11_see_44 : decode cX11_see 44 = .ok (.getfield 54, 3) := by decide +kernel
theorem dX11_see_47 : decode cX11_see 47 = .ok (.aload_n 0, 1) := by decide +kernel
theorem dX11_see_48 : decode cX11_see 48 = .ok (.getfield 245, 3) := by decide +kernel
theorem dX11_see_51 : decode cX11_see 51 = .ok (.iload_n 1, 1) := by decide +kernel
theorem dX11_see_52 : decode cX11_see 52 = .ok (.iastore, 1) := by decide +kernel
theorem dX11_see_53 : decode cX11_see 53 = .ok (.aload_n 0, 1) := by decide +kernel
theorem dX11_see_54 : decode cX11_see 54 = .ok (.getfield 57, 3) := by decide +kernel
theorem dX11_see_57 : decode cX11_see 57 = .ok (.aload_n 0, 1) := by decide +kernel
theorem dX11_see_58 : decode cX11_see 58 = .ok (.dup, 1) := by decide +kernel
theorem dX11_see_59 : decode cX11_see 59 = .ok (.getfield 245, 3) := by decide +kernel
theorem dX11_see_62 : decode cX11_see 62 = .ok (.dup_x1, 1) := by decide +kernel
theorem dX11_see_63 : decode cX11_see 63 = .ok (.iconst 1, 1) := by decide +kernel
theorem dX11_see_64 : decode cX11_see 64 = .ok (.iadd, 1) := by decide +kernel
theorem dX11_see_65 : decode cX11_see 65 = .ok (.putfield 245, 3) := by decide +kernel
theorem dX11_see_68 : decode cX11_see 68 = .ok (.iload_n 2, 1) := by decide +kernel
theorem dX11_see_69 : decode cX11_see 69 = .ok (.iastore, 1) := by decide +kernel
theorem dX11_see_70 : decode cX11_see 70 = .ok (.aload_n 0, 1) := by decide +kernel
theorem dX11_see_71 : decode cX11_see 71 = .ok (.getfield 245, 3) := by decide +kernel
theorem dX11_see_74 : decode cX11_see 74 = .ok (.ireturn, 1) := by decide +kernel
theorem dX11_has_0 : decode cX11_has 0 = .ok (.aload_n 0, 1) := by decide +kernel
theorem dX11_has_1 : decode cX11_has 1 = .ok (.iload_n 1, 1) := by decide +kernel
theorem dX11_has_2 : decode cX11_has 2 = .ok (.invokevirtual 209, 3) := by decide +kernel
theorem dX11_has_5 : decode cX11_has 5 = .ok (.aload_n 0, 1) := by decide +kernel
theorem dX11_has_6 : decode cX11_has 6 = .ok (.getfield 134, 3) := by decide +kernel
theorem dX11_has_9 : decode cX11_has 9 = .ok (.istore_n 3, 1) := by decide +kernel
theorem dX11_has_10 : decode cX11_has 10 = .ok (.iload_n 3, 1) := by decide +kernel
theorem dX11_has_11 : decode cX11_has 11 = .ok (.iconst 5, 1) := by decide +kernel
theorem dX11_has_12 : decode cX11_has 12 = .ok (.if_icmp .ge 27, 3) := by decide +kernel
theorem dX11_has_15 : decode cX11_has 15 = .ok (.aload_n 0, 1) := by decide +kernel
theorem dX11_has_16 : decode cX11_has 16 = .ok (.getfield 78, 3) := by decide +kernel
theorem dX11_has_19 : decode cX11_has 19 = .ok (.bipush 6, 2) := by decide +kernel
theorem dX11_has_21 : decode cX11_has 21 = .ok (.aload_n 0, 1) := by decide +kernel
theorem dX11_has_22 : decode cX11_has 22 = .ok (.getfield 202, 3) := by decide +kernel
theorem dX11_has_25 : decode cX11_has 25 = .ok (.imul, 1) := by decide +kernel
theorem dX11_has_26 : decode cX11_has 26 = .ok (.bipush 6, 2) := by decide +kernel
theorem dX11_has_28 : decode cX11_has 28 = .ok (.isub, 1) := by decide +kernel
theorem dX11_has_29 : decode cX11_has 29 = .ok (.iload_n 3, 1) := by decide +kernel
theorem dX11_has_30 : decode cX11_has 30 = .ok (.iadd, 1) := by decide +kernel
theorem dX11_has_31 : decode cX11_has 31 = .ok (.iconst 0, 1) := by decide +kernel
theorem dX11_has_32 : decode cX11_has 32 = .ok (.iastore, 1) := by decide +kernel
theorem dX11_has_33 : decode cX11_has 33 = .ok (.iinc 3 1, 3) := by decide +kernel
theorem dX11_has_36 : decode cX11_has 36 = .ok (.goto (-26), 3) := by decide +kernel
theorem dX11_has_39 : decode cX11_has 39 = .ok (.aload_n 0, 1) := by decide +kernel
theorem dX11_has_40 : decode cX11_has 40 = .ok (.getfield 78, 3) := by decide +kernel
theorem dX11_has_43 : decode cX11_has 43 = .ok (.bipush 6, 2) := by decide +kernel
theorem dX11_has_45 : decode cX11_has 45 = .ok (.aload_n 0, 1) := by decide +kernel
theorem dX11_has_46 : decode cX11_has 46 = .ok (.getfield 202, 3) := by decide +kernel
theorem dX11_has_49 : decode cX11_has 49 = .ok (.imul, 1) := by decide +kernel
theorem dX11_has_50 : decode cX11_has 50 = .ok (.iconst 1, 1) := by decide +kernel
theorem dX11_has_51 : decode cX11_has 51 = .ok (.isub, 1) := by decide +kernel
theorem dX11_has_52 : decode cX11_has 52 = .ok (.iload_n 2, 1) := by decide +kernel
theorem dX11_has_53 : decode cX11_has 53 = .ok (.iastore, 1) := by decide +kernel
theorem dX11_has_54 : decode cX11_has 54 = .ok (.return_, 1) := by decide +kernel
theorem dX11_sees_0 : decode cX11_sees 0 = .ok (.aload_n 0, 1) := by decide +kernel
theorem dX11_sees_1 : decode cX11_sees 1 = .ok (.iconst 0, 1) := by decide +kernel
theorem dX11_sees_2 : decode cX11_sees 2 = .ok (.putfield 202, 3) := by decide +kernel
theorem dX11_sees_5 : decode cX11_sees 5 = .ok (.iconst 0, 1) := by decide +kernel
theorem dX11_sees_6 : decode cX11_sees 6 = .ok (.istore_n 1, 1) := by decide +kernel
theorem dX11_sees_7 : decode cX11_sees 7 = .ok (.iload_n 1, 1) := by decide +kernel
theorem dX11_sees_8 : decode cX11_sees 8 = .ok (.aload_n 0, 1) := by decide +kernel
theorem dX11_sees_9 : decode cX11_sees 9 = .ok (.getfield 245, 3) := by decide +kernel
theorem dX11_sees_12 : decode cX11_sees 12 = .ok (.if_icmp .ge 25, 3) := by decide +kernel
theorem dX11_sees_15 : decode cX11_sees 15 = .ok (.aload_n 0, 1) := by decide +kernel
theorem dX11_sees_16 : decode cX11_sees 16 = .ok (.aload_n 0, 1) := by decide +kernel
theorem dX11_sees_17 : decode cX11_sees 17 = .ok (.getfield 54, 3) := by decide +kernel
theorem dX11_sees_20 : decode cX11_sees 20 = .ok (.iload_n 1, 1) := by decide +kernel
theorem dX11_sees_21 : decode cX11_sees 21 = .ok (.iaload, 1) := by decide +kernel
theorem dX11_sees_22 : decode cX11_sees 22 = .ok (.aload_n 0, 1) := by decide +kernel
theorem dX11_sees_23 : decode cX11_sees 23 = .ok (.getfield 57, 3) := by decide +kernel
theorem dX11_sees_26 : decode cX11_sees 26 = .ok (.iload_n 1, 1) := by decide +kernel
theorem dX11_sees_27 : decode cX11_sees 27 = .ok (.iaload, 1) := by decide +kernel
theorem dX11_sees_28 : decode cX11_sees 28 = .ok (.invokevirtual 248, 3) := by decide +kernel
theorem dX11_sees_31 : decode cX11_sees 31 = .ok (.iinc 1 1, 3) := by decide +kernel
theorem dX11_sees_34 : decode cX11_sees 34 = .ok (.goto (-27), 3) := by decide +kernel
theorem dX11_sees_37 : decode cX11_sees 37 = .ok (.return_, 1) := by decide +kernel
theorem dX11_solves_0 : decode cX11_solves 0 = .ok (.aload_n 0, 1) := by decide +kernel
theorem dX11_solves_1 : decode cX11_solves 1 = .ok (.invokevirtual 212, 3) := by decide +kernel
theorem dX11_solves_4 : decode cX11_solves 4 = .ok (.istore_n 1, 1) := by decide +kernel
theorem dX11_solves_5 : decode cX11_solves 5 = .ok (.iload_n 1, 1) := by decide +kernel
theorem dX11_solves_6 : decode cX11_solves 6 = .ok (.istore_n 2, 1) := by decide +kernel
theorem dX11_solves_7 : decode cX11_solves 7 = .ok (.iload_n 2, 1) := by decide +kernel
theorem dX11_solves_8 : decode cX11_solves 8 = .ok (.aload_n 0, 1) := by decide +kernel
theorem dX11_solves_9 : decode cX11_solves 9 = .ok (.getfield 202, 3) := by decide +kernel
theorem dX11_solves_12 : decode cX11_solves 12 = .ok (.if_icmp .ge 25, 3) := by decide +kernel
theorem dX11_solves_15 : decode cX11_solves 15 = .ok (.aload_n 0, 1) := by decide +kernel
theorem dX11_solves_16 : decode cX11_solves 16 = .ok (.getfield 78, 3) := by decide +kernel
theorem dX11_solves_19 : decode cX11_solves 19 = .ok (.bipush 6, 2) := by decide +kernel
theorem dX11_solves_21 : decode cX11_solves 21 = .ok (.iload_n 2, 1) := by decide +kernel
theorem dX11_solves_22 : decode cX11_solves 22 = .ok (.imul, 1) := by decide +kernel
theorem dX11_solves_23 : decode cX11_solves 23 = .ok (.iconst 5, 1) := by decide +kernel
theorem dX11_solves_24 : decode cX11_solves 24 = .ok (.iadd, 1) := by decide +kernel
theorem dX11_solves_25 : decode cX11_solves 25 = .ok (.iaload, 1) := by decide +kernel
theorem dX11_solves_26 : decode cX11_solves 26 = .ok (.ifCond .eq 5, 3) := by decide +kernel
theorem dX11_solves_29 : decode cX11_solves 29 = .ok (.iconst (-1), 1) := by decide +kernel
theorem dX11_solves_30 : decode cX11_solves 30 = .ok (.ireturn, 1) := by decide +kernel
theorem dX11_solves_31 : decode cX11_solves 31 = .ok (.iinc 2 1, 3) := by decide +kernel
theorem dX11_solves_34 : decode cX11_solves 34 = .ok (.goto (-27), 3) := by decide +kernel
theorem dX11_solves_37 : decode cX11_solves 37 = .ok (.iload_n 1, 1) := by decide +kernel
theorem dX11_solves_38 : decode cX11_solves 38 = .ok (.ireturn, 1) := by decide +kernel
theorem dX11_least_0 : decode cX11_least 0 = .ok (.lconst 0, 1) := by decide +kernel
theorem dX11_least_1 : decode cX11_least 1 = .ok (.lstore_n 1, 1) := by decide +kernel
theorem dX11_least_2 : decode cX11_least 2 = .ok (.iconst 0, 1) := by decide +kernel
theorem dX11_least_3 : decode cX11_least 3 = .ok (.istore_n 3, 1) := by decide +kernel
theorem dX11_least_4 : decode cX11_least 4 = .ok (.iload_n 3, 1) := by decide +kernel
theorem dX11_least_5 : decode cX11_least 5 = .ok (.aload_n 0, 1) := by decide +kernel
theorem dX11_least_6 : decode cX11_least 6 = .ok (.getfield 134, 3) := by decide +kernel
theorem dX11_least_9 : decode cX11_least 9 = .ok (.if_icmp .ge 123, 3) := by decide +kernel
theorem dX11_least_12 : decode cX11_least 12 = .ok (.iconst (-1), 1) := by decide +kernel
theorem dX11_least_13 : decode cX11_least 13 = .ok (.istore 4, 2) := by decide +kernel
theorem dX11_least_15 : decode cX11_least 15 = .ok (.iconst 0, 1) := by decide +kernel
theorem dX11_least_16 : decode cX11_least 16 = .ok (.istore 5, 2) := by decide +kernel
theorem dX11_least_18 : decode cX11_least 18 = .ok (.iload 5, 2) := by decide +kernel
theorem dX11_least_20 : decode cX11_least 20 = .ok (.bipush 16, 2) := by decide +kernel
theorem dX11_least_22 : decode cX11_least 22 = .ok (.if_icmp .ge 84, 3) := by decide +kernel
theorem dX11_least_25 : decode cX11_least 25 = .ok (.iload 4, 2) := by decide +kernel
theorem dX11_least_27 : decode cX11_least 27 = .ok (.iconst (-1), 1) := by decide +kernel
theorem dX11_least_28 : decode cX11_least 28 = .ok (.if_icmp .ne 78, 3) := by decide +kernel
theorem dX11_least_31 : decode cX11_least 31 = .ok (.aload_n 0, 1) := by decide +kernel
theorem dX11_least_32 : decode cX11_least 32 = .ok (.invokevirtual 252, 3) := by decide +kernel
theorem dX11_least_35 : decode cX11_least 35 = .ok (.iconst 0, 1) := by decide +kernel
theorem dX11_least_36 : decode cX11_least 36 = .ok (.istore 6, 2) := by decide +kernel
theorem dX11_least_38 : decode cX11_least 38 = .ok (.iload 6, 2) := by decide +kernel
theorem dX11_least_40 : decode cX11_least 40 = .ok (.iload_n 3, 1) := by decide +kernel
theorem dX11_least_41 : decode cX11_least 41 = .ok (.if_icmp .ge 35, 3) := by decide +kernel
theorem dX11_least_44 : decode cX11_least 44 = .ok (.aload_n 0, 1) := by decide +kernel
theorem dX11_least_45 : decode cX11_least 45 = .ok (.aload_n 0, 1) := by decide +kernel
theorem dX11_least_46 : decode cX11_least 46 = .ok (.getfield 45, 3) := by decide +kernel
theorem dX11_least_49 : decode cX11_least 49 = .ok (.iload 6, 2) := by decide +kernel
theorem dX11_least_51 : decode cX11_least 51 = .ok (.iaload, 1) := by decide +kernel
theorem dX11_least_52 : decode cX11_least 52 = .ok (.lload_n 1, 1) := by decide +kernel
theorem dX11_least_53 : decode cX11_least 53 = .ok (.iconst 4, 1) := by decide +kernel
theorem dX11_least_54 : decode cX11_least 54 = .ok (.iload_n 3, 1) := by decide +kernel
theorem dX11_least_55 : decode cX11_least 55 = .ok (.iconst 1, 1) := by decide +kernel
theorem dX11_least_56 : decode cX11_least 56 = .ok (.isub, 1) := by decide +kernel
theorem dX11_least_57 : decode cX11_least 57 = .ok (.iload 6, 2) := by decide +kernel
theorem dX11_least_59 : decode cX11_least 59 = .ok (.isub, 1) := by decide +kernel
theorem dX11_least_60 : decode cX11_least 60 = .ok (.imul, 1) := by decide +kernel
theorem dX11_least_61 : decode cX11_least 61 = .ok (.lshr, 1) := by decide +kernel
theorem dX11_least_62 : decode cX11_least 62 = .ok (.ldc2_w 255, 3) := by decide +kernel
theorem dX11_least_65 : decode cX11_least 65 = .ok (.land, 1) := by decide +kernel
theorem dX11_least_66 : decode cX11_least 66 = .ok (.l2i, 1) := by decide +kernel
theorem dX11_least_67 : decode cX11_least 67 = .ok (.invokevirtual 248, 3) := by decide +kernel
theorem dX11_least_70 : decode cX11_least 70 = .ok (.iinc 6 1, 3) := by decide +kernel
theorem dX11_least_73 : decode cX11_least 73 = .ok (.goto (-35), 3) := by decide +kernel
theorem dX11_least_76 : decode cX11_least 76 = .ok (.aload_n 0, 1) := by decide +kernel
theorem dX11_least_77 : decode cX11_least 77 = .ok (.aload_n 0, 1) := by decide +kernel
theorem dX11_least_78 : decode cX11_least 78 = .ok (.getfield 45, 3) := by decide +kernel
theorem dX11_least_81 : decode cX11_least 81 = .ok (.iload_n 3, 1) := by decide +kernel
theorem dX11_least_82 : decode cX11_least 82 = .ok (.iaload, 1) := by decide +kernel
theorem dX11_least_83 : decode cX11_least 83 = .ok (.iload 5, 2) := by decide +kernel
theorem dX11_least_85 : decode cX11_least 85 = .ok (.invokevirtual 248, 3) := by decide +kernel
theorem dX11_least_88 : decode cX11_least 88 = .ok (.aload_n 0, 1) := by decide +kernel
theorem dX11_least_89 : decode cX11_least 89 = .ok (.invokevirtual 257, 3) := by decide +kernel
theorem dX11_least_92 : decode cX11_least 92 = .ok (.iconst (-1), 1) := by decide +kernel
theorem dX11_least_93 : decode cX11_least 93 = .ok (.if_icmp .eq 7, 3) := by decide +kernel
theorem dX11_least_96 : decode cX11_least 96 = .ok (.iload 5, 2) := by decide +kernel
theorem dX11_least_98 : decode cX11_least 98 = .ok (.istore 4, 2) := by decide +kernel
theorem dX11_least_100 : decode cX11_least 100 = .ok (.iinc 5 1, 3) := by decide +kernel
theorem dX11_least_103 : decode cX11_least 103 = .ok (.goto (-85), 3) := by decide +kernel
theorem dX11_least_106 : decode cX11_least 106 = .ok (.iload 4, 2) := by decide +kernel
theorem dX11_least_108 : decode cX11_least 108 = .ok (.iconst (-1), 1) := by decide +kernel
theorem dX11_least_109 : decode cX11_least 109 = .ok (.if_icmp .ne 7, 3) := by decide +kernel
theorem dX11_least_112 : decode cX11_least 112 = .ok (.ldc2_w 260, 3) := by decide +kernel
theorem dX11_least_115 : decode cX11_least 115 = .ok (.lreturn, 1) := by decide +kernel
theorem dX11_least_116 : decode cX11_least 116 = .ok (.ldc2_w 262, 3) := by decide +kernel
theorem dX11_least_119 : decode cX11_least 119 = .ok (.lload_n 1, 1) := by decide +kernel
theorem dX11_least_120 : decode cX11_least 120 = .ok (.lmul, 1) := by decide +kernel
theorem dX11_least_121 : decode cX11_least 121 = .ok (.iload 4, 2) := by decide +kernel
theorem dX11_least_123 : decode cX11_least 123 = .ok (.i2l, 1) := by decide +kernel
theorem dX11_least_124 : decode cX11_least 124 = .ok (.ladd, 1) := by decide +kernel
theorem dX11_least_125 : decode cX11_least 125 = .ok (.lstore_n 1, 1) := by decide +kernel
theorem dX11_least_126 : decode cX11_least 126 = .ok (.iinc 3 1, 3) := by decide +kernel
theorem dX11_least_129 : decode cX11_least 129 = .ok (.goto (-125), 3) := by decide +kernel
theorem dX11_least_132 : decode cX11_least 132 = .ok (.lload_n 1, 1) := by decide +kernel
theorem dX11_least_133 : decode cX11_least 133 = .ok (.lreturn, 1) := by decide +kernel
theorem dX11_ways_0 : decode cX11_ways 0 = .ok (.iload_n 1, 1) := by decide +kernel
theorem dX11_ways_1 : decode cX11_ways 1 = .ok (.iconst 0, 1) := by decide +kernel
theorem dX11_ways_2 : decode cX11_ways 2 = .ok (.iconst 1, 1) := by decide +kernel
theorem dX11_ways_3 : decode cX11_ways 3 = .ok (.invokestatic 99, 3) := by decide +kernel
theorem dX11_ways_6 : decode cX11_ways 6 = .ok (.ifCond .ne 7, 3) := by decide +kernel
theorem dX11_ways_9 : decode cX11_ways 9 = .ok (.ldc2_w 260, 3) := by decide +kernel
theorem dX11_ways_12 : decode cX11_ways 12 = .ok (.lreturn, 1) := by decide +kernel
theorem dX11_ways_13 : decode cX11_ways 13 = .ok (.aload_n 0, 1) := by decide +kernel
theorem dX11_ways_14 : decode cX11_ways 14 = .ok (.invokevirtual 252, 3) := by decide +kernel
theorem dX11_ways_17 : decode cX11_ways 17 = .ok (.aload_n 0, 1) := by decide +kernel
theorem dX11_ways_18 : decode cX11_ways 18 = .ok (.invokevirtual 257, 3) := by decide +kernel
theorem dX11_ways_21 : decode cX11_ways 21 = .ok (.istore_n 2, 1) := by decide +kernel
theorem dX11_ways_22 : decode cX11_ways 22 = .ok (.iload_n 2, 1) := by decide +kernel
theorem dX11_ways_23 : decode cX11_ways 23 = .ok (.iconst (-1), 1) := by decide +kernel
theorem dX11_ways_24 : decode cX11_ways 24 = .ok (.if_icmp .ne 15, 3) := by decide +kernel
theorem dX11_ways_27 : decode cX11_ways 27 = .ok (.iload_n 1, 1) := by decide +kernel
theorem dX11_ways_28 : decode cX11_ways 28 = .ok (.ifCond .ne 7, 3) := by decide +kernel
theorem dX11_ways_31 : decode cX11_ways 31 = .ok (.lconst 0, 1) := by decide +kernel
theorem dX11_ways_32 : decode cX11_ways 32 = .ok (.goto 6, 3) := by decide +kernel
theorem dX11_ways_35 : decode cX11_ways 35 = .ok (.ldc2_w 260, 3) := by decide +kernel
theorem dX11_ways_38 : decode cX11_ways 38 = .ok (.lreturn, 1) := by decide +kernel
theorem dX11_ways_39 : decode cX11_ways 39 = .ok (.iload_n 1, 1) := by decide +kernel
theorem dX11_ways_40 : decode cX11_ways 40 = .ok (.ifCond .ne 16, 3) := by decide +kernel
theorem dX11_ways_43 : decode cX11_ways 43 = .ok (.lconst 1, 1) := by decide +kernel
theorem dX11_ways_44 : decode cX11_ways 44 = .ok (.iconst 4, 1) := by decide +kernel
theorem dX11_ways_45 : decode cX11_ways 45 = .ok (.aload_n 0, 1) := by decide +kernel
theorem dX11_ways_46 : decode cX11_ways 46 = .ok (.getfield 134, 3) := by decide +kernel
theorem dX11_ways_49 : decode cX11_ways 49 = .ok (.iload_n 2, 1) := by decide +kernel
theorem dX11_ways_50 : decode cX11_ways 50 = .ok (.isub, 1) := by decide +kernel
theorem dX11_ways_51 : decode cX11_ways 51 = .ok (.imul, 1) := by decide +kernel
theorem dX11_ways_52 : decode cX11_ways 52 = .ok (.lshl, 1) := by decide +kernel
theorem dX11_ways_53 : decode cX11_ways 53 = .ok (.goto 7, 3) := by decide +kernel
theorem dX11_ways_56 : decode cX11_ways 56 = .ok (.aload_n 0, 1) := by decide +kernel
theorem dX11_ways_57 : decode cX11_ways 57 = .ok (.invokevirtual 264, 3) := by decide +kernel
theorem dX11_ways_60 : decode cX11_ways 60 = .ok (.lreturn, 1) := by decide +kernel
theorem dX11_can_0 : decode cX11_can 0 = .ok (.aload_n 0, 1) := by decide +kernel
theorem dX11_can_1 : decode cX11_can 1 = .ok (.iload_n 1, 1) := by decide +kernel
theorem dX11_can_2 : decode cX11_can 2 = .ok (.invokevirtual 169, 3) := by decide +kernel
theorem dX11_can_5 : decode cX11_can 5 = .ok (.ifCond .ne 5, 3) := by decide +kernel
theorem dX11_can_8 : decode cX11_can 8 = .ok (.iconst (-1), 1) := by decide +kernel
theorem dX11_can_9 : decode cX11_can 9 = .ok (.ireturn, 1) := by decide +kernel
theorem dX11_can_10 : decode cX11_can 10 = .ok (.iconst 0, 1) := by decide +kernel
theorem dX11_can_11 : decode cX11_can 11 = .ok (.istore_n 2, 1) := by decide +kernel
theorem dX11_can_12 : decode cX11_can 12 = .ok (.iconst 0, 1) := by decide +kernel
theorem dX11_can_13 : decode cX11_can 13 = .ok (.istore_n 3, 1) := by decide +kernel
theorem dX11_can_14 : decode cX11_can 14 = .ok (.iload_n 3, 1) := by decide +kernel
theorem dX11_can_15 : decode cX11_can 15 = .ok (.bipush 16, 2) := by decide +kernel
theorem dX11_can_17 : decode cX11_can 17 = .ok (.if_icmp .ge 33, 3) := by decide +kernel
theorem dX11_can_20 : decode cX11_can 20 = .ok (.aload_n 0, 1) := by decide +kernel
theorem dX11_can_21 : decode cX11_can 21 = .ok (.invokevirtual 252, 3) := by decide +kernel
theorem dX11_can_24 : decode cX11_can 24 = .ok (.aload_n 0, 1) := by decide +kernel
theorem dX11_can_25 : decode cX11_can 25 = .ok (.iload_n 1, 1) := by decide +kernel
theorem dX11_can_26 : decode cX11_can 26 = .ok (.iload_n 3, 1) := by decide +kernel
theorem dX11_can_27 : decode cX11_can 27 = .ok (.invokevirtual 248, 3) := by decide +kernel
theorem dX11_can_30 : decode cX11_can 30 = .ok (.aload_n 0, 1) := by decide +kernel
theorem dX11_can_31 : decode cX11_can 31 = .ok (.invokevirtual 257, 3) := by decide +kernel
theorem dX11_can_34 : decode cX11_can 34 = .ok (.iconst (-1), 1) := by decide +kernel
theorem dX11_can_35 : decode cX11_can 35 = .ok (.if_icmp .eq 9, 3) := by decide +kernel
theorem dX11_can_38 : decode cX11_can 38 = .ok (.iload_n 2, 1) := by decide +kernel
theorem dX11_can_39 : decode cX11_can 39 = .ok (.iconst 1, 1) := by decide +kernel
theorem dX11_can_40 : decode cX11_can 40 = .ok (.iload_n 3, 1) := by decide +kernel
theorem dX11_can_41 : decode cX11_can 41 = .ok (.ishl, 1) := by decide +kernel
theorem dX11_can_42 : decode cX11_can 42 = .ok (.ior, 1) := by decide +kernel
theorem dX11_can_43 : decode cX11_can 43 = .ok (.istore_n 2, 1) := by decide +kernel
theorem dX11_can_44 : decode cX11_can 44 = .ok (.iinc 3 1, 3) := by decide +kernel
theorem dX11_can_47 : decode cX11_can 47 = .ok (.goto (-33), 3) := by decide +kernel
theorem dX11_can_50 : decode cX11_can 50 = .ok (.iload_n 2, 1) := by decide +kernel
theorem dX11_can_51 : decode cX11_can 51 = .ok (.ireturn, 1) := by decide +kernel
theorem dX11_part_0 : decode cX11_part 0 = .ok (.lload_n 0, 1) := by decide +kernel
theorem dX11_part_1 : decode cX11_part 1 = .ok (.invokestatic 268, 3) := by decide +kernel
theorem dX11_part_4 : decode cX11_part 4 = .ok (.lstore 5, 2) := by decide +kernel
theorem dX11_part_6 : decode cX11_part 6 = .ok (.lload_n 2, 1) := by decide +kernel
theorem dX11_part_7 : decode cX11_part 7 = .ok (.lstore 7, 2) := by decide +kernel
theorem dX11_part_9 : decode cX11_part 9 = .ok (.lload 7, 2) := by decide +kernel
theorem dX11_part_11 : decode cX11_part 11 = .ok (.lconst 0, 1) := by decide +kernel
theorem dX11_part_12 : decode cX11_part 12 = .ok (.lcmp, 1) := by decide +kernel
theorem dX11_part_13 : decode cX11_part 13 = .ok (.ifCond .eq 21, 3) := by decide +kernel
theorem dX11_part_16 : decode cX11_part 16 = .ok (.lload 5, 2) := by decide +kernel
theorem dX11_part_18 : decode cX11_part 18 = .ok (.lload 7, 2) := by decide +kernel
theorem dX11_part_20 : decode cX11_part 20 = .ok (.lrem, 1) := by decide +kernel
theorem dX11_part_21 : decode cX11_part 21 = .ok (.lstore 9, 2) := by decide +kernel
theorem dX11_part_23 : decode cX11_part 23 = .ok (.lload 7, 2) := by decide +kernel
theorem dX11_part_25 : decode cX11_part 25 = .ok (.lstore 5, 2) := by decide +kernel
theorem dX11_part_27 : decode cX11_part 27 = .ok (.lload 9, 2) := by decide +kernel
theorem dX11_part_29 : decode cX11_part 29 = .ok (.lstore 7, 2) := by decide +kernel
theorem dX11_part_31 : decode cX11_part 31 = .ok (.goto (-22), 3) := by decide +kernel
theorem dX11_part_34 : decode cX11_part 34 = .ok (.iload 4, 2) := by decide +kernel
theorem dX11_part_36 : decode cX11_part 36 = .ok (.ifCond .ne 7, 3) := by decide +kernel
theorem dX11_part_39 : decode cX11_part 39 = .ok (.lload_n 0, 1) := by decide +kernel
theorem dX11_part_40 : decode cX11_part 40 = .ok (.goto 4, 3) := by decide +kernel
theorem dX11_part_43 : decode cX11_part 43 = .ok (.lload_n 2, 1) := by decide +kernel
theorem dX11_part_44 : decode cX11_part 44 = .ok (.lload 5, 2) := by decide +kernel
theorem dX11_part_46 : decode cX11_part 46 = .ok (.ldiv, 1) := by decide +kernel
theorem dX11_part_47 : decode cX11_part 47 = .ok (.lreturn, 1) := by decide +kernel
theorem dX11_odds_0 : decode cX11_odds 0 = .ok (.iload_n 1, 1) := by decide +kernel
theorem dX11_odds_1 : decode cX11_odds 1 = .ok (.iconst 0, 1) := by decide +kernel
theorem dX11_odds_2 : decode cX11_odds 2 = .ok (.bipush 10, 2) := by decide +kernel
theorem dX11_odds_4 : decode cX11_odds 4 = .ok (.invokestatic 99, 3) := by decide +kernel
theorem dX11_odds_7 : decode cX11_odds 7 = .ok (.ifCond .eq 21, 3) := by decide +kernel
theorem dX11_odds_10 : decode cX11_odds 10 = .ok (.iload_n 2, 1) := by decide +kernel
theorem dX11_odds_11 : decode cX11_odds 11 = .ok (.iconst 0, 1) := by decide +kernel
theorem dX11_odds_12 : decode cX11_odds 12 = .ok (.iconst 1, 1) := by decide +kernel
theorem dX11_odds_13 : decode cX11_odds 13 = .ok (.invokestatic 99, 3) := by decide +kernel
theorem dX11_odds_16 : decode cX11_odds 16 = .ok (.ifCond .eq 12, 3) := by decide +kernel
theorem dX11_odds_19 : decode cX11_odds 19 = .ok (.aload_n 0, 1) := by decide +kernel
theorem dX11_odds_20 : decode cX11_odds 20 = .ok (.iload_n 1, 1) := by decide +kernel
theorem dX11_odds_21 : decode cX11_odds 21 = .ok (.iconst 1, 1) := by decide +kernel
theorem dX11_odds_22 : decode cX11_odds 22 = .ok (.invokevirtual 235, 3) := by decide +kernel
theorem dX11_odds_25 : decode cX11_odds 25 = .ok (.ifCond .ne 7, 3) := by decide +kernel
theorem dX11_odds_28 : decode cX11_odds 28 = .ok (.ldc2_w 260, 3) := by decide +kernel
theorem dX11_odds_31 : decode cX11_odds 31 = .ok (.lreturn, 1) := by decide +kernel
theorem dX11_odds_32 : decode cX11_odds 32 = .ok (.aload_n 0, 1) := by decide +kernel
theorem dX11_odds_33 : decode cX11_odds 33 = .ok (.iload_n 1, 1) := by decide +kernel
theorem dX11_odds_34 : decode cX11_odds 34 = .ok (.iconst 0, 1) := by decide +kernel
theorem dX11_odds_35 : decode cX11_odds 35 = .ok (.invokevirtual 235, 3) := by decide +kernel
theorem dX11_odds_38 : decode cX11_odds 38 = .ok (.i2l, 1) := by decide +kernel
theorem dX11_odds_39 : decode cX11_odds 39 = .ok (.aload_n 0, 1) := by decide +kernel
theorem dX11_odds_40 : decode cX11_odds 40 = .ok (.iload_n 1, 1) := by decide +kernel
theorem dX11_odds_41 : decode cX11_odds 41 = .ok (.iconst 1, 1) := by decide +kernel
theorem dX11_odds_42 : decode cX11_odds 42 = .ok (.invokevirtual 235, 3) := by decide +kernel
theorem dX11_odds_45 : decode cX11_odds 45 = .ok (.i2l, 1) := by decide +kernel
theorem dX11_odds_46 : decode cX11_odds 46 = .ok (.iload_n 2, 1) := by decide +kernel
theorem dX11_odds_47 : decode cX11_odds 47 = .ok (.invokestatic 272, 3) := by decide +kernel
theorem dX11_odds_50 : decode cX11_odds 50 = .ok (.lreturn, 1) := by decide +kernel
theorem dX11_mean_0 : decode cX11_mean 0 = .ok (.iload_n 1, 1) := by decide +kernel
theorem dX11_mean_1 : decode cX11_mean 1 = .ok (.iconst 0, 1) := by decide +kernel
theorem dX11_mean_2 : decode cX11_mean 2 = .ok (.iconst 1, 1) := by decide +kernel
theorem dX11_mean_3 : decode cX11_mean 3 = .ok (.invokestatic 99, 3) := by decide +kernel
theorem dX11_mean_6 : decode cX11_mean 6 = .ok (.ifCond .ne 7, 3) := by decide +kernel
theorem dX11_mean_9 : decode cX11_mean 9 = .ok (.ldc2_w 260, 3) := by decide +kernel
theorem dX11_mean_12 : decode cX11_mean 12 = .ok (.lreturn, 1) := by decide +kernel
theorem dX11_mean_13 : decode cX11_mean 13 = .ok (.iconst 0, 1) := by decide +kernel
theorem dX11_mean_14 : decode cX11_mean 14 = .ok (.istore_n 2, 1) := by decide +kernel
theorem dX11_mean_15 : decode cX11_mean 15 = .ok (.iconst 0, 1) := by decide +kernel
theorem dX11_mean_16 : decode cX11_mean 16 = .ok (.istore_n 3, 1) := by decide +kernel
theorem dX11_mean_17 : decode cX11_mean 17 = .ok (.iconst 0, 1) := by decide +kernel
theorem dX11_mean_18 : decode cX11_mean 18 = .ok (.istore 4, 2) := by decide +kernel
theorem dX11_mean_20 : decode cX11_mean 20 = .ok (.iload 4, 2) := by decide +kernel
theorem dX11_mean_22 : decode cX11_mean 22 = .ok (.aload_n 0, 1) := by decide +kernel
theorem dX11_mean_23 : decode cX11_mean 23 = .ok (.getfield 95, 3) := by decide +kernel
theorem dX11_mean_26 : decode cX11_mean 26 = .ok (.if_icmp .ge 37, 3) := by decide +kernel
theorem dX11_mean_29 : decode cX11_mean 29 = .ok (.aload_n 0, 1) := by decide +kernel
theorem dX11_mean_30 : decode cX11_mean 30 = .ok (.iload 4, 2) := by decide +kernel
theorem dX11_mean_32 : decode cX11_mean 32 = .ok (.invokevirtual 180, 3) := by decide +kernel
theorem dX11_mean_35 : decode cX11_mean 35 = .ok (.aload_n 0, 1) := by decide +kernel
theorem dX11_mean_36 : decode cX11_mean 36 = .ok (.getfield 190, 3) := by decide +kernel
theorem dX11_mean_39 : decode cX11_mean 39 = .ok (.bipush (-5), 2) := by decide +kernel
theorem dX11_mean_41 : decode cX11_mean 41 = .ok (.if_icmp .ne 6, 3) := by decide +kernel
theorem dX11_mean_44 : decode cX11_mean 44 = .ok (.goto 13, 3) := by decide +kernel
theorem dX11_mean_47 : decode cX11_mean 47 = .ok (.iinc 2 1, 3) := by decide +kernel
theorem dX11_mean_50 : decode cX11_mean 50 = .ok (.iload_n 3, 1) := by decide +kernel
theorem dX11_mean_51 : decode cX11_mean 51 = .ok (.aload_n 0, 1) := by decide +kernel
theorem dX11_mean_52 : decode cX11_mean 52 = .ok (.getfield 193, 3) := by decide +kernel
theorem dX11_mean_55 : decode cX11_mean 55 = .ok (.iadd, 1) := by decide +kernel
theorem dX11_mean_56 : decode cX11_mean 56 = .ok (.istore_n 3, 1) := by decide +kernel
theorem dX11_mean_57 : decode cX11_mean 57 = .ok (.iinc 4 1, 3) := by decide +kernel
theorem dX11_mean_60 : decode cX11_mean 60 = .ok (.goto (-40), 3) := by decide +kernel
theorem dX11_mean_63 : decode cX11_mean 63 = .ok (.iload_n 2, 1) := by decide +kernel
theorem dX11_mean_64 : decode cX11_mean 64 = .ok (.ifCond .ne 9, 3) := by decide +kernel
theorem dX11_mean_67 : decode cX11_mean 67 = .ok (.ldc2_w 260, 3) := by decide +kernel
theorem dX11_mean_70 : decode cX11_mean 70 = .ok (.goto 11, 3) := by decide +kernel
theorem dX11_mean_73 : decode cX11_mean 73 = .ok (.iload_n 3, 1) := by decide +kernel
theorem dX11_mean_74 : decode cX11_mean 74 = .ok (.i2l, 1) := by decide +kernel
theorem dX11_mean_75 : decode cX11_mean 75 = .ok (.iload_n 2, 1) := by decide +kernel
theorem dX11_mean_76 : decode cX11_mean 76 = .ok (.i2l, 1) := by decide +kernel
theorem dX11_mean_77 : decode cX11_mean 77 = .ok (.iload_n 1, 1) := by decide +kernel
theorem dX11_mean_78 : decode cX11_mean 78 = .ok (.invokestatic 272, 3) := by decide +kernel
theorem dX11_mean_81 : decode cX11_mean 81 = .ok (.lreturn, 1) := by decide +kernel
theorem dX11_plan_0 : decode cX11_plan 0 = .ok (.iload_n 1, 1) := by decide +kernel
theorem dX11_plan_1 : decode cX11_plan 1 = .ok (.iconst (-1), 1) := by decide +kernel
theorem dX11_plan_2 : decode cX11_plan 2 = .ok (.if_icmp .ne 10, 3) := by decide +kernel
theorem dX11_plan_5 : decode cX11_plan 5 = .ok (.aload_n 0, 1) := by decide +kernel
theorem dX11_plan_6 : decode cX11_plan 6 = .ok (.iconst 0, 1) := by decide +kernel
theorem dX11_plan_7 : decode cX11_plan 7 = .ok (.putfield 276, 3) := by decide +kernel
theorem dX11_plan_10 : decode cX11_plan 10 = .ok (.iconst 0, 1) := by decide +kernel
theorem dX11_plan_11 : decode cX11_plan 11 = .ok (.ireturn, 1) := by decide +kernel
theorem dX11_plan_12 : decode cX11_plan 12 = .ok (.iload_n 1, 1) := by decide +kernel
theorem dX11_plan_13 : decode cX11_plan 13 = .ok (.iconst 0, 1) := by decide +kernel
theorem dX11_plan_14 : decode cX11_plan 14 = .ok (.iconst 2, 1) := by decide +kernel
theorem dX11_plan_15 : decode cX11_plan 15 = .ok (.invokestatic 99, 3) := by decide +kernel
theorem dX11_plan_18 : decode cX11_plan 18 = .ok (.ifCond .eq 11, 3) := by decide +kernel
theorem dX11_plan_21 : decode cX11_plan 21 = .ok (.aload_n 0, 1) := by decide +kernel
theorem dX11_plan_22 : decode cX11_plan 22 = .ok (.iload_n 2, 1) := by decide +kernel
theorem dX11_plan_23 : decode cX11_plan 23 = .ok (.invokevirtual 169, 3) := by decide +kernel
theorem dX11_plan_26 : decode cX11_plan 26 = .ok (.ifCond .ne 5, 3) := by decide +kernel
theorem dX11_plan_29 : decode cX11_plan 29 = .ok (.iconst (-1), 1) := by decide +kernel
theorem dX11_plan_30 : decode cX11_plan 30 = .ok (.ireturn, 1) := by decide +kernel
theorem dX11_plan_31 : decode cX11_plan 31 = .ok (.aload_n 0, 1) := by decide +kernel
theorem dX11_plan_32 : decode cX11_plan 32 = .ok (.getfield 276, 3) := by decide +kernel
theorem dX11_plan_35 : decode cX11_plan 35 = .ok (.bipush 10, 2) := by decide +kernel
theorem dX11_plan_37 : decode cX11_plan 37 = .ok (.if_icmp .ne 6, 3) := by decide +kernel
theorem dX11_plan_40 : decode cX11_plan 40 = .ok (.bipush (-4), 2) := by decide +kernel
theorem dX11_plan_42 : decode cX11_plan 42 = .ok (.ireturn, 1) := by decide +kernel
theorem dX11_plan_43 : decode cX11_plan 43 = .ok (.aload_n 0, 1) := by decide +kernel
theorem dX11_plan_44 : decode cX11_plan 44 = .ok (.getfield 60, 3) := by decide +kernel
theorem dX11_plan_47 : decode cX11_plan 47 = .ok (.aload_n 0, 1) := by decide +kernel
theorem dX11_plan_48 : decode cX11_plan 48 = .ok (.getfield 276, 3) := by decide +kernel
theorem dX11_plan_51 : decode cX11_plan 51 = .ok (.iload_n 1, 1) := by decide +kernel
theorem dX11_plan_52 : decode cX11_plan 52 = .ok (.iastore, 1) := by decide +kernel
theorem dX11_plan_53 : decode cX11_plan 53 = .ok (.aload_n 0, 1) := by decide +kernel
theorem dX11_plan_54 : decode cX11_plan 54 = .ok (.getfield 63, 3) := by decide +kernel
theorem dX11_plan_57 : decode cX11_plan 57 = .ok (.aload_n 0, 1) := by decide +kernel
theorem dX11_plan_58 : decode cX11_plan 58 = .ok (.dup, 1) := by decide +kernel
theorem dX11_plan_59 : decode cX11_plan 59 = .ok (.getfield 276, 3) := by decide +kernel
theorem dX11_plan_62 : decode cX11_plan 62 = .ok (.dup_x1, 1) := by decide +kernel
theorem dX11_plan_63 : decode cX11_plan 63 = .ok (.iconst 1, 1) := by decide +kernel
theorem dX11_plan_64 : decode cX11_plan 64 = .ok (.iadd, 1) := by decide +kernel
theorem dX11_plan_65 : decode cX11_plan 65 = .ok (.putfield 276, 3) := by decide +kernel
theorem dX11_plan_68 : decode cX11_plan 68 = .ok (.iload_n 2, 1) := by decide +kernel
theorem dX11_plan_69 : decode cX11_plan 69 = .ok (.iastore, 1) := by decide +kernel
theorem dX11_plan_70 : decode cX11_plan 70 = .ok (.aload_n 0, 1) := by decide +kernel
theorem dX11_plan_71 : decode cX11_plan 71 = .ok (.getfield 276, 3) := by decide +kernel
theorem dX11_plan_74 : decode cX11_plan 74 = .ok (.ireturn, 1) := by decide +kernel
theorem dX11_ends_0 : decode cX11_ends 0 = .ok (.iload_n 1, 1) := by decide +kernel
theorem dX11_ends_1 : decode cX11_ends 1 = .ok (.iconst 0, 1) := by decide +kernel
theorem dX11_ends_2 : decode cX11_ends 2 = .ok (.iconst 1, 1) := by decide +kernel
theorem dX11_ends_3 : decode cX11_ends 3 = .ok (.invokestatic 99, 3) := by decide +kernel
theorem dX11_ends_6 : decode cX11_ends 6 = .ok (.ifCond .ne 5, 3) := by decide +kernel
theorem dX11_ends_9 : decode cX11_ends 9 = .ok (.iconst (-1), 1) := by decide +kernel
theorem dX11_ends_10 : decode cX11_ends 10 = .ok (.ireturn, 1) := by decide +kernel
theorem dX11_ends_11 : decode cX11_ends 11 = .ok (.aload_n 0, 1) := by decide +kernel
theorem dX11_ends_12 : decode cX11_ends 12 = .ok (.aload_n 0, 1) := by decide +kernel
theorem dX11_ends_13 : decode cX11_ends 13 = .ok (.getfield 75, 3) := by decide +kernel
theorem dX11_ends_16 : decode cX11_ends 16 = .ok (.invokevirtual 279, 3) := by decide +kernel
theorem dX11_ends_19 : decode cX11_ends 19 = .ok (.iconst 0, 1) := by decide +kernel
theorem dX11_ends_20 : decode cX11_ends 20 = .ok (.istore_n 2, 1) := by decide +kernel
theorem dX11_ends_21 : decode cX11_ends 21 = .ok (.iconst 0, 1) := by decide +kernel
theorem dX11_ends_22 : decode cX11_ends 22 = .ok (.istore_n 3, 1) := by decide +kernel
theorem dX11_ends_23 : decode cX11_ends 23 = .ok (.iload_n 3, 1) := by decide +kernel
theorem dX11_ends_24 : decode cX11_ends 24 = .ok (.aload_n 0, 1) := by decide +kernel
theorem dX11_ends_25 : decode cX11_ends 25 = .ok (.getfield 276, 3) := by decide +kernel
theorem dX11_ends_28 : decode cX11_ends 28 = .ok (.if_icmp .ge 74, 3) := by decide +kernel
theorem dX11_ends_31 : decode cX11_ends 31 = .ok (.aload_n 0, 1) := by decide +kernel
theorem dX11_ends_32 : decode cX11_ends 32 = .ok (.getfield 63, 3) := by decide +kernel
theorem dX11_ends_35 : decode cX11_ends 35 = .ok (.iload_n 3, 1) := by decide +kernel
theorem dX11_ends_36 : decode cX11_ends 36 = .ok (.iaload, 1) := by decide +kernel
theorem dX11_ends_37 : decode cX11_ends 37 = .ok (.istore 4, 2) := by decide +kernel
theorem dX11_ends_39 : decode cX11_ends 39 = .ok (.aload_n 0, 1) := by decide +kernel
theorem dX11_ends_40 : decode cX11_ends 40 = .ok (.getfield 60, 3) := by decide +kernel
theorem dX11_ends_43 : decode cX11_ends 43 = .ok (.iload_n 3, 1) := by decide +kernel
theorem dX11_ends_44 : decode cX11_ends 44 = .ok (.iaload, 1) := by decide +kernel
theorem dX11_ends_45 : decode cX11_ends 45 = .ok (.ifCond .ne 14, 3) := by decide +kernel
theorem dX11_ends_48 : decode cX11_ends 48 = .ok (.aload_n 0, 1) := by decide +kernel
theorem dX11_ends_49 : decode cX11_ends 49 = .ok (.getfield 33, 3) := by decide +kernel
theorem dX11_ends_52 : decode cX11_ends 52 = .ok (.iload 4, 2) := by decide +kernel
theorem dX11_ends_54 : decode cX11_ends 54 = .ok (.iconst 1, 1) := by decide +kernel
theorem dX11_ends_55 : decode cX11_ends 55 = .ok (.iastore, 1) := by decide +kernel
theorem dX11_ends_56 : decode cX11_ends 56 = .ok (.goto 40, 3) := by decide +kernel
theorem dX11_ends_59 : decode cX11_ends 59 = .ok (.aload_n 0, 1) := by decide +kernel
theorem dX11_ends_60 : decode cX11_ends 60 = .ok (.getfield 60, 3) := by decide +kernel
theorem dX11_ends_63 : decode cX11_ends 63 = .ok (.iload_n 3, 1) := by decide +kernel
theorem dX11_ends_64 : decode cX11_ends 64 = .ok (.iaload, 1) := by decide +kernel
theorem dX11_ends_65 : decode cX11_ends 65 = .ok (.iconst 2, 1) := by decide +kernel
theorem dX11_ends_66 : decode cX11_ends 66 = .ok (.if_icmp .ne 14, 3) := by decide +kernel
theorem dX11_ends_69 : decode cX11_ends 69 = .ok (.aload_n 0, 1) := by decide +kernel
theorem dX11_ends_70 : decode cX11_ends 70 = .ok (.getfield 24, 3) := by decide +kernel
theorem dX11_ends_73 : decode cX11_ends 73 = .ok (.iload 4, 2) := by decide +kernel
theorem dX11_ends_75 : decode cX11_ends 75 = .ok (.iconst 0, 1) := by decide +kernel
theorem dX11_ends_76 : decode cX11_ends 76 = .ok (.iastore, 1) := by decide +kernel
theorem dX11_ends_77 : decode cX11_ends 77 = .ok (.goto 19, 3) := by decide +kernel
theorem dX11_ends_80 : decode cX11_ends 80 = .ok (.aload_n 0, 1) := by decide +kernel
theorem dX11_ends_81 : decode cX11_ends 81 = .ok (.iload 4, 2) := by decide +kernel
theorem dX11_ends_83 : decode cX11_ends 83 = .ok (.invokevirtual 199, 3) := by decide +kernel
theorem dX11_ends_86 : decode cX11_ends 86 = .ok (.ifCond .eq 10, 3) := by decide +kernel
theorem dX11_ends_89 : decode cX11_ends 89 = .ok (.iload_n 2, 1) := by decide +kernel
theorem dX11_ends_90 : decode cX11_ends 90 = .ok (.aload_n 0, 1) := by decide +kernel
theorem dX11_ends_91 : decode cX11_ends 91 = .ok (.getfield 193, 3) := by decide +kernel
theorem dX11_ends_94 : decode cX11_ends 94 = .ok (.iadd, 1) := by decide +kernel
theorem dX11_ends_95 : decode cX11_ends 95 = .ok (.istore_n 2, 1) := by decide +kernel
theorem dX11_ends_96 : decode cX11_ends 96 = .ok (.iinc 3 1, 3) := by decide +kernel
theorem dX11_ends_99 : decode cX11_ends 99 = .ok (.goto (-76), 3) := by decide +kernel
theorem dX11_ends_102 : decode cX11_ends 102 = .ok (.iload_n 1, 1) := by decide +kernel
theorem dX11_ends_103 : decode cX11_ends 103 = .ok (.ifCond .ne 17, 3) := by decide +kernel
theorem dX11_ends_106 : decode cX11_ends 106 = .ok (.aload_n 0, 1) := by decide +kernel
theorem dX11_ends_107 : decode cX11_ends 107 = .ok (.invokevirtual 229, 3) := by decide +kernel
theorem dX11_ends_110 : decode cX11_ends 110 = .ok (.aload_n 0, 1) := by decide +kernel
theorem dX11_ends_111 : decode cX11_ends 111 = .ok (.invokevirtual 218, 3) := by decide +kernel
theorem dX11_ends_114 : decode cX11_ends 114 = .ok (.iconst (-1), 1) := by decide +kernel
theorem dX11_ends_115 : decode cX11_ends 115 = .ok (.ixor, 1) := by decide +kernel
theorem dX11_ends_116 : decode cX11_ends 116 = .ok (.iand, 1) := by decide +kernel
theorem dX11_ends_117 : decode cX11_ends 117 = .ok (.goto 4, 3) := by decide +kernel
theorem dX11_ends_120 : decode cX11_ends 120 = .ok (.iload_n 2, 1) := by decide +kernel
theorem dX11_ends_121 : decode cX11_ends 121 = .ok (.istore_n 3, 1) := by decide +kernel
theorem dX11_ends_122 : decode cX11_ends 122 = .ok (.aload_n 0, 1) := by decide +kernel
theorem dX11_ends_123 : decode cX11_ends 123 = .ok (.aload_n 0, 1) := by decide +kernel
theorem dX11_ends_124 : decode cX11_ends 124 = .ok (.getfield 75, 3) := by decide +kernel
theorem dX11_ends_127 : decode cX11_ends 127 = .ok (.invokevirtual 283, 3) := by decide +kernel
theorem dX11_ends_130 : decode cX11_ends 130 = .ok (.iload_n 3, 1) := by decide +kernel
theorem dX11_ends_131 : decode cX11_ends 131 = .ok (.ireturn, 1) := by decide +kernel
theorem dX11_book_0 : decode cX11_book 0 = .ok (.iload_n 1, 1) := by decide +kernel
theorem dX11_book_1 : decode cX11_book 1 = .ok (.iconst (-1), 1) := by decide +kernel
theorem dX11_book_2 : decode cX11_book 2 = .ok (.if_icmp .ne 10, 3) := by decide +kernel
theorem dX11_book_5 : decode cX11_book 5 = .ok (.aload_n 0, 1) := by decide +kernel
theorem dX11_book_6 : decode cX11_book 6 = .ok (.iconst 0, 1) := by decide +kernel
theorem dX11_book_7 : decode cX11_book 7 = .ok (.putfield 286, 3) := by decide +kernel
theorem dX11_book_10 : decode cX11_book 10 = .ok (.iconst 0, 1) := by decide +kernel
theorem dX11_book_11 : decode cX11_book 11 = .ok (.ireturn, 1) := by decide +kernel
theorem dX11_book_12 : decode cX11_book 12 = .ok (.aload_n 0, 1) := by decide +kernel
theorem dX11_book_13 : decode cX11_book 13 = .ok (.iload_n 1, 1) := by decide +kernel
theorem dX11_book_14 : decode cX11_book 14 = .ok (.invokevirtual 169, 3) := by decide +kernel
theorem dX11_book_17 : decode cX11_book 17 = .ok (.ifCond .ne 5, 3) := by decide +kernel
theorem dX11_book_20 : decode cX11_book 20 = .ok (.iconst (-1), 1) := by decide +kernel
theorem dX11_book_21 : decode cX11_book 21 = .ok (.ireturn, 1) := by decide +kernel
theorem dX11_book_22 : decode cX11_book 22 = .ok (.iload_n 2, 1) := by decide +kernel
theorem dX11_book_23 : decode cX11_book 23 = .ok (.invokestatic 125, 3) := by decide +kernel
theorem dX11_book_26 : decode cX11_book 26 = .ok (.ifCond .ne 6, 3) := by decide +kernel
theorem dX11_book_29 : decode cX11_book 29 = .ok (.bipush (-2), 2) := by decide +kernel
theorem dX11_book_31 : decode cX11_book 31 = .ok (.ireturn, 1) := by decide +kernel
theorem dX11_book_32 : decode cX11_book 32 = .ok (.aload_n 0, 1) := by decide +kernel
theorem dX11_book_33 : decode cX11_book 33 = .ok (.getfield 286, 3) := by decide +kernel
theorem dX11_book_36 : decode cX11_book 36 = .ok (.bipush 8, 2) := by decide +kernel
theorem dX11_book_38 : decode cX11_book 38 = .ok (.if_icmp .ne 6, 3) := by decide +kernel
theorem dX11_book_41 : decode cX11_book 41 = .ok (.bipush (-4), 2) := by decide +kernel
theorem dX11_book_43 : decode cX11_book 43 = .ok (.ireturn, 1) := by decide +kernel
theorem dX11_book_44 : decode cX11_book 44 = .ok (.aload_n 0, 1) := by decide +kernel
theorem dX11_book_45 : decode cX11_book 45 = .ok (.getfield 66, 3) := by decide +kernel
theorem dX11_book_48 : decode cX11_book 48 = .ok (.aload_n 0, 1) := by decide +kernel
theorem dX11_book_49 : decode cX11_book 49 = .ok (.getfield 286, 3) := by decide +kernel
theorem dX11_book_52 : decode cX11_book 52 = .ok (.iload_n 1, 1) := by decide +kernel
theorem dX11_book_53 : decode cX11_book 53 = .ok (.iastore, 1) := by decide +kernel
theorem dX11_book_54 : decode cX11_book 54 = .ok (.aload_n 0, 1) := by decide +kernel
theorem dX11_book_55 : decode cX11_book 55 = .ok (.getfield 69, 3) := by decide +kernel
theorem dX11_book_58 : decode cX11_book 58 = .ok (.aload_n 0, 1) := by decide +kernel
theorem dX11_book_59 : decode cX11_book 59 = .ok (.dup, 1) := by decide +kernel
theorem dX11_book_60 : decode cX11_book 60 = .ok (.getfield 286, 3) := by decide +kernel
theorem dX11_book_63 : decode cX11_book 63 = .ok (.dup_x1, 1) := by decide +kernel
theorem dX11_book_64 : decode cX11_book 64 = .ok (.iconst 1, 1) := by decide +kernel
theorem dX11_book_65 : decode cX11_book 65 = .ok (.iadd, 1) := by decide +kernel
theorem dX11_book_66 : decode cX11_book 66 = .ok (.putfield 286, 3) := by decide +kernel
theorem dX11_book_69 : decode cX11_book 69 = .ok (.iload_n 2, 1) := by decide +kernel
theorem dX11_book_70 : decode cX11_book 70 = .ok (.iastore, 1) := by decide +kernel
theorem dX11_book_71 : decode cX11_book 71 = .ok (.aload_n 0, 1) := by decide +kernel
theorem dX11_book_72 : decode cX11_book 72 = .ok (.getfield 286, 3) := by decide +kernel
theorem dX11_book_75 : decode cX11_book 75 = .ok (.ireturn, 1) := by decide +kernel
theorem dX11_looked_0 : decode cX11_looked 0 = .ok (.iconst 0, 1) := by decide +kernel
theorem dX11_looked_1 : decode cX11_looked 1 = .ok (.istore_n 1, 1) := by decide +kernel
theorem dX11_looked_2 : decode cX11_looked 2 = .ok (.iload_n 1, 1) := by decide +kernel
theorem dX11_looked_3 : decode cX11_looked 3 = .ok (.aload_n 0, 1) := by decide +kernel
theorem dX11_looked_4 : decode cX11_looked 4 = .ok (.getfield 286, 3) := by decide +kernel
theorem dX11_looked_7 : decode cX11_looked 7 = .ok (.if_icmp .ge 45, 3) := by decide +kernel
theorem dX11_looked_10 : decode cX11_looked 10 = .ok (.aload_n 0, 1) := by decide +kernel
theorem dX11_looked_11 : decode cX11_looked 11 = .ok (.getfield 33, 3) := by decide +kernel
theorem dX11_looked_14 : decode cX11_looked 14 = .ok (.aload_n 0, 1) := by decide +kernel
theorem dX11_looked_15 : decode cX11_looked 15 = .ok (.getfield 66, 3) := by decide +kernel
theorem dX11_looked_18 : decode cX11_looked 18 = .ok (.iload_n 1, 1) := by decide +kernel
theorem dX11_looked_19 : decode cX11_looked 19 = .ok (.iaload, 1) := by decide +kernel
theorem dX11_looked_20 : decode cX11_looked 20 = .ok (.iaload, 1) := by decide +kernel
theorem dX11_looked_21 : decode cX11_looked 21 = .ok (.iconst 1, 1) := by decide +kernel
theorem dX11_looked_22 : decode cX11_looked 22 = .ok (.if_icmp .eq 22, 3) := by decide +kernel
theorem dX11_looked_25 : decode cX11_looked 25 = .ok (.aload_n 0, 1) := by decide +kernel
theorem dX11_looked_26 : decode cX11_looked 26 = .ok (.aload_n 0, 1) := by decide +kernel
theorem dX11_looked_27 : decode cX11_looked 27 = .ok (.getfield 66, 3) := by decide +kernel
theorem dX11_looked_30 : decode cX11_looked 30 = .ok (.iload_n 1, 1) := by decide +kernel
theorem dX11_looked_31 : decode cX11_looked 31 = .ok (.iaload, 1) := by decide +kernel
theorem dX11_looked_32 : decode cX11_looked 32 = .ok (.invokevirtual 187, 3) := by decide +kernel
theorem dX11_looked_35 : decode cX11_looked 35 = .ok (.aload_n 0, 1) := by decide +kernel
theorem dX11_looked_36 : decode cX11_looked 36 = .ok (.getfield 69, 3) := by decide +kernel
theorem dX11_looked_39 : decode cX11_looked 39 = .ok (.iload_n 1, 1) := by decide +kernel
theorem dX11_looked_40 : decode cX11_looked 40 = .ok (.iaload, 1) := by decide +kernel
theorem dX11_looked_41 : decode cX11_looked 41 = .ok (.if_icmp .eq 5, 3) := by decide +kernel
theorem dX11_looked_44 : decode cX11_looked 44 = .ok (.iload_n 1, 1) := by decide +kernel
theorem dX11_looked_45 : decode cX11_looked 45 = .ok (.ireturn, 1) := by decide +kernel
theorem dX11_looked_46 : decode cX11_looked 46 = .ok (.iinc 1 1, 3) := by decide +kernel
theorem dX11_looked_49 : decode cX11_looked 49 = .ok (.goto (-47), 3) := by decide +kernel
theorem dX11_looked_52 : decode cX11_looked 52 = .ok (.bipush (-5), 2) := by decide +kernel
theorem dX11_looked_54 : decode cX11_looked 54 = .ok (.ireturn, 1) := by decide +kernel
theorem dX11_judge_0 : decode cX11_judge 0 = .ok (.iload_n 1, 1) := by decide +kernel
theorem dX11_judge_1 : decode cX11_judge 1 = .ok (.iconst 0, 1) := by decide +kernel
theorem dX11_judge_2 : decode cX11_judge 2 = .ok (.iconst 5, 1) := by decide +kernel
theorem dX11_judge_3 : decode cX11_judge 3 = .ok (.invokestatic 99, 3) := by decide +kernel
theorem dX11_judge_6 : decode cX11_judge 6 = .ok (.ifCond .ne 5, 3) := by decide +kernel
theorem dX11_judge_9 : decode cX11_judge 9 = .ok (.iconst (-1), 1) := by decide +kernel
theorem dX11_judge_10 : decode cX11_judge 10 = .ok (.ireturn, 1) := by decide +kernel
theorem dX11_judge_11 : decode cX11_judge 11 = .ok (.aload_n 0, 1) := by decide +kernel
theorem dX11_judge_12 : decode cX11_judge 12 = .ok (.getfield 81, 3) := by decide +kernel
theorem dX11_judge_15 : decode cX11_judge 15 = .ok (.iload_n 1, 1) := by decide +kernel
theorem dX11_judge_16 : decode cX11_judge 16 = .ok (.iaload, 1) := by decide +kernel
theorem dX11_judge_17 : decode cX11_judge 17 = .ok (.iconst (-1), 1) := by decide +kernel
theorem dX11_judge_18 : decode cX11_judge 18 = .ok (.if_icmp .eq 15, 3) := by decide +kernel
theorem dX11_judge_21 : decode cX11_judge 21 = .ok (.aload_n 0, 1) := by decide +kernel
theorem dX11_judge_22 : decode cX11_judge 22 = .ok (.getfield 81, 3) := by decide +kernel
theorem dX11_judge_25 : decode cX11_judge 25 = .ok (.iload_n 1, 1) := by decide +kernel
theorem dX11_judge_26 : decode cX11_judge 26 = .ok (.iaload, 1) := by decide +kernel
theorem dX11_judge_27 : decode cX11_judge 27 = .ok (.ifCond .eq 6, 3) := by decide +kernel
theorem dX11_judge_30 : decode cX11_judge 30 = .ok (.bipush (-12), 2) := by decide +kernel
theorem dX11_judge_32 : decode cX11_judge 32 = .ok (.ireturn, 1) := by decide +kernel
theorem dX11_judge_33 : decode cX11_judge 33 = .ok (.iconst 0, 1) := by decide +kernel
theorem dX11_judge_34 : decode cX11_judge 34 = .ok (.istore_n 3, 1) := by decide +kernel
theorem dX11_judge_35 : decode cX11_judge 35 = .ok (.iload_n 3, 1) := by decide +kernel
theorem dX11_judge_36 : decode cX11_judge 36 = .ok (.aload_n 0, 1) := by decide +kernel
theorem dX11_judge_37 : decode cX11_judge 37 = .ok (.getfield 95, 3) := by decide +kernel
theorem dX11_judge_40 : decode cX11_judge 40 = .ok (.if_icmp .ge 83, 3) := by decide +kernel
theorem dX11_judge_43 : decode cX11_judge 43 = .ok (.aload_n 0, 1) := by decide +kernel
theorem dX11_judge_44 : decode cX11_judge 44 = .ok (.getfield 81, 3) := by decide +kernel
theorem dX11_judge_47 : decode cX11_judge 47 = .ok (.iload_n 1, 1) := by decide +kernel
theorem dX11_judge_48 : decode cX11_judge 48 = .ok (.iaload, 1) := by decide +kernel
theorem dX11_judge_49 : decode cX11_judge 49 = .ok (.iconst (-1), 1) := by decide +kernel
theorem dX11_judge_50 : decode cX11_judge 50 = .ok (.if_icmp .eq 23, 3) := by decide +kernel
theorem dX11_judge_53 : decode cX11_judge 53 = .ok (.iload_n 2, 1) := by decide +kernel
theorem dX11_judge_54 : decode cX11_judge 54 = .ok (.ifCond .lt 19, 3) := by decide +kernel
theorem dX11_judge_57 : decode cX11_judge 57 = .ok (.iload_n 2, 1) := by decide +kernel
theorem dX11_judge_58 : decode cX11_judge 58 = .ok (.i2l, 1) := by decide +kernel
theorem dX11_judge_59 : decode cX11_judge 59 = .ok (.iload_n 3, 1) := by decide +kernel
theorem dX11_judge_60 : decode cX11_judge 60 = .ok (.i2l, 1) := by decide +kernel
theorem dX11_judge_61 : decode cX11_judge 61 = .ok (.ladd, 1) := by decide +kernel
theorem dX11_judge_62 : decode cX11_judge 62 = .ok (.aload_n 0, 1) := by decide +kernel
theorem dX11_judge_63 : decode cX11_judge 63 = .ok (.getfield 84, 3) := by decide +kernel
theorem dX11_judge_66 : decode cX11_judge 66 = .ok (.iload_n 1, 1) := by decide +kernel
theorem dX11_judge_67 : decode cX11_judge 67 = .ok (.iaload, 1) := by decide +kernel
theorem dX11_judge_68 : decode cX11_judge 68 = .ok (.i2l, 1) := by decide +kernel
theorem dX11_judge_69 : decode cX11_judge 69 = .ok (.lcmp, 1) := by decide +kernel
theorem dX11_judge_70 : decode cX11_judge 70 = .ok (.ifCond .lt 8, 3) := by decide +kernel
theorem dX11_judge_73 : decode cX11_judge 73 = .ok (.bipush 100, 2) := by decide +kernel
theorem dX11_judge_75 : decode cX11_judge 75 = .ok (.iload_n 3, 1) := by decide +kernel
theorem dX11_judge_76 : decode cX11_judge 76 = .ok (.iadd, 1) := by decide +kernel
theorem dX11_judge_77 : decode cX11_judge 77 = .ok (.ireturn, 1) := by decide +kernel
theorem dX11_judge_78 : decode cX11_judge 78 = .ok (.aload_n 0, 1) := by decide +kernel
theorem dX11_judge_79 : decode cX11_judge 79 = .ok (.getfield 87, 3) := by decide +kernel
theorem dX11_judge_82 : decode cX11_judge 82 = .ok (.bipush 60, 2) := by decide +kernel
theorem dX11_judge_84 : decode cX11_judge 84 = .ok (.iload_n 1, 1) := by decide +kernel
theorem dX11_judge_85 : decode cX11_judge 85 = .ok (.imul, 1) := by decide +kernel
theorem dX11_judge_86 : decode cX11_judge 86 = .ok (.iload_n 2, 1) := by decide +kernel
theorem dX11_judge_87 : decode cX11_judge 87 = .ok (.iadd, 1) := by decide +kernel
theorem dX11_judge_88 : decode cX11_judge 88 = .ok (.iload_n 3, 1) := by decide +kernel
theorem dX11_judge_89 : decode cX11_judge 89 = .ok (.iadd, 1) := by decide +kernel
theorem dX11_judge_90 : decode cX11_judge 90 = .ok (.laload, 1) := by decide +kernel
theorem dX11_judge_91 : decode cX11_judge 91 = .ok (.aload_n 0, 1) := by decide +kernel
theorem dX11_judge_92 : decode cX11_judge 92 = .ok (.getfield 33, 3) := by decide +kernel
theorem dX11_judge_95 : decode cX11_judge 95 = .ok (.iload_n 3, 1) := by decide +kernel
theorem dX11_judge_96 : decode cX11_judge 96 = .ok (.iaload, 1) := by decide +kernel
theorem dX11_judge_97 : decode cX11_judge 97 = .ok (.iconst 1, 1) := by decide +kernel
theorem dX11_judge_98 : decode cX11_judge 98 = .ok (.if_icmp .ne 7, 3) := by decide +kernel
theorem dX11_judge_101 : decode cX11_judge 101 = .ok (.iconst (-1), 1) := by decide +kernel
theorem dX11_judge_102 : decode cX11_judge 102 = .ok (.goto 8, 3) := by decide +kernel
theorem dX11_judge_105 : decode cX11_judge 105 = .ok (.aload_n 0, 1) := by decide +kernel
theorem dX11_judge_106 : decode cX11_judge 106 = .ok (.iload_n 3, 1) := by decide +kernel
theorem dX11_judge_107 : decode cX11_judge 107 = .ok (.invokevirtual 187, 3) := by decide +kernel
theorem dX11_judge_110 : decode cX11_judge 110 = .ok (.i2l, 1) := by decide +kernel
theorem dX11_judge_111 : decode cX11_judge 111 = .ok (.lcmp, 1) := by decide +kernel
theorem dX11_judge_112 : decode cX11_judge 112 = .ok (.ifCond .eq 5, 3) := by decide +kernel
theorem dX11_judge_115 : decode cX11_judge 115 = .ok (.iload_n 3, 1) := by decide +kernel
theorem dX11_judge_116 : decode cX11_judge 116 = .ok (.ireturn, 1) := by decide +kernel
theorem dX11_judge_117 : decode cX11_judge 117 = .ok (.iinc 3 1, 3) := by decide +kernel
theorem dX11_judge_120 : decode cX11_judge 120 = .ok (.goto (-85), 3) := by decide +kernel
theorem dX11_judge_123 : decode cX11_judge 123 = .ok (.bipush (-5), 2) := by decide +kernel
theorem dX11_judge_125 : decode cX11_judge 125 = .ok (.ireturn, 1) := by decide +kernel
theorem dX11_keep_0 : decode cX11_keep 0 = .ok (.iconst 0, 1) := by decide +kernel
theorem dX11_keep_1 : decode cX11_keep 1 = .ok (.istore_n 2, 1) := by decide +kernel
theorem dX11_keep_2 : decode cX11_keep 2 = .ok (.iload_n 2, 1) := by decide +kernel
theorem dX11_keep_3 : decode cX11_keep 3 = .ok (.bipush 10, 2) := by decide +kernel
theorem dX11_keep_5 : decode cX11_keep 5 = .ok (.if_icmp .ge 90, 3) := by decide +kernel
theorem dX11_keep_8 : decode cX11_keep 8 = .ok (.aload_n 1, 1) := by decide +kernel
theorem dX11_keep_9 : decode cX11_keep 9 = .ok (.iload_n 2, 1) := by decide +kernel
theorem dX11_keep_10 : decode cX11_keep 10 = .ok (.aload_n 0, 1) := by decide +kernel
theorem dX11_keep_11 : decode cX11_keep 11 = .ok (.getfield 21, 3) := by decide +kernel
theorem dX11_keep_14 : decode cX11_keep 14 = .ok (.iload_n 2, 1) := by decide +kernel
theorem dX11_keep_15 : decode cX11_keep 15 = .ok (.iaload, 1) := by decide +kernel
theorem dX11_keep_16 : decode cX11_keep 16 = .ok (.iastore, 1) := by decide +kernel
theorem dX11_keep_17 : decode cX11_keep 17 = .ok (.aload_n 1, 1) := by decide +kernel
theorem dX11_keep_18 : decode cX11_keep 18 = .ok (.bipush 10, 2) := by decide +kernel
theorem dX11_keep_20 : decode cX11_keep 20 = .ok (.iload_n 2, 1) := by decide +kernel
theorem dX11_keep_21 : decode cX11_keep 21 = .ok (.iadd, 1) := by decide +kernel
theorem dX11_keep_22 : decode cX11_keep 22 = .ok (.aload_n 0, 1) := by decide +kernel
theorem dX11_keep_23 : decode cX11_keep 23 = .ok (.getfield 24, 3) := by decide +kernel
theorem dX11_keep_26 : decode cX11_keep 26 = .ok (.iload_n 2, 1) := by decide +kernel
theorem dX11_keep_27 : decode cX11_keep 27 = .ok (.iaload, 1) := by decide +kernel
theorem dX11_keep_28 : decode cX11_keep 28 = .ok (.iastore, 1) := by decide +kernel
theorem dX11_keep_29 : decode cX11_keep 29 = .ok (.aload_n 1, 1) := by decide +kernel
theorem dX11_keep_30 : decode cX11_keep 30 = .ok (.bipush 20, 2) := by decide +kernel
theorem dX11_keep_32 : decode cX11_keep 32 = .ok (.iload_n 2, 1) := by decide +kernel
theorem dX11_keep_33 : decode cX11_keep 33 = .ok (.iadd, 1) := by decide +kernel
theorem dX11_keep_34 : decode cX11_keep 34 = .ok (.aload_n 0, 1) := by decide +kernel
theorem dX11_keep_35 : decode cX11_keep 35 = .ok (.getfield 27, 3) := by decide +kernel
theorem dX11_keep_38 : decode cX11_keep 38 = .ok (.iload_n 2, 1) := by decide +kernel
theorem dX11_keep_39 : decode cX11_keep 39 = .ok (.iaload, 1) := by decide +kernel
theorem dX11_keep_40 : decode cX11_keep 40 = .ok (.iastore, 1) := by decide +kernel
theorem dX11_keep_41 : decode cX11_keep 41 = .ok (.aload_n 1, 1) := by decide +kernel
theorem dX11_keep_42 : decode cX11_keep 42 = .ok (.bipush 30, 2) := by decide +kernel
theorem dX11_keep_44 : decode cX11_keep 44 = .ok (.iload_n 2, 1) := by decide +kernel
theorem dX11_keep_45 : decode cX11_keep 45 = .ok (.iadd, 1) := by decide +kernel
theorem dX11_keep_46 : decode cX11_keep 46 = .ok (.aload_n 0, 1) := by decide +kernel
theorem dX11_keep_47 : decode cX11_keep 47 = .ok (.getfield 30, 3) := by decide +kernel
theorem dX11_keep_50 : decode cX11_keep 50 = .ok (.iload_n 2, 1) := by decide +kernel
theorem dX11_keep_51 : decode cX11_keep 51 = .ok (.iaload, 1) := by decide +kernel
theorem dX11_keep_52 : decode cX11_keep 52 = .ok (.iastore, 1) := by decide +kernel
theorem dX11_keep_53 : decode cX11_keep 53 = .ok (.aload_n 1, 1) := by decide +kernel
theorem dX11_keep_54 : decode cX11_keep 54 = .ok (.bipush 40, 2) := by decide +kernel
theorem dX11_keep_56 : decode cX11_keep 56 = .ok (.iload_n 2, 1) := by decide +kernel
theorem dX11_keep_57 : decode cX11_keep 57 = .ok (.iadd, 1) := by decide +kernel
theorem dX11_keep_58 : decode cX11_keep 58 = .ok (.aload_n 0, 1) := by decide +kernel
theorem dX11_keep_59 : decode cX11_keep 59 = .ok (.getfield 33, 3) := by decide +kernel
theorem dX11_keep_62 : decode cX11_keep 62 = .ok (.iload_n 2, 1) := by decide +kernel
theorem dX11_keep_63 : decode cX11_keep 63 = .ok (.iaload, 1) := by decide +kernel
theorem dX11_keep_64 : decode cX11_keep 64 = .ok (.iastore, 1) := by decide +kernel
theorem dX11_keep_65 : decode cX11_keep 65 = .ok (.aload_n 1, 1) := by decide +kernel
theorem dX11_keep_66 : decode cX11_keep 66 = .ok (.bipush 50, 2) := by decide +kernel
theorem dX11_keep_68 : decode cX11_keep 68 = .ok (.iload_n 2, 1) := by decide +kernel
theorem dX11_keep_69 : decode cX11_keep 69 = .ok (.iadd, 1) := by decide +kernel
theorem dX11_keep_70 : decode cX11_keep 70 = .ok (.aload_n 0, 1) := by decide +kernel
theorem dX11_keep_71 : decode cX11_keep 71 = .ok (.getfield 60, 3) := by decide +kernel
theorem dX11_keep_74 : decode cX11_keep 74 = .ok (.iload_n 2, 1) := by decide +kernel
theorem dX11_keep_75 : decode cX11_keep 75 = .ok (.iaload, 1) := by decide +kernel
theorem dX11_keep_76 : decode cX11_keep 76 = .ok (.iastore, 1) := by decide +kernel
theorem dX11_keep_77 : decode cX11_keep 77 = .ok (.aload_n 1, 1) := by decide +kernel
theorem dX11_keep_78 : decode cX11_keep 78 = .ok (.bipush 60, 2) := by decide +kernel
theorem dX11_keep_80 : decode cX11_keep 80 = .ok (.iload_n 2, 1) := by decide +kernel
theorem dX11_keep_81 : decode cX11_keep 81 = .ok (.iadd, 1) := by decide +kernel
theorem dX11_keep_82 : decode cX11_keep 82 = .ok (.aload_n 0, 1) := by decide +kernel
theorem dX11_keep_83 : decode cX11_keep 83 = .ok (.getfield 63, 3) := by decide +kernel
theorem dX11_keep_86 : decode cX11_keep 86 = .ok (.iload_n 2, 1) := by decide +kernel
theorem dX11_keep_87 : decode cX11_keep 87 = .ok (.iaload, 1) := by decide +kernel
theorem dX11_keep_88 : decode cX11_keep 88 = .ok (.iastore, 1) := by decide +kernel
theorem dX11_keep_89 : decode cX11_keep 89 = .ok (.iinc 2 1, 3) := by decide +kernel
theorem dX11_keep_92 : decode cX11_keep 92 = .ok (.goto (-90), 3) := by decide +kernel
theorem dX11_keep_95 : decode cX11_keep 95 = .ok (.iconst 0, 1) := by decide +kernel
theorem dX11_keep_96 : decode cX11_keep 96 = .ok (.istore_n 2, 1) := by decide +kernel
theorem dX11_keep_97 : decode cX11_keep 97 = .ok (.iload_n 2, 1) := by decide +kernel
theorem dX11_keep_98 : decode cX11_keep 98 = .ok (.bipush 50, 2) := by decide +kernel
theorem dX11_keep_100 : decode cX11_keep 100 = .ok (.if_icmp .ge 21, 3) := by decide +kernel
theorem dX11_keep_103 : decode cX11_keep 103 = .ok (.aload_n 1, 1) := by decide +kernel
theorem dX11_keep_104 : decode cX11_keep 104 = .ok (.bipush 70, 2) := by decide +kernel
theorem dX11_keep_106 : decode cX11_keep 106 = .ok (.iload_n 2, 1) := by decide +kernel
theorem dX11_keep_107 : decode cX11_keep 107 = .ok (.iadd, 1) := by decide +kernel
theorem dX11_keep_108 : decode cX11_keep 108 = .ok (.aload_n 0, 1) := by decide +kernel
theorem dX11_keep_109 : decode cX11_keep 109 = .ok (.getfield 36, 3) := by decide +kernel
theorem dX11_keep_112 : decode cX11_keep 112 = .ok (.iload_n 2, 1) := by decide +kernel
theorem dX11_keep_113 : decode cX11_keep 113 = .ok (.iaload, 1) := by decide +kernel
theorem dX11_keep_114 : decode cX11_keep 114 = .ok (.iastore, 1) := by decide +kernel
theorem dX11_keep_115 : decode cX11_keep 115 = .ok (.iinc 2 1, 3) := by decide +kernel
theorem dX11_keep_118 : decode cX11_keep 118 = .ok (.goto (-21), 3) := by decide +kernel
theorem dX11_keep_121 : decode cX11_keep 121 = .ok (.iconst 0, 1) := by decide +kernel
theorem dX11_keep_122 : decode cX11_keep 122 = .ok (.istore_n 2, 1) := by decide +kernel
theorem dX11_keep_123 : decode cX11_keep 123 = .ok (.iload_n 2, 1) := by decide +kernel
theorem dX11_keep_124 : decode cX11_keep 124 = .ok (.bipush 40, 2) := by decide +kernel
theorem dX11_keep_126 : decode cX11_keep 126 = .ok (.if_icmp .ge 21, 3) := by decide +kernel
theorem dX11_keep_129 : decode cX11_keep 129 = .ok (.aload_n 1, 1) := by decide +kernel
theorem dX11_keep_130 : decode cX11_keep 130 = .ok (.bipush 120, 2) := by decide +kernel
theorem dX11_keep_132 : decode cX11_keep 132 = .ok (.iload_n 2, 1) := by decide +kernel
theorem dX11_keep_133 : decode cX11_keep 133 = .ok (.iadd, 1) := by decide +kernel
theorem dX11_keep_134 : decode cX11_keep 134 = .ok (.aload_n 0, 1) := by decide +kernel
theorem dX11_keep_135 : decode cX11_keep 135 = .ok (.getfield 39, 3) := by decide +kernel
theorem dX11_keep_138 : decode cX11_keep 138 = .ok (.iload_n 2, 1) := by decide +kernel
theorem dX11_keep_139 : decode cX11_keep 139 = .ok (.iaload, 1) := by decide +kernel
theorem dX11_keep_140 : decode cX11_keep 140 = .ok (.iastore, 1) := by decide +kernel
theorem dX11_keep_141 : decode cX11_keep 141 = .ok (.iinc 2 1, 3) := by decide +kernel
theorem dX11_keep_144 : decode cX11_keep 144 = .ok (.goto (-21), 3) := by decide +kernel
theorem dX11_keep_147 : decode cX11_keep 147 = .ok (.iconst 0, 1) := by decide +kernel
theorem dX11_keep_148 : decode cX11_keep 148 = .ok (.istore_n 2, 1) := by decide +kernel
theorem dX11_keep_149 : decode cX11_keep 149 = .ok (.iload_n 2, 1) := by decide +kernel
theorem dX11_keep_150 : decode cX11_keep 150 = .ok (.iconst 5, 1) := by decide +kernel
theorem dX11_keep_151 : decode cX11_keep 151 = .ok (.if_icmp .ge 61, 3) := by decide +kernel
theorem dX11_keep_154 : decode cX11_keep 154 = .ok (.aload_n 1, 1) := by decide +kernel
theorem dX11_keep_155 : decode cX11_keep 155 = .ok (.sipush 160, 3) := by decide +kernel
theorem dX11_keep_158 : decode cX11_keep 158 = .ok (.iload_n 2, 1) := by decide +kernel
theorem dX11_keep_159 : decode cX11_keep 159 = .ok (.iadd, 1) := by decide +kernel
theorem dX11_keep_160 : decode cX11_keep 160 = .ok (.aload_n 0, 1) := by decide +kernel
theorem dX11_keep_161 : decode cX11_keep 161 = .ok (.getfield 42, 3) := by decide +kernel
theorem dX11_keep_164 : decode cX11_keep 164 = .ok (.iload_n 2, 1) := by decide +kernel
theorem dX11_keep_165 : decode cX11_keep 165 = .ok (.iaload, 1) := by decide +kernel
theorem dX11_keep_166 : decode cX11_keep 166 = .ok (.iastore, 1) := by decide +kernel
theorem dX11_keep_167 : decode cX11_keep 167 = .ok (.aload_n 1, 1) := by decide +kernel
theorem dX11_keep_168 : decode cX11_keep 168 = .ok (.sipush 165, 3) := by decide +kernel
theorem dX11_keep_171 : decode cX11_keep 171 = .ok (.iload_n 2, 1) := by decide +kernel
theorem dX11_keep_172 : decode cX11_keep 172 = .ok (.iadd, 1) := by decide +kernel
theorem dX11_keep_173 : decode cX11_keep 173 = .ok (.aload_n 0, 1) := by decide +kernel
theorem dX11_keep_174 : decode cX11_keep 174 = .ok (.getfield 45, 3) := by decide +kernel
theorem dX11_keep_177 : decode cX11_keep 177 = .ok (.iload_n 2, 1) := by decide +kernel
theorem dX11_keep_178 : decode cX11_keep 178 = .ok (.iaload, 1) := by decide +kernel
theorem dX11_keep_179 : decode cX11_keep 179 = .ok (.iastore, 1) := by decide +kernel
theorem dX11_keep_180 : decode cX11_keep 180 = .ok (.aload_n 1, 1) := by decide +kernel
theorem dX11_keep_181 : decode cX11_keep 181 = .ok (.sipush 170, 3) := by decide +kernel
theorem dX11_keep_184 : decode cX11_keep 184 = .ok (.iload_n 2, 1) := by decide +kernel
theorem dX11_keep_185 : decode cX11_keep 185 = .ok (.iadd, 1) := by decide +kernel
theorem dX11_keep_186 : decode cX11_keep 186 = .ok (.aload_n 0, 1) := by decide +kernel
theorem dX11_keep_187 : decode cX11_keep 187 = .ok (.getfield 54, 3) := by decide +kernel
theorem dX11_keep_190 : decode cX11_keep 190 = .ok (.iload_n 2, 1) := by decide +kernel
theorem dX11_keep_191 : decode cX11_keep 191 = .ok (.iaload, 1) := by decide +kernel
theorem dX11_keep_192 : decode cX11_keep 192 = .ok (.iastore, 1) := by decide +kernel
theorem dX11_keep_193 : decode cX11_keep 193 = .ok (.aload_n 1, 1) := by decide +kernel
theorem dX11_keep_194 : decode cX11_keep 194 = .ok (.sipush 175, 3) := by decide +kernel
theorem dX11_keep_197 : decode cX11_keep 197 = .ok (.iload_n 2, 1) := by decide +kernel
theorem dX11_keep_198 : decode cX11_keep 198 = .ok (.iadd, 1) := by decide +kernel
theorem dX11_keep_199 : decode cX11_keep 199 = .ok (.aload_n 0, 1) := by decide +kernel
theorem dX11_keep_200 : decode cX11_keep 200 = .ok (.getfield 57, 3) := by decide +kernel
theorem dX11_keep_203 : decode cX11_keep 203 = .ok (.iload_n 2, 1) := by decide +kernel
theorem dX11_keep_204 : decode cX11_keep 204 = .ok (.iaload, 1) := by decide +kernel
theorem dX11_keep_205 : decode cX11_keep 205 = .ok (.iastore, 1) := by decide +kernel
theorem dX11_keep_206 : decode cX11_keep 206 = .ok (.iinc 2 1, 3) := by decide +kernel
theorem dX11_keep_209 : decode cX11_keep 209 = .ok (.goto (-60), 3) := by decide +kernel
theorem dX11_keep_212 : decode cX11_keep 212 = .ok (.iconst 0, 1) := by decide +kernel
theorem dX11_keep_213 : decode cX11_keep 213 = .ok (.istore_n 2, 1) := by decide +kernel
theorem dX11_keep_214 : decode cX11_keep 214 = .ok (.iload_n 2, 1) := by decide +kernel
theorem dX11_keep_215 : decode cX11_keep 215 = .ok (.bipush 8, 2) := by decide +kernel
theorem dX11_keep_217 : decode cX11_keep 217 = .ok (.if_icmp .ge 35, 3) := by decide +kernel
theorem dX11_keep_220 : decode cX11_keep 220 = .ok (.aload_n 1, 1) := by decide +kernel
theorem dX11_keep_221 : decode cX11_keep 221 = .ok (.sipush 180, 3) := by decide +kernel
theorem dX11_keep_224 : decode cX11_keep 224 = .ok (.iload_n 2, 1) := by decide +kernel
theorem dX11_keep_225 : decode cX11_keep 225 = .ok (.iadd, 1) := by decide +kernel
theorem dX11_keep_226 : decode cX11_keep 226 = .ok (.aload_n 0, 1) := by decide +kernel
theorem dX11_keep_227 : decode cX11_keep 227 = .ok (.getfield 66, 3) := by decide +kernel
theorem dX11_keep_230 : decode cX11_keep 230 = .ok (.iload_n 2, 1) := by decide +kernel
theorem dX11_keep_231 : decode cX11_keep 231 = .ok (.iaload, 1) := by decide +kernel
theorem dX11_keep_232 : decode cX11_keep 232 = .ok (.iastore, 1) := by decide +kernel
theorem dX11_keep_233 : decode cX11_keep 233 = .ok (.aload_n 1, 1) := by decide +kernel
theorem dX11_keep_234 : decode cX11_keep 234 = .ok (.sipush 188, 3) := by decide +kernel
theorem dX11_keep_237 : decode cX11_keep 237 = .ok (.iload_n 2, 1) := by decide +kernel
theorem dX11_keep_238 : decode cX11_keep 238 = .ok (.iadd, 1) := by decide +kernel
theorem dX11_keep_239 : decode cX11_keep 239 = .ok (.aload_n 0, 1) := by decide +kernel
theorem dX11_keep_240 : decode cX11_keep 240 = .ok (.getfield 69, 3) := by decide +kernel
theorem dX11_keep_243 : decode cX11_keep 243 = .ok (.iload_n 2, 1) := by decide +kernel
theorem dX11_keep_244 : decode cX11_keep 244 = .ok (.iaload, 1) := by decide +kernel
theorem dX11_keep_245 : decode cX11_keep 245 = .ok (.iastore, 1) := by decide +kernel
theorem dX11_keep_246 : decode cX11_keep 246 = .ok (.iinc 2 1, 3) := by decide +kernel
theorem dX11_keep_249 : decode cX11_keep 249 = .ok (.goto (-35), 3) := by decide +kernel
theorem dX11_keep_252 : decode cX11_keep 252 = .ok (.aload_n 1, 1) := by decide +kernel
theorem dX11_keep_253 : decode cX11_keep 253 = .ok (.sipush 196, 3) := by decide +kernel
theorem dX11_keep_256 : decode cX11_keep 256 = .ok (.aload_n 0, 1) := by decide +kernel
theorem dX11_keep_257 : decode cX11_keep 257 = .ok (.getfield 95, 3) := by decide +kernel
theorem dX11_keep_260 : decode cX11_keep 260 = .ok (.iastore, 1) := by decide +kernel
theorem dX11_keep_261 : decode cX11_keep 261 = .ok (.aload_n 1, 1) := by decide +kernel
theorem dX11_keep_262 : decode cX11_keep 262 = .ok (.sipush 197, 3) := by decide +kernel
theorem dX11_keep_265 : decode cX11_keep 265 = .ok (.aload_n 0, 1) := by decide +kernel
theorem dX11_keep_266 : decode cX11_keep 266 = .ok (.getfield 134, 3) := by decide +kernel
theorem dX11_keep_269 : decode cX11_keep 269 = .ok (.iastore, 1) := by decide +kernel
theorem dX11_keep_270 : decode cX11_keep 270 = .ok (.aload_n 1, 1) := by decide +kernel
theorem dX11_keep_271 : decode cX11_keep 271 = .ok (.sipush 198, 3) := by decide +kernel
theorem dX11_keep_274 : decode cX11_keep 274 = .ok (.aload_n 0, 1) := by decide +kernel
theorem dX11_keep_275 : decode cX11_keep 275 = .ok (.getfield 162, 3) := by decide +kernel
theorem dX11_keep_278 : decode cX11_keep 278 = .ok (.iastore, 1) := by decide +kernel
theorem dX11_keep_279 : decode cX11_keep 279 = .ok (.aload_n 1, 1) := by decide +kernel
theorem dX11_keep_280 : decode cX11_keep 280 = .ok (.sipush 199, 3) := by decide +kernel
theorem dX11_keep_283 : decode cX11_keep 283 = .ok (.aload_n 0, 1) := by decide +kernel
theorem dX11_keep_284 : decode cX11_keep 284 = .ok (.getfield 245, 3) := by decide +kernel
theorem dX11_keep_287 : decode cX11_keep 287 = .ok (.iastore, 1) := by decide +kernel
theorem dX11_keep_288 : decode cX11_keep 288 = .ok (.aload_n 1, 1) := by decide +kernel
theorem dX11_keep_289 : decode cX11_keep 289 = .ok (.sipush 200, 3) := by decide +kernel
theorem dX11_keep_292 : decode cX11_keep 292 = .ok (.aload_n 0, 1) := by decide +kernel
theorem dX11_keep_293 : decode cX11_keep 293 = .ok (.getfield 276, 3) := by decide +kernel
theorem dX11_keep_296 : decode cX11_keep 296 = .ok (.iastore, 1) := by decide +kernel
theorem dX11_keep_297 : decode cX11_keep 297 = .ok (.aload_n 1, 1) := by decide +kernel
theorem dX11_keep_298 : decode cX11_keep 298 = .ok (.sipush 201, 3) := by decide +kernel
theorem dX11_keep_301 : decode cX11_keep 301 = .ok (.aload_n 0, 1) := by decide +kernel
theorem dX11_keep_302 : decode cX11_keep 302 = .ok (.getfield 286, 3) := by decide +kernel
theorem dX11_keep_305 : decode cX11_keep 305 = .ok (.iastore, 1) := by decide +kernel
theorem dX11_keep_306 : decode cX11_keep 306 = .ok (.return_, 1) := by decide +kernel
theorem dX11_again_0 : decode cX11_again 0 = .ok (.iconst 0, 1) := by decide +kernel
theorem dX11_again_1 : decode cX11_again 1 = .ok (.istore_n 2, 1) := by decide +kernel
theorem dX11_again_2 : decode cX11_again 2 = .ok (.iload_n 2, 1) := by decide +kernel
theorem dX11_again_3 : decode cX11_again 3 = .ok (.bipush 10, 2) := by decide +kernel
theorem dX11_again_5 : decode cX11_again 5 = .ok (.if_icmp .ge 90, 3) := by decide +kernel
theorem dX11_again_8 : decode cX11_again 8 = .ok (.aload_n 0, 1) := by decide +kernel
theorem dX11_again_9 : decode cX11_again 9 = .ok (.getfield 21, 3) := by decide +kernel
theorem dX11_again_12 : decode cX11_again 12 = .ok (.iload_n 2, 1) := by decide +kernel
theorem dX11_again_13 : decode cX11_again 13 = .ok (.aload_n 1, 1) := by decide +kernel
theorem dX11_again_14 : decode cX11_again 14 = .ok (.iload_n 2, 1) := by decide +kernel
theorem dX11_again_15 : decode cX11_again 15 = .ok (.iaload, 1) := by decide +kernel
theorem dX11_again_16 : decode cX11_again 16 = .ok (.iastore, 1) := by decide +kernel
theorem dX11_again_17 : decode cX11_again 17 = .ok (.aload_n 0, 1) := by decide +kernel
theorem dX11_again_18 : decode cX11_again 18 = .ok (.getfield 24, 3) := by decide +kernel
theorem dX11_again_21 : decode cX11_again 21 = .ok (.iload_n 2, 1) := by decide +kernel
theorem dX11_again_22 : decode cX11_again 22 = .ok (.aload_n 1, 1) := by decide +kernel
theorem dX11_again_23 : decode cX11_again 23 = .ok (.bipush 10, 2) := by decide +kernel
theorem dX11_again_25 : decode cX11_again 25 = .ok (.iload_n 2, 1) := by decide +kernel
theorem dX11_again_26 : decode cX11_again 26 = .ok (.iadd, 1) := by decide +kernel
theorem dX11_again_27 : decode cX11_again 27 = .ok (.iaload, 1) := by decide +kernel
theorem dX11_again_28 : decode cX11_again 28 = .ok (.iastore, 1) := by decide +kernel
theorem dX11_again_29 : decode cX11_again 29 = .ok (.aload_n 0, 1) := by decide +kernel
theorem dX11_again_30 : decode cX11_again 30 = .ok (.getfield 27, 3) := by decide +kernel
theorem dX11_again_33 : decode cX11_again 33 = .ok (.iload_n 2, 1) := by decide +kernel
theorem dX11_again_34 : decode cX11_again 34 = .ok (.aload_n 1, 1) := by decide +kernel
theorem dX11_again_35 : decode cX11_again 35 = .ok (.bipush 20, 2) := by decide +kernel
theorem dX11_again_37 : decode cX11_again 37 = .ok (.iload_n 2, 1) := by decide +kernel
theorem dX11_again_38 : decode cX11_again 38 = .ok (.iadd, 1) := by decide +kernel
theorem dX11_again_39 : decode cX11_again 39 = .ok (.iaload, 1) := by decide +kernel
theorem dX11_again_40 : decode cX11_again 40 = .ok (.iastore, 1) := by decide +kernel
theorem dX11_again_41 : decode cX11_again 41 = .ok (.aload_n 0, 1) := by decide +kernel
theorem dX11_again_42 : decode cX11_again 42 = .ok (.getfield 30, 3) := by decide +kernel
theorem dX11_again_45 : decode cX11_again 45 = .ok (.iload_n 2, 1) := by decide +kernel
theorem dX11_again_46 : decode cX11_again 46 = .ok (.aload_n 1, 1) := by decide +kernel
theorem dX11_again_47 : decode cX11_again 47 = .ok (.bipush 30, 2) := by decide +kernel
theorem dX11_again_49 : decode cX11_again 49 = .ok (.iload_n 2, 1) := by decide +kernel
theorem dX11_again_50 : decode cX11_again 50 = .ok (.iadd, 1) := by decide +kernel
theorem dX11_again_51 : decode cX11_again 51 = .ok (.iaload, 1) := by decide +kernel
theorem dX11_again_52 : decode cX11_again 52 = .ok (.iastore, 1) := by decide +kernel
theorem dX11_again_53 : decode cX11_again 53 = .ok (.aload_n 0, 1) := by decide +kernel
theorem dX11_again_54 : decode cX11_again 54 = .ok (.getfield 33, 3) := by decide +kernel
theorem dX11_again_57 : decode cX11_again 57 = .ok (.iload_n 2, 1) := by decide +kernel
theorem dX11_again_58 : decode cX11_again 58 = .ok (.aload_n 1, 1) := by decide +kernel
theorem dX11_again_59 : decode cX11_again 59 = .ok (.bipush 40, 2) := by decide +kernel
theorem dX11_again_61 : decode cX11_again 61 = .ok (.iload_n 2, 1) := by decide +kernel
theorem dX11_again_62 : decode cX11_again 62 = .ok (.iadd, 1) := by decide +kernel
theorem dX11_again_63 : decode cX11_again 63 = .ok (.iaload, 1) := by decide +kernel
theorem dX11_again_64 : decode cX11_again 64 = .ok (.iastore, 1) := by decide +kernel
theorem dX11_again_65 : decode cX11_again 65 = .ok (.aload_n 0, 1) := by decide +kernel
theorem dX11_again_66 : decode cX11_again 66 = .ok (.getfield 60, 3) := by decide +kernel
theorem dX11_again_69 : decode cX11_again 69 = .ok (.iload_n 2, 1) := by decide +kernel
theorem dX11_again_70 : decode cX11_again 70 = .ok (.aload_n 1, 1) := by decide +kernel
theorem dX11_again_71 : decode cX11_again 71 = .ok (.bipush 50, 2) := by decide +kernel
theorem dX11_again_73 : decode cX11_again 73 = .ok (.iload_n 2, 1) := by decide +kernel
theorem dX11_again_74 : decode cX11_again 74 = .ok (.iadd, 1) := by decide +kernel
theorem dX11_again_75 : decode cX11_again 75 = .ok (.iaload, 1) := by decide +kernel
theorem dX11_again_76 : decode cX11_again 76 = .ok (.iastore, 1) := by decide +kernel
theorem dX11_again_77 : decode cX11_again 77 = .ok (.aload_n 0, 1) := by decide +kernel
theorem dX11_again_78 : decode cX11_again 78 = .ok (.getfield 63, 3) := by decide +kernel
theorem dX11_again_81 : decode cX11_again 81 = .ok (.iload_n 2, 1) := by decide +kernel
theorem dX11_again_82 : decode cX11_again 82 = .ok (.aload_n 1, 1) := by decide +kernel
theorem dX11_again_83 : decode cX11_again 83 = .ok (.bipush 60, 2) := by decide +kernel
theorem dX11_again_85 : decode cX11_again 85 = .ok (.iload_n 2, 1) := by decide +kernel
theorem dX11_again_86 : decode cX11_again 86 = .ok (.iadd, 1) := by decide +kernel
theorem dX11_again_87 : decode cX11_again 87 = .ok (.iaload, 1) := by decide +kernel
theorem dX11_again_88 : decode cX11_again 88 = .ok (.iastore, 1) := by decide +kernel
theorem dX11_again_89 : decode cX11_again 89 = .ok (.iinc 2 1, 3) := by decide +kernel
theorem dX11_again_92 : decode cX11_again 92 = .ok (.goto (-90), 3) := by decide +kernel
theorem dX11_again_95 : decode cX11_again 95 = .ok (.iconst 0, 1) := by decide +kernel
theorem dX11_again_96 : decode cX11_again 96 = .ok (.istore_n 2, 1) := by decide +kernel
theorem dX11_again_97 : decode cX11_again 97 = .ok (.iload_n 2, 1) := by decide +kernel
theorem dX11_again_98 : decode cX11_again 98 = .ok (.bipush 50, 2) := by decide +kernel
theorem dX11_again_100 : decode cX11_again 100 = .ok (.if_icmp .ge 21, 3) := by decide +kernel
theorem dX11_again_103 : decode cX11_again 103 = .ok (.aload_n 0, 1) := by decide +kernel
theorem dX11_again_104 : decode cX11_again 104 = .ok (.getfield 36, 3) := by decide +kernel
theorem dX11_again_107 : decode cX11_again 107 = .ok (.iload_n 2, 1) := by decide +kernel
theorem dX11_again_108 : decode cX11_again 108 = .ok (.aload_n 1, 1) := by decide +kernel
theorem dX11_again_109 : decode cX11_again 109 = .ok (.bipush 70, 2) := by decide +kernel
theorem dX11_again_111 : decode cX11_again 111 = .ok (.iload_n 2, 1) := by decide +kernel
theorem dX11_again_112 : decode cX11_again 112 = .ok (.iadd, 1) := by decide +kernel
theorem dX11_again_113 : decode cX11_again 113 = .ok (.iaload, 1) := by decide +kernel
theorem dX11_again_114 : decode cX11_again 114 = .ok (.iastore, 1) := by decide +kernel
theorem dX11_again_115 : decode cX11_again 115 = .ok (.iinc 2 1, 3) := by decide +kernel
theorem dX11_again_118 : decode cX11_again 118 = .ok (.goto (-21), 3) := by decide +kernel
theorem dX11_again_121 : decode cX11_again 121 = .ok (.iconst 0, 1) := by decide +kernel
theorem dX11_again_122 : decode cX11_again 122 = .ok (.istore_n 2, 1) := by decide +kernel
theorem dX11_again_123 : decode cX11_again 123 = .ok (.iload_n 2, 1) := by decide +kernel
theorem dX11_again_124 : decode cX11_again 124 = .ok (.bipush 40, 2) := by decide +kernel
theorem dX11_again_126 : decode cX11_again 126 = .ok (.if_icmp .ge 21, 3) := by decide +kernel
theorem dX11_again_129 : decode cX11_again 129 = .ok (.aload_n 0, 1) := by decide +kernel
theorem dX11_again_130 : decode cX11_again 130 = .ok (.getfield 39, 3) := by decide +kernel
theorem dX11_again_133 : decode cX11_again 133 = .ok (.iload_n 2, 1) := by decide +kernel
theorem dX11_again_134 : decode cX11_again 134 = .ok (.aload_n 1, 1) := by decide +kernel
theorem dX11_again_135 : decode cX11_again 135 = .ok (.bipush 120, 2) := by decide +kernel
theorem dX11_again_137 : decode cX11_again 137 = .ok (.iload_n 2, 1) := by decide +kernel
theorem dX11_again_138 : decode cX11_again 138 = .ok (.iadd, 1) := by decide +kernel
theorem dX11_again_139 : decode cX11_again 139 = .ok (.iaload, 1) := by decide +kernel
theorem dX11_again_140 : decode cX11_again 140 = .ok (.iastore, 1) := by decide +kernel
theorem dX11_again_141 : decode cX11_again 141 = .ok (.iinc 2 1, 3) := by decide +kernel
theorem dX11_again_144 : decode cX11_again 144 = .ok (.goto (-21), 3) := by decide +kernel
theorem dX11_again_147 : decode cX11_again 147 = .ok (.iconst 0, 1) := by decide +kernel
theorem dX11_again_148 : decode cX11_again 148 = .ok (.istore_n 2, 1) := by decide +kernel
theorem dX11_again_149 : decode cX11_again 149 = .ok (.iload_n 2, 1) := by decide +kernel
theorem dX11_again_150 : decode cX11_again 150 = .ok (.iconst 5, 1) := by decide +kernel
theorem dX11_again_151 : decode cX11_again 151 = .ok (.if_icmp .ge 61, 3) := by decide +kernel
theorem dX11_again_154 : decode cX11_again 154 = .ok (.aload_n 0, 1) := by decide +kernel
theorem dX11_again_155 : decode cX11_again 155 = .ok (.getfield 42, 3) := by decide +kernel
theorem dX11_again_158 : decode cX11_again 158 = .ok (.iload_n 2, 1) := by decide +kernel
theorem dX11_again_159 : decode cX11_again 159 = .ok (.aload_n 1, 1) := by decide +kernel
theorem dX11_again_160 : decode cX11_again 160 = .ok (.sipush 160, 3) := by decide +kernel
theorem dX11_again_163 : decode cX11_again 163 = .ok (.iload_n 2, 1) := by decide +kernel
theorem dX11_again_164 : decode cX11_again 164 = .ok (.iadd, 1) := by decide +kernel
theorem dX11_again_165 : decode cX11_again 165 = .ok (.iaload, 1) := by decide +kernel
theorem dX11_again_166 : decode cX11_again 166 = .ok (.iastore, 1) := by decide +kernel
theorem dX11_again_167 : decode cX11_again 167 = .ok (.aload_n 0, 1) := by decide +kernel
theorem dX11_again_168 : decode cX11_again 168 = .ok (.getfield 45, 3) := by decide +kernel
theorem dX11_again_171 : decode cX11_again 171 = .ok (.iload_n 2, 1) := by decide +kernel
theorem dX11_again_172 : decode cX11_again 172 = .ok (.aload_n 1, 1) := by decide +kernel
theorem dX11_again_173 : decode cX11_again 173 = .ok (.sipush 165, 3) := by decide +kernel
theorem dX11_again_176 : decode cX11_again 176 = .ok (.iload_n 2, 1) := by decide +kernel
theorem dX11_again_177 : decode cX11_again 177 = .ok (.iadd, 1) := by decide +kernel
theorem dX11_again_178 : decode cX11_again 178 = .ok (.iaload, 1) := by decide +kernel
theorem dX11_again_179 : decode cX11_again 179 = .ok (.iastore, 1) := by decide +kernel
theorem dX11_again_180 : decode cX11_again 180 = .ok (.aload_n 0, 1) := by decide +kernel
theorem dX11_again_181 : decode cX11_again 181 = .ok (.getfield 54, 3) := by decide +kernel
theorem dX11_again_184 : decode cX11_again 184 = .ok (.iload_n 2, 1) := by decide +kernel
theorem dX11_again_185 : decode cX11_again 185 = .ok (.aload_n 1, 1) := by decide +kernel
theorem dX11_again_186 : decode cX11_again 186 = .ok (.sipush 170, 3) := by decide +kernel
theorem dX11_again_189 : decode cX11_again 189 = .ok (.iload_n 2, 1) := by decide +kernel
theorem dX11_again_190 : decode cX11_again 190 = .ok (.iadd, 1) := by decide +kernel
theorem dX11_again_191 : decode cX11_again 191 = .ok (.iaload, 1) := by decide +kernel
theorem dX11_again_192 : decode cX11_again 192 = .ok (.iastore, 1) := by decide +kernel
theorem dX11_again_193 : decode cX11_again 193 = .ok (.aload_n 0, 1) := by decide +kernel
theorem dX11_again_194 : decode cX11_again 194 = .ok (.getfield 57, 3) := by decide +kernel
theorem dX11_again_197 : decode cX11_again 197 = .ok (.iload_n 2, 1) := by decide +kernel
theorem dX11_again_198 : decode cX11_again 198 = .ok (.aload_n 1, 1) := by decide +kernel
theorem dX11_again_199 : decode cX11_again 199 = .ok (.sipush 175, 3) := by decide +kernel
theorem dX11_again_202 : decode cX11_again 202 = .ok (.iload_n 2, 1) := by decide +kernel
theorem dX11_again_203 : decode cX11_again 203 = .ok (.iadd, 1) := by decide +kernel
theorem dX11_again_204 : decode cX11_again 204 = .ok (.iaload, 1) := by decide +kernel
theorem dX11_again_205 : decode cX11_again 205 = .ok (.iastore, 1) := by decide +kernel
theorem dX11_again_206 : decode cX11_again 206 = .ok (.iinc 2 1, 3) := by decide +kernel
theorem dX11_again_209 : decode cX11_again 209 = .ok (.goto (-60), 3) := by decide +kernel
theorem dX11_again_212 : decode cX11_again 212 = .ok (.iconst 0, 1) := by decide +kernel
theorem dX11_again_213 : decode cX11_again 213 = .ok (.istore_n 2, 1) := by decide +kernel
theorem dX11_again_214 : decode cX11_again 214 = .ok (.iload_n 2, 1) := by decide +kernel
theorem dX11_again_215 : decode cX11_again 215 = .ok (.bipush 8, 2) := by decide +kernel
theorem dX11_again_217 : decode cX11_again 217 = .ok (.if_icmp .ge 35, 3) := by decide +kernel
theorem dX11_again_220 : decode cX11_again 220 = .ok (.aload_n 0, 1) := by decide +kernel
theorem dX11_again_221 : decode cX11_again 221 = .ok (.getfield 66, 3) := by decide +kernel
theorem dX11_again_224 : decode cX11_again 224 = .ok (.iload_n 2, 1) := by decide +kernel
theorem dX11_again_225 : decode cX11_again 225 = .ok (.aload_n 1, 1) := by decide +kernel
theorem dX11_again_226 : decode cX11_again 226 = .ok (.sipush 180, 3) := by decide +kernel
theorem dX11_again_229 : decode cX11_again 229 = .ok (.iload_n 2, 1) := by decide +kernel
theorem dX11_again_230 : decode cX11_again 230 = .ok (.iadd, 1) := by decide +kernel
theorem dX11_again_231 : decode cX11_again 231 = .ok (.iaload, 1) := by decide +kernel
theorem dX11_again_232 : decode cX11_again 232 = .ok (.iastore, 1) := by decide +kernel
theorem dX11_again_233 : decode cX11_again 233 = .ok (.aload_n 0, 1) := by decide +kernel
theorem dX11_again_234 : decode cX11_again 234 = .ok (.getfield 69, 3) := by decide +kernel
theorem dX11_again_237 : decode cX11_again 237 = .ok (.iload_n 2, 1) := by decide +kernel
theorem dX11_again_238 : decode cX11_again 238 = .ok (.aload_n 1, 1) := by decide +kernel
theorem dX11_again_239 : decode cX11_again 239 = .ok (.sipush 188, 3) := by decide +kernel
theorem dX11_again_242 : decode cX11_again 242 = .ok (.iload_n 2, 1) := by decide +kernel
theorem dX11_again_243 : decode cX11_again 243 = .ok (.iadd, 1) := by decide +kernel
theorem dX11_again_244 : decode cX11_again 244 = .ok (.iaload, 1) := by decide +kernel
theorem dX11_again_245 : decode cX11_again 245 = .ok (.iastore, 1) := by decide +kernel
theorem dX11_again_246 : decode cX11_again 246 = .ok (.iinc 2 1, 3) := by decide +kernel
theorem dX11_again_249 : decode cX11_again 249 = .ok (.goto (-35), 3) := by decide +kernel
theorem dX11_again_252 : decode cX11_again 252 = .ok (.aload_n 0, 1) := by decide +kernel
theorem dX11_again_253 : decode cX11_again 253 = .ok (.aload_n 1, 1) := by decide +kernel
theorem dX11_again_254 : decode cX11_again 254 = .ok (.sipush 196, 3) := by decide +kernel
theorem dX11_again_257 : decode cX11_again 257 = .ok (.iaload, 1) := by decide +kernel
theorem dX11_again_258 : decode cX11_again 258 = .ok (.putfield 95, 3) := by decide +kernel
theorem dX11_again_261 : decode cX11_again 261 = .ok (.aload_n 0, 1) := by decide +kernel
theorem dX11_again_262 : decode cX11_again 262 = .ok (.aload_n 1, 1) := by decide +kernel
theorem dX11_again_263 : decode cX11_again 263 = .ok (.sipush 197, 3) := by decide +kernel
theorem dX11_again_266 : decode cX11_again 266 = .ok (.iaload, 1) := by decide +kernel
theorem dX11_again_267 : decode cX11_again 267 = .ok (.putfield 134, 3) := by decide +kernel
theorem dX11_again_270 : decode cX11_again 270 = .ok (.aload_n 0, 1) := by decide +kernel
theorem dX11_again_271 : decode cX11_again 271 = .ok (.aload_n 1, 1) := by decide +kernel
theorem dX11_again_272 : decode cX11_again 272 = .ok (.sipush 198, 3) := by decide +kernel
theorem dX11_again_275 : decode cX11_again 275 = .ok (.iaload, 1) := by decide +kernel
theorem dX11_again_276 : decode cX11_again 276 = .ok (.putfield 162, 3) := by decide +kernel
theorem dX11_again_279 : decode cX11_again 279 = .ok (.aload_n 0, 1) := by decide +kernel
theorem dX11_again_280 : decode cX11_again 280 = .ok (.aload_n 1, 1) := by decide +kernel
theorem dX11_again_281 : decode cX11_again 281 = .ok (.sipush 199, 3) := by decide +kernel
theorem dX11_again_284 : decode cX11_again 284 = .ok (.iaload, 1) := by decide +kernel
theorem dX11_again_285 : decode cX11_again 285 = .ok (.putfield 245, 3) := by decide +kernel
theorem dX11_again_288 : decode cX11_again 288 = .ok (.aload_n 0, 1) := by decide +kernel
theorem dX11_again_289 : decode cX11_again 289 = .ok (.aload_n 1, 1) := by decide +kernel
theorem dX11_again_290 : decode cX11_again 290 = .ok (.sipush 200, 3) := by decide +kernel
theorem dX11_again_293 : decode cX11_again 293 = .ok (.iaload, 1) := by decide +kernel
theorem dX11_again_294 : decode cX11_again 294 = .ok (.putfield 276, 3) := by decide +kernel
theorem dX11_again_297 : decode cX11_again 297 = .ok (.aload_n 0, 1) := by decide +kernel
theorem dX11_again_298 : decode cX11_again 298 = .ok (.aload_n 1, 1) := by decide +kernel
theorem dX11_again_299 : decode cX11_again 299 = .ok (.sipush 201, 3) := by decide +kernel
theorem dX11_again_302 : decode cX11_again 302 = .ok (.iaload, 1) := by decide +kernel
theorem dX11_again_303 : decode cX11_again 303 = .ok (.putfield 286, 3) := by decide +kernel
theorem dX11_again_306 : decode cX11_again 306 = .ok (.return_, 1) := by decide +kernel
theorem dX11_image_0 : decode cX11_image 0 = .ok (.aload_n 0, 1) := by decide +kernel
theorem dX11_image_1 : decode cX11_image 1 = .ok (.iconst 1, 1) := by decide +kernel
theorem dX11_image_2 : decode cX11_image 2 = .ok (.putfield 289, 3) := by decide +kernel
theorem dX11_image_5 : decode cX11_image 5 = .ok (.aload_n 0, 1) := by decide +kernel
theorem dX11_image_6 : decode cX11_image 6 = .ok (.aload_n 0, 1) := by decide +kernel
theorem dX11_image_7 : decode cX11_image 7 = .ok (.getfield 72, 3) := by decide +kernel
theorem dX11_image_10 : decode cX11_image 10 = .ok (.invokevirtual 279, 3) := by decide +kernel
theorem dX11_image_13 : decode cX11_image 13 = .ok (.aload_n 0, 1) := by decide +kernel
theorem dX11_image_14 : decode cX11_image 14 = .ok (.getfield 95, 3) := by decide +kernel
theorem dX11_image_17 : decode cX11_image 17 = .ok (.ireturn, 1) := by decide +kernel
theorem dX11_undo_0 : decode cX11_undo 0 = .ok (.aload_n 0, 1) := by decide +kernel
theorem dX11_undo_1 : decode cX11_undo 1 = .ok (.getfield 289, 3) := by decide +kernel
theorem dX11_undo_4 : decode cX11_undo 4 = .ok (.ifCond .ne 6, 3) := by decide +kernel
theorem dX11_undo_7 : decode cX11_undo 7 = .ok (.bipush (-3), 2) := by decide +kernel
theorem dX11_undo_9 : decode cX11_undo 9 = .ok (.ireturn, 1) := by decide +kernel
theorem dX11_undo_10 : decode cX11_undo 10 = .ok (.aload_n 0, 1) := by decide +kernel
theorem dX11_undo_11 : decode cX11_undo 11 = .ok (.aload_n 0, 1) := by decide +kernel
theorem dX11_undo_12 : decode cX11_undo 12 = .ok (.getfield 72, 3) := by decide +kernel
theorem dX11_undo_15 : decode cX11_undo 15 = .ok (.invokevirtual 283, 3) := by decide +kernel
theorem dX11_undo_18 : decode cX11_undo 18 = .ok (.aload_n 0, 1) := by decide +kernel
theorem dX11_undo_19 : decode cX11_undo 19 = .ok (.getfield 95, 3) := by decide +kernel
theorem dX11_undo_22 : decode cX11_undo 22 = .ok (.ireturn, 1) := by decide +kernel
theorem dX11_above_0 : decode cX11_above 0 = .ok (.iload_n 0, 1) := by decide +kernel
theorem dX11_above_1 : decode cX11_above 1 = .ok (.iconst 3, 1) := by decide +kernel
theorem dX11_above_2 : decode cX11_above 2 = .ok (.if_icmp .le 9, 3) := by decide +kernel
theorem dX11_above_5 : decode cX11_above 5 = .ok (.iload_n 0, 1) := by decide +kernel
theorem dX11_above_6 : decode cX11_above 6 = .ok (.iconst 3, 1) := by decide +kernel
theorem dX11_above_7 : decode cX11_above 7 = .ok (.isub, 1) := by decide +kernel
theorem dX11_above_8 : decode cX11_above 8 = .ok (.goto 4, 3) := by decide +kernel
theorem dX11_above_11 : decode cX11_above 11 = .ok (.iconst 0, 1) := by decide +kernel
theorem dX11_above_12 : decode cX11_above 12 = .ok (.ireturn, 1) := by decide +kernel
theorem dX11_taken_0 : decode cX11_taken 0 = .ok (.iload_n 2, 1) := by decide +kernel
theorem dX11_taken_1 : decode cX11_taken 1 = .ok (.iconst 0, 1) := by decide +kernel
theorem dX11_taken_2 : decode cX11_taken 2 = .ok (.bipush 6, 2) := by decide +kernel
theorem dX11_taken_4 : decode cX11_taken 4 = .ok (.invokestatic 99, 3) := by decide +kernel
theorem dX11_taken_7 : decode cX11_taken 7 = .ok (.ifCond .ne 6, 3) := by decide +kernel
theorem dX11_taken_10 : decode cX11_taken 10 = .ok (.bipush (-2), 2) := by decide +kernel
theorem dX11_taken_12 : decode cX11_taken 12 = .ok (.ireturn, 1) := by decide +kernel
theorem dX11_taken_13 : decode cX11_taken 13 = .ok (.aload_n 0, 1) := by decide +kernel
theorem dX11_taken_14 : decode cX11_taken 14 = .ok (.iload_n 1, 1) := by decide +kernel
theorem dX11_taken_15 : decode cX11_taken 15 = .ok (.invokevirtual 169, 3) := by decide +kernel
theorem dX11_taken_18 : decode cX11_taken 18 = .ok (.ifCond .ne 6, 3) := by decide +kernel
theorem dX11_taken_21 : decode cX11_taken 21 = .ok (.bipush (-11), 2) := by decide +kernel
theorem dX11_taken_23 : decode cX11_taken 23 = .ok (.ireturn, 1) := by decide +kernel
theorem dX11_taken_24 : decode cX11_taken 24 = .ok (.aload_n 0, 1) := by decide +kernel
theorem dX11_taken_25 : decode cX11_taken 25 = .ok (.getfield 21, 3) := by decide +kernel
theorem dX11_taken_28 : decode cX11_taken 28 = .ok (.iload_n 1, 1) := by decide +kernel
theorem dX11_taken_29 : decode cX11_taken 29 = .ok (.iaload, 1) := by decide +kernel
theorem dX11_taken_30 : decode cX11_taken 30 = .ok (.istore_n 3, 1) := by decide +kernel
theorem dX11_taken_31 : decode cX11_taken 31 = .ok (.iload_n 3, 1) := by decide +kernel
theorem dX11_taken_32 : decode cX11_taken 32 = .ok (.iload_n 2, 1) := by decide +kernel
theorem dX11_taken_33 : decode cX11_taken 33 = .ok (.if_icmp .eq 15, 3) := by decide +kernel
theorem dX11_taken_36 : decode cX11_taken 36 = .ok (.iload_n 3, 1) := by decide +kernel
theorem dX11_taken_37 : decode cX11_taken 37 = .ok (.ifCond .le 11, 3) := by decide +kernel
theorem dX11_taken_40 : decode cX11_taken 40 = .ok (.iload_n 3, 1) := by decide +kernel
theorem dX11_taken_41 : decode cX11_taken 41 = .ok (.invokestatic 293, 3) := by decide +kernel
theorem dX11_taken_44 : decode cX11_taken 44 = .ok (.istore_n 3, 1) := by decide +kernel
theorem dX11_taken_45 : decode cX11_taken 45 = .ok (.goto (-14), 3) := by decide +kernel
theorem dX11_taken_48 : decode cX11_taken 48 = .ok (.iload_n 3, 1) := by decide +kernel
theorem dX11_taken_49 : decode cX11_taken 49 = .ok (.iload_n 2, 1) := by decide +kernel
theorem dX11_taken_50 : decode cX11_taken 50 = .ok (.if_icmp .ne 12, 3) := by decide +kernel
theorem dX11_taken_53 : decode cX11_taken 53 = .ok (.aload_n 0, 1) := by decide +kernel
theorem dX11_taken_54 : decode cX11_taken 54 = .ok (.getfield 21, 3) := by decide +kernel
theorem dX11_taken_57 : decode cX11_taken 57 = .ok (.iload_n 1, 1) := by decide +kernel
theorem dX11_taken_58 : decode cX11_taken 58 = .ok (.iaload, 1) := by decide +kernel
theorem dX11_taken_59 : decode cX11_taken 59 = .ok (.goto 5, 3) := by decide +kernel
theorem dX11_taken_62 : decode cX11_taken 62 = .ok (.bipush (-12), 2) := by decide +kernel
theorem dX11_taken_64 : decode cX11_taken 64 = .ok (.ireturn, 1) := by decide +kernel
theorem dX11_count_0 : decode cX11_count 0 = .ok (.iload_n 1, 1) := by decide +kernel
theorem dX11_count_1 : decode cX11_count 1 = .ok (.tableswitch 69 0 5 #[39, 44, 49, 54, 59, 64], 39) := by decide +kernel
theorem dX11_count_40 : decode cX11_count 40 = .ok (.aload_n 0, 1) := by decide +kernel
theorem dX11_count_41 : decode cX11_count 41 = .ok (.getfield 95, 3) := by decide +kernel
theorem dX11_count_44 : decode cX11_count 44 = .ok (.ireturn, 1) := by decide +kernel
theorem dX11_count_45 : decode cX11_count 45 = .ok (.aload_n 0, 1) := by decide +kernel
theorem dX11_count_46 : decode cX11_count 46 = .ok (.getfield 134, 3) := by decide +kernel
theorem dX11_count_49 : decode cX11_count 49 = .ok (.ireturn, 1) := by decide +kernel
theorem dX11_count_50 : decode cX11_count 50 = .ok (.aload_n 0, 1) := by decide +kernel
theorem dX11_count_51 : decode cX11_count 51 = .ok (.getfield 245, 3) := by decide +kernel
theorem dX11_count_54 : decode cX11_count 54 = .ok (.ireturn, 1) := by decide +kernel
theorem dX11_count_55 : decode cX11_count 55 = .ok (.aload_n 0, 1) := by decide +kernel
theorem dX11_count_56 : decode cX11_count 56 = .ok (.getfield 276, 3) := by decide +kernel
theorem dX11_count_59 : decode cX11_count 59 = .ok (.ireturn, 1) := by decide +kernel
theorem dX11_count_60 : decode cX11_count 60 = .ok (.aload_n 0, 1) := by decide +kernel
theorem dX11_count_61 : decode cX11_count 61 = .ok (.getfield 286, 3) := by decide +kernel
theorem dX11_count_64 : decode cX11_count 64 = .ok (.ireturn, 1) := by decide +kernel
theorem dX11_count_65 : decode cX11_count 65 = .ok (.aload_n 0, 1) := by decide +kernel
theorem dX11_count_66 : decode cX11_count 66 = .ok (.getfield 140, 3) := by decide +kernel
theorem dX11_count_69 : decode cX11_count 69 = .ok (.ireturn, 1) := by decide +kernel
theorem dX11_count_70 : decode cX11_count 70 = .ok (.bipush (-2), 2) := by decide +kernel
theorem dX11_count_72 : decode cX11_count 72 = .ok (.ireturn, 1) := by decide +kernel
theorem dX11_isTape_0 : decode cX11_isTape 0 = .ok (.iload_n 0, 1) := by decide +kernel
theorem dX11_isTape_1 : decode cX11_isTape 1 = .ok (.iconst 0, 1) := by decide +kernel
theorem dX11_isTape_2 : decode cX11_isTape 2 = .ok (.iconst 5, 1) := by decide +kernel
theorem dX11_isTape_3 : decode cX11_isTape 3 = .ok (.invokestatic 99, 3) := by decide +kernel
theorem dX11_isTape_6 : decode cX11_isTape 6 = .ok (.ireturn, 1) := by decide +kernel
theorem dX11_tape_0 : decode cX11_tape 0 = .ok (.iload_n 1, 1) := by decide +kernel
theorem dX11_tape_1 : decode cX11_tape 1 = .ok (.invokestatic 296, 3) := by decide +kernel
theorem dX11_tape_4 : decode cX11_tape 4 = .ok (.ifCond .ne 5, 3) := by decide +kernel
theorem dX11_tape_7 : decode cX11_tape 7 = .ok (.iconst (-1), 1) := by decide +kernel
theorem dX11_tape_8 : decode cX11_tape 8 = .ok (.ireturn, 1) := by decide +kernel
theorem dX11_tape_9 : decode cX11_tape 9 = .ok (.iload_n 2, 1) := by decide +kernel
theorem dX11_tape_10 : decode cX11_tape 10 = .ok (.iconst (-1), 1) := by decide +kernel
theorem dX11_tape_11 : decode cX11_tape 11 = .ok (.iconst 4, 1) := by decide +kernel
theorem dX11_tape_12 : decode cX11_tape 12 = .ok (.invokestatic 99, 3) := by decide +kernel
theorem dX11_tape_15 : decode cX11_tape 15 = .ok (.ifCond .eq 13, 3) := by decide +kernel
theorem dX11_tape_18 : decode cX11_tape 18 = .ok (.iload_n 2, 1) := by decide +kernel
theorem dX11_tape_19 : decode cX11_tape 19 = .ok (.ifCond .lt 12, 3) := by decide +kernel
theorem dX11_tape_22 : decode cX11_tape 22 = .ok (.iload_n 3, 1) := by decide +kernel
theorem dX11_tape_23 : decode cX11_tape 23 = .ok (.bipush 60, 2) := by decide +kernel
theorem dX11_tape_25 : decode cX11_tape 25 = .ok (.if_icmp .le 6, 3) := by decide +kernel
theorem dX11_tape_28 : decode cX11_tape 28 = .ok (.bipush (-2), 2) := by decide +kernel
theorem dX11_tape_30 : decode cX11_tape 30 = .ok (.ireturn, 1) := by decide +kernel
theorem dX11_tape_31 : decode cX11_tape 31 = .ok (.iload_n 2, 1) := by decide +kernel
theorem dX11_tape_32 : decode cX11_tape 32 = .ok (.ifCond .lt 10, 3) := by decide +kernel
theorem dX11_tape_35 : decode cX11_tape 35 = .ok (.iload_n 3, 1) := by decide +kernel
theorem dX11_tape_36 : decode cX11_tape 36 = .ok (.ifCond .ge 6, 3) := by decide +kernel
theorem dX11_tape_39 : decode cX11_tape 39 = .ok (.bipush (-14), 2) := by decide +kernel
theorem dX11_tape_41 : decode cX11_tape 41 = .ok (.ireturn, 1) := by decide +kernel
theorem dX11_tape_42 : decode cX11_tape 42 = .ok (.aload_n 0, 1) := by decide +kernel
theorem dX11_tape_43 : decode cX11_tape 43 = .ok (.getfield 81, 3) := by decide +kernel
theorem dX11_tape_46 : decode cX11_tape 46 = .ok (.iload_n 1, 1) := by decide +kernel
theorem dX11_tape_47 : decode cX11_tape 47 = .ok (.iload_n 2, 1) := by decide +kernel
theorem dX11_tape_48 : decode cX11_tape 48 = .ok (.iastore, 1) := by decide +kernel
theorem dX11_tape_49 : decode cX11_tape 49 = .ok (.aload_n 0, 1) := by decide +kernel
theorem dX11_tape_50 : decode cX11_tape 50 = .ok (.getfield 84, 3) := by decide +kernel
theorem dX11_tape_53 : decode cX11_tape 53 = .ok (.iload_n 1, 1) := by decide +kernel
theorem dX11_tape_54 : decode cX11_tape 54 = .ok (.iload_n 2, 1) := by decide +kernel
theorem dX11_tape_55 : decode cX11_tape 55 = .ok (.ifCond .ge 7, 3) := by decide +kernel
theorem dX11_tape_58 : decode cX11_tape 58 = .ok (.iconst 0, 1) := by decide +kernel
theorem dX11_tape_59 : decode cX11_tape 59 = .ok (.goto 4, 3) := by decide +kernel
theorem dX11_tape_62 : decode cX11_tape 62 = .ok (.iload_n 3, 1) := by decide +kernel
theorem dX11_tape_63 : decode cX11_tape 63 = .ok (.iastore, 1) := by decide +kernel
theorem dX11_tape_64 : decode cX11_tape 64 = .ok (.iconst 0, 1) := by decide +kernel
theorem dX11_tape_65 : decode cX11_tape 65 = .ok (.istore 4, 2) := by decide +kernel
theorem dX11_tape_67 : decode cX11_tape 67 = .ok (.iload 4, 2) := by decide +kernel
theorem dX11_tape_69 : decode cX11_tape 69 = .ok (.bipush 60, 2) := by decide +kernel
theorem dX11_tape_71 : decode cX11_tape 71 = .ok (.if_icmp .ge 22, 3) := by decide +kernel
theorem dX11_tape_74 : decode cX11_tape 74 = .ok (.aload_n 0, 1) := by decide +kernel
theorem dX11_tape_75 : decode cX11_tape 75 = .ok (.getfield 87, 3) := by decide +kernel
theorem dX11_tape_78 : decode cX11_tape 78 = .ok (.bipush 60, 2) := by decide +kernel
theorem dX11_tape_80 : decode cX11_tape 80 = .ok (.iload_n 1, 1) := by decide +kernel
theorem dX11_tape_81 : decode cX11_tape 81 = .ok (.imul, 1) := by decide +kernel
theorem dX11_tape_82 : decode cX11_tape 82 = .ok (.iload 4, 2) := by decide +kernel
theorem dX11_tape_84 : decode cX11_tape 84 = .ok (.iadd, 1) := by decide +kernel
theorem dX11_tape_85 : decode cX11_tape 85 = .ok (.lconst 0, 1) := by decide +kernel
theorem dX11_tape_86 : decode cX11_tape 86 = .ok (.lastore, 1) := by decide +kernel
theorem dX11_tape_87 : decode cX11_tape 87 = .ok (.iinc 4 1, 3) := by decide +kernel
theorem dX11_tape_90 : decode cX11_tape 90 = .ok (.goto (-23), 3) := by decide +kernel
theorem dX11_tape_93 : decode cX11_tape 93 = .ok (.iconst 1, 1) := by decide +kernel
theorem dX11_tape_94 : decode cX11_tape 94 = .ok (.ireturn, 1) := by decide +kernel
theorem dX11_kept_0 : decode cX11_kept 0 = .ok (.iload_n 0, 1) := by decide +kernel
theorem dX11_kept_1 : decode cX11_kept 1 = .ok (.tableswitch 47 0 3 #[31, 36, 41, 45], 31) := by decide +kernel
theorem dX11_kept_32 : decode cX11_kept 32 = .ok (.lload_n 1, 1) := by decide +kernel
theorem dX11_kept_33 : decode cX11_kept 33 = .ok (.l2i, 1) := by decide +kernel
theorem dX11_kept_34 : decode cX11_kept 34 = .ok (.i2b, 1) := by decide +kernel
theorem dX11_kept_35 : decode cX11_kept 35 = .ok (.i2l, 1) := by decide +kernel
theorem dX11_kept_36 : decode cX11_kept 36 = .ok (.lreturn, 1) := by decide +kernel
theorem dX11_kept_37 : decode cX11_kept 37 = .ok (.lload_n 1, 1) := by decide +kernel
theorem dX11_kept_38 : decode cX11_kept 38 = .ok (.l2i, 1) := by decide +kernel
theorem dX11_kept_39 : decode cX11_kept 39 = .ok (.i2s, 1) := by decide +kernel
theorem dX11_kept_40 : decode cX11_kept 40 = .ok (.i2l, 1) := by decide +kernel
theorem dX11_kept_41 : decode cX11_kept 41 = .ok (.lreturn, 1) := by decide +kernel
theorem dX11_kept_42 : decode cX11_kept 42 = .ok (.lload_n 1, 1) := by decide +kernel
theorem dX11_kept_43 : decode cX11_kept 43 = .ok (.l2i, 1) := by decide +kernel
theorem dX11_kept_44 : decode cX11_kept 44 = .ok (.i2l, 1) := by decide +kernel
theorem dX11_kept_45 : decode cX11_kept 45 = .ok (.lreturn, 1) := by decide +kernel
theorem dX11_kept_46 : decode cX11_kept 46 = .ok (.lload_n 1, 1) := by decide +kernel
theorem dX11_kept_47 : decode cX11_kept 47 = .ok (.lreturn, 1) := by decide +kernel
theorem dX11_kept_48 : decode cX11_kept 48 = .ok (.lload_n 1, 1) := by decide +kernel
theorem dX11_kept_49 : decode cX11_kept 49 = .ok (.lconst 0, 1) := by decide +kernel
theorem dX11_kept_50 : decode cX11_kept 50 = .ok (.lcmp, 1) := by decide +kernel
theorem dX11_kept_51 : decode cX11_kept 51 = .ok (.ifCond .eq 7, 3) := by decide +kernel
theorem dX11_kept_54 : decode cX11_kept 54 = .ok (.lconst 1, 1) := by decide +kernel
theorem dX11_kept_55 : decode cX11_kept 55 = .ok (.goto 4, 3) := by decide +kernel
theorem dX11_kept_58 : decode cX11_kept 58 = .ok (.lconst 0, 1) := by decide +kernel
theorem dX11_kept_59 : decode cX11_kept 59 = .ok (.lreturn, 1) := by decide +kernel
theorem dX11_item_0 : decode cX11_item 0 = .ok (.iload_n 1, 1) := by decide +kernel
theorem dX11_item_1 : decode cX11_item 1 = .ok (.invokestatic 296, 3) := by decide +kernel
theorem dX11_item_4 : decode cX11_item 4 = .ok (.ifCond .ne 5, 3) := by decide +kernel
theorem dX11_item_7 : decode cX11_item 7 = .ok (.iconst (-1), 1) := by decide +kernel
theorem dX11_item_8 : decode cX11_item 8 = .ok (.ireturn, 1) := by decide +kernel
theorem dX11_item_9 : decode cX11_item 9 = .ok (.aload_n 0, 1) := by decide +kernel
theorem dX11_item_10 : decode cX11_item 10 = .ok (.getfield 81, 3) := by decide +kernel
theorem dX11_item_13 : decode cX11_item 13 = .ok (.iload_n 1, 1) := by decide +kernel
theorem dX11_item_14 : decode cX11_item 14 = .ok (.iaload, 1) := by decide +kernel
theorem dX11_item_15 : decode cX11_item 15 = .ok (.ifCond .ge 6, 3) := by decide +kernel
theorem dX11_item_18 : decode cX11_item 18 = .ok (.bipush (-11), 2) := by decide +kernel
theorem dX11_item_20 : decode cX11_item 20 = .ok (.ireturn, 1) := by decide +kernel
theorem dX11_item_21 : decode cX11_item 21 = .ok (.iload_n 2, 1) := by decide +kernel
theorem dX11_item_22 : decode cX11_item 22 = .ok (.iconst 0, 1) := by decide +kernel
theorem dX11_item_23 : decode cX11_item 23 = .ok (.aload_n 0, 1) := by decide +kernel
theorem dX11_item_24 : decode cX11_item 24 = .ok (.getfield 84, 3) := by decide +kernel
theorem dX11_item_27 : decode cX11_item 27 = .ok (.iload_n 1, 1) := by decide +kernel
theorem dX11_item_28 : decode cX11_item 28 = .ok (.iaload, 1) := by decide +kernel
theorem dX11_item_29 : decode cX11_item 29 = .ok (.iconst 1, 1) := by decide +kernel
theorem dX11_item_30 : decode cX11_item 30 = .ok (.isub, 1) := by decide +kernel
theorem dX11_item_31 : decode cX11_item 31 = .ok (.invokestatic 99, 3) := by decide +kernel
theorem dX11_item_34 : decode cX11_item 34 = .ok (.ifCond .ne 6, 3) := by decide +kernel
theorem dX11_item_37 : decode cX11_item 37 = .ok (.bipush (-13), 2) := by decide +kernel
theorem dX11_item_39 : decode cX11_item 39 = .ok (.ireturn, 1) := by decide +kernel
theorem dX11_item_40 : decode cX11_item 40 = .ok (.aload_n 0, 1) := by decide +kernel
theorem dX11_item_41 : decode cX11_item 41 = .ok (.getfield 87, 3) := by decide +kernel
theorem dX11_item_44 : decode cX11_item 44 = .ok (.bipush 60, 2) := by decide +kernel
theorem dX11_item_46 : decode cX11_item 46 = .ok (.iload_n 1, 1) := by decide +kernel
theorem dX11_item_47 : decode cX11_item 47 = .ok (.imul, 1) := by decide +kernel
theorem dX11_item_48 : decode cX11_item 48 = .ok (.iload_n 2, 1) := by decide +kernel
theorem dX11_item_49 : decode cX11_item 49 = .ok (.iadd, 1) := by decide +kernel
theorem dX11_item_50 : decode cX11_item 50 = .ok (.aload_n 0, 1) := by decide +kernel
theorem dX11_item_51 : decode cX11_item 51 = .ok (.getfield 81, 3) := by decide +kernel
theorem dX11_item_54 : decode cX11_item 54 = .ok (.iload_n 1, 1) := by decide +kernel
theorem dX11_item_55 : decode cX11_item 55 = .ok (.iaload, 1) := by decide +kernel
theorem dX11_item_56 : decode cX11_item 56 = .ok (.lload_n 3, 1) := by decide +kernel
theorem dX11_item_57 : decode cX11_item 57 = .ok (.invokestatic 299, 3) := by decide +kernel
theorem dX11_item_60 : decode cX11_item 60 = .ok (.lastore, 1) := by decide +kernel
theorem dX11_item_61 : decode cX11_item 61 = .ok (.iconst 1, 1) := by decide +kernel
theorem dX11_item_62 : decode cX11_item 62 = .ok (.ireturn, 1) := by decide +kernel
theorem dX11_read_0 : decode cX11_read 0 = .ok (.iload_n 1, 1) := by decide +kernel
theorem dX11_read_1 : decode cX11_read 1 = .ok (.invokestatic 296, 3) := by decide +kernel
theorem dX11_read_4 : decode cX11_read 4 = .ok (.ifCond .eq 42, 3) := by decide +kernel
theorem dX11_read_7 : decode cX11_read 7 = .ok (.aload_n 0, 1) := by decide +kernel
theorem dX11_read_8 : decode cX11_read 8 = .ok (.getfield 81, 3) := by decide +kernel
theorem dX11_read_11 : decode cX11_read 11 = .ok (.iload_n 1, 1) := by decide +kernel
theorem dX11_read_12 : decode cX11_read 12 = .ok (.iaload, 1) := by decide +kernel
theorem dX11_read_13 : decode cX11_read 13 = .ok (.ifCond .lt 33, 3) := by decide +kernel
theorem dX11_read_16 : decode cX11_read 16 = .ok (.iload_n 2, 1) := by decide +kernel
theorem dX11_read_17 : decode cX11_read 17 = .ok (.iconst 0, 1) := by decide +kernel
theorem dX11_read_18 : decode cX11_read 18 = .ok (.aload_n 0, 1) := by decide +kernel
theorem dX11_read_19 : decode cX11_read 19 = .ok (.getfield 84, 3) := by decide +kernel
theorem dX11_read_22 : decode cX11_read 22 = .ok (.iload_n 1, 1) := by decide +kernel
theorem dX11_read_23 : decode cX11_read 23 = .ok (.iaload, 1) := by decide +kernel
theorem dX11_read_24 : decode cX11_read 24 = .ok (.iconst 1, 1) := by decide +kernel
theorem dX11_read_25 : decode cX11_read 25 = .ok (.isub, 1) := by decide +kernel
theorem dX11_read_26 : decode cX11_read 26 = .ok (.invokestatic 99, 3) := by decide +kernel
theorem dX11_read_29 : decode cX11_read 29 = .ok (.ifCond .eq 17, 3) := by decide +kernel
theorem dX11_read_32 : decode cX11_read 32 = .ok (.aload_n 0, 1) := by decide +kernel
theorem dX11_read_33 : decode cX11_read 33 = .ok (.getfield 87, 3) := by decide +kernel
theorem dX11_read_36 : decode cX11_read 36 = .ok (.bipush 60, 2) := by decide +kernel
theorem dX11_read_38 : decode cX11_read 38 = .ok (.iload_n 1, 1) := by decide +kernel
theorem dX11_read_39 : decode cX11_read 39 = .ok (.imul, 1) := by decide +kernel
theorem dX11_read_40 : decode cX11_read 40 = .ok (.iload_n 2, 1) := by decide +kernel
theorem dX11_read_41 : decode cX11_read 41 = .ok (.iadd, 1) := by decide +kernel
theorem dX11_read_42 : decode cX11_read 42 = .ok (.laload, 1) := by decide +kernel
theorem dX11_read_43 : decode cX11_read 43 = .ok (.goto 6, 3) := by decide +kernel
theorem dX11_read_46 : decode cX11_read 46 = .ok (.ldc2_w 260, 3) := by decide +kernel
theorem dX11_read_49 : decode cX11_read 49 = .ok (.lreturn, 1) := by decide +kernel
theorem dX11_shift_0 : decode cX11_shift 0 = .ok (.iload_n 1, 1) := by decide +kernel
theorem dX11_shift_1 : decode cX11_shift 1 = .ok (.invokestatic 296, 3) := by decide +kernel
theorem dX11_shift_4 : decode cX11_shift 4 = .ok (.ifCond .eq 10, 3) := by decide +kernel
theorem dX11_shift_7 : decode cX11_shift 7 = .ok (.iload_n 3, 1) := by decide +kernel
theorem dX11_shift_8 : decode cX11_shift 8 = .ok (.invokestatic 296, 3) := by decide +kernel
theorem dX11_shift_11 : decode cX11_shift 11 = .ok (.ifCond .ne 5, 3) := by decide +kernel
theorem dX11_shift_14 : decode cX11_shift 14 = .ok (.iconst (-1), 1) := by decide +kernel
theorem dX11_shift_15 : decode cX11_shift 15 = .ok (.ireturn, 1) := by decide +kernel
theorem dX11_shift_16 : decode cX11_shift 16 = .ok (.aload_n 0, 1) := by decide +kernel
theorem dX11_shift_17 : decode cX11_shift 17 = .ok (.getfield 81, 3) := by decide +kernel
theorem dX11_shift_20 : decode cX11_shift 20 = .ok (.iload_n 1, 1) := by decide +kernel
theorem dX11_shift_21 : decode cX11_shift 21 = .ok (.iaload, 1) := by decide +kernel
theorem dX11_shift_22 : decode cX11_shift 22 = .ok (.ifCond .lt 12, 3) := by decide +kernel
theorem dX11_shift_25 : decode cX11_shift 25 = .ok (.aload_n 0, 1) := by decide +kernel
theorem dX11_shift_26 : decode cX11_shift 26 = .ok (.getfield 81, 3) := by decide +kernel
theorem dX11_shift_29 : decode cX11_shift 29 = .ok (.iload_n 3, 1) := by decide +kernel
theorem dX11_shift_30 : decode cX11_shift 30 = .ok (.iaload, 1) := by decide +kernel
theorem dX11_shift_31 : decode cX11_shift 31 = .ok (.ifCond .ge 6, 3) := by decide +kernel
theorem dX11_shift_34 : decode cX11_shift 34 = .ok (.bipush (-11), 2) := by decide +kernel
theorem dX11_shift_36 : decode cX11_shift 36 = .ok (.ireturn, 1) := by decide +kernel
theorem dX11_shift_37 : decode cX11_shift 37 = .ok (.aload_n 0, 1) := by decide +kernel
theorem dX11_shift_38 : decode cX11_shift 38 = .ok (.getfield 81, 3) := by decide +kernel
theorem dX11_shift_41 : decode cX11_shift 41 = .ok (.iload_n 1, 1) := by decide +kernel
theorem dX11_shift_42 : decode cX11_shift 42 = .ok (.iaload, 1) := by decide +kernel
theorem dX11_shift_43 : decode cX11_shift 43 = .ok (.aload_n 0, 1) := by decide +kernel
theorem dX11_shift_44 : decode cX11_shift 44 = .ok (.getfield 81, 3) := by decide +kernel
theorem dX11_shift_47 : decode cX11_shift 47 = .ok (.iload_n 3, 1) := by decide +kernel
theorem dX11_shift_48 : decode cX11_shift 48 = .ok (.iaload, 1) := by decide +kernel
theorem dX11_shift_49 : decode cX11_shift 49 = .ok (.if_icmp .eq 6, 3) := by decide +kernel
theorem dX11_shift_52 : decode cX11_shift 52 = .ok (.bipush (-12), 2) := by decide +kernel
theorem dX11_shift_54 : decode cX11_shift 54 = .ok (.ireturn, 1) := by decide +kernel
theorem dX11_shift_55 : decode cX11_shift 55 = .ok (.iload 5, 2) := by decide +kernel
theorem dX11_shift_57 : decode cX11_shift 57 = .ok (.ifCond .lt 47, 3) := by decide +kernel
theorem dX11_shift_60 : decode cX11_shift 60 = .ok (.iload_n 2, 1) := by decide +kernel
theorem dX11_shift_61 : decode cX11_shift 61 = .ok (.ifCond .lt 43, 3) := by decide +kernel
theorem dX11_shift_64 : decode cX11_shift 64 = .ok (.iload 4, 2) := by decide +kernel
theorem dX11_shift_66 : decode cX11_shift 66 = .ok (.ifCond .lt 38, 3) := by decide +kernel
theorem dX11_shift_69 : decode cX11_shift 69 = .ok (.iload_n 2, 1) := by decide +kernel
theorem dX11_shift_70 : decode cX11_shift 70 = .ok (.i2l, 1) := by decide +kernel
theorem dX11_shift_71 : decode cX11_shift 71 = .ok (.iload 5, 2) := by decide +kernel
theorem dX11_shift_73 : decode cX11_shift 73 = .ok (.i2l, 1) := by decide +kernel
theorem dX11_shift_74 : decode cX11_shift 74 = .ok (.ladd, 1) := by decide +kernel
theorem dX11_shift_75 : decode cX11_shift 75 = .ok (.aload_n 0, 1) := by decide +kernel
theorem dX11_shift_76 : decode cX11_shift 76 = .ok (.getfield 84, 3) := by decide +kernel
theorem dX11_shift_79 : decode cX11_shift 79 = .ok (.iload_n 1, 1) := by decide +kernel
theorem dX11_shift_80 : decode cX11_shift 80 = .ok (.iaload, 1) := by decide +kernel
theorem dX11_shift_81 : decode cX11_shift 81 = .ok (.i2l, 1) := by decide +kernel
theorem dX11_shift_82 : decode cX11_shift 82 = .ok (.lcmp, 1) := by decide +kernel
theorem dX11_shift_83 : decode cX11_shift 83 = .ok (.ifCond .gt 21, 3) := by decide +kernel
theorem dX11_shift_86 : decode cX11_shift 86 = .ok (.iload 4, 2) := by decide +kernel
theorem dX11_shift_88 : decode cX11_shift 88 = .ok (.i2l, 1) := by decide +kernel
theorem dX11_shift_89 : decode cX11_shift 89 = .ok (.iload 5, 2) := by decide +kernel
theorem dX11_shift_91 : decode cX11_shift 91 = .ok (.i2l, 1) := by decide +kernel
theorem dX11_shift_92 : decode cX11_shift 92 = .ok (.ladd, 1) := by decide +kernel
theorem dX11_shift_93 : decode cX11_shift 93 = .ok (.aload_n 0, 1) := by decide +kernel
theorem dX11_shift_94 : decode cX11_shift 94 = .ok (.getfield 84, 3) := by decide +kernel
theorem dX11_shift_97 : decode cX11_shift 97 = .ok (.iload_n 3, 1) := by decide +kernel
theorem dX11_shift_98 : decode cX11_shift 98 = .ok (.iaload, 1) := by decide +kernel
theorem dX11_shift_99 : decode cX11_shift 99 = .ok (.i2l, 1) := by decide +kernel
theorem dX11_shift_100 : decode cX11_shift 100 = .ok (.lcmp, 1) := by decide +kernel
theorem dX11_shift_101 : decode cX11_shift 101 = .ok (.ifCond .le 6, 3) := by decide +kernel
theorem dX11_shift_104 : decode cX11_shift 104 = .ok (.bipush (-13), 2) := by decide +kernel
theorem dX11_shift_106 : decode cX11_shift 106 = .ok (.ireturn, 1) := by decide +kernel
theorem dX11_shift_107 : decode cX11_shift 107 = .ok (.iload_n 1, 1) := by decide +kernel
theorem dX11_shift_108 : decode cX11_shift 108 = .ok (.iload_n 3, 1) := by decide +kernel
theorem dX11_shift_109 : decode cX11_shift 109 = .ok (.if_icmp .ne 58, 3) := by decide +kernel
theorem dX11_shift_112 : decode cX11_shift 112 = .ok (.iload_n 2, 1) := by decide +kernel
theorem dX11_shift_113 : decode cX11_shift 113 = .ok (.iload 4, 2) := by decide +kernel
theorem dX11_shift_115 : decode cX11_shift 115 = .ok (.if_icmp .ge 52, 3) := by decide +kernel
theorem dX11_shift_118 : decode cX11_shift 118 = .ok (.iload 5, 2) := by decide +kernel
theorem dX11_shift_120 : decode cX11_shift 120 = .ok (.iconst 1, 1) := by decide +kernel
theorem dX11_shift_121 : decode cX11_shift 121 = .ok (.isub, 1) := by decide +kernel
theorem dX11_shift_122 : decode cX11_shift 122 = .ok (.istore 6, 2) := by decide +kernel
theorem dX11_shift_124 : decode cX11_shift 124 = .ok (.iload 6, 2) := by decide +kernel
theorem dX11_shift_126 : decode cX11_shift 126 = .ok (.ifCond .lt 38, 3) := by decide +kernel
theorem dX11_shift_129 : decode cX11_shift 129 = .ok (.aload_n 0, 1) := by decide +kernel
theorem dX11_shift_130 : decode cX11_shift 130 = .ok (.getfield 87, 3) := by decide +kernel
theorem dX11_shift_133 : decode cX11_shift 133 = .ok (.bipush 60, 2) := by decide +kernel
theorem dX11_shift_135 : decode cX11_shift 135 = .ok (.iload_n 3, 1) := by decide +kernel
theorem dX11_shift_136 : decode cX11_shift 136 = .ok (.imul, 1) := by decide +kernel
theorem dX11_shift_137 : decode cX11_shift 137 = .ok (.iload 4, 2) := by decide +kernel
theorem dX11_shift_139 : decode cX11_shift 139 = .ok (.iadd, 1) := by decide +kernel
theorem dX11_shift_140 : decode cX11_shift 140 = .ok (.iload 6, 2) := by decide +kernel
theorem dX11_shift_142 : decode cX11_shift 142 = .ok (.iadd, 1) := by decide +kernel
theorem dX11_shift_143 : decode cX11_shift 143 = .ok (.aload_n 0, 1) := by decide +kernel
theorem dX11_shift_144 : decode cX11_shift 144 = .ok (.getfield 87, 3) := by decide +kernel
theorem dX11_shift_147 : decode cX11_shift 147 = .ok (.bipush 60, 2) := by decide +kernel
theorem dX11_shift_149 : decode cX11_shift 149 = .ok (.iload_n 1, 1) := by decide +kernel
theorem dX11_shift_150 : decode cX11_shift 150 = .ok (.imul, 1) := by decide +kernel
theorem dX11_shift_151 : decode cX11_shift 151 = .ok (.iload_n 2, 1) := by decide +kernel
theorem dX11_shift_152 : decode cX11_shift 152 = .ok (.iadd, 1) := by decide +kernel
theorem dX11_shift_153 : decode cX11_shift 153 = .ok (.iload 6, 2) := by decide +kernel
theorem dX11_shift_155 : decode cX11_shift 155 = .ok (.iadd, 1) := by decide +kernel
theorem dX11_shift_156 : decode cX11_shift 156 = .ok (.laload, 1) := by decide +kernel
theorem dX11_shift_157 : decode cX11_shift 157 = .ok (.lastore, 1) := by decide +kernel
theorem dX11_shift_158 : decode cX11_shift 158 = .ok (.iinc 6 (-1), 3) := by decide +kernel
theorem dX11_shift_161 : decode cX11_shift 161 = .ok (.goto (-37), 3) := by decide +kernel
theorem dX11_shift_164 : decode cX11_shift 164 = .ok (.goto 48, 3) := by decide +kernel
theorem dX11_shift_167 : decode cX11_shift 167 = .ok (.iconst 0, 1) := by decide +kernel
theorem dX11_shift_168 : decode cX11_shift 168 = .ok (.istore 6, 2) := by decide +kernel
theorem dX11_shift_170 : decode cX11_shift 170 = .ok (.iload 6, 2) := by decide +kernel
theorem dX11_shift_172 : decode cX11_shift 172 = .ok (.iload 5, 2) := by decide +kernel
theorem dX11_shift_174 : decode cX11_shift 174 = .ok (.if_icmp .ge 38, 3) := by decide +kernel
theorem dX11_shift_177 : decode cX11_shift 177 = .ok (.aload_n 0, 1) := by decide +kernel
theorem dX11_shift_178 : decode cX11_shift 178 = .ok (.getfield 87, 3) := by decide +kernel
theorem dX11_shift_181 : decode cX11_shift 181 = .ok (.bipush 60, 2) := by decide +kernel
theorem dX11_shift_183 : decode cX11_shift 183 = .ok (.iload_n 3, 1) := by decide +kernel
theorem dX11_shift_184 : decode cX11_shift 184 = .ok (.imul, 1) := by decide +kernel
theorem dX11_shift_185 : decode cX11_shift 185 = .ok (.iload 4, 2) := by decide +kernel
theorem dX11_shift_187 : decode cX11_shift 187 = .ok (.iadd, 1) := by decide +kernel
theorem dX11_shift_188 : decode cX11_shift 188 = .ok (.iload 6, 2) := by decide +kernel
theorem dX11_shift_190 : decode cX11_shift 190 = .ok (.iadd, 1) := by decide +kernel
theorem dX11_shift_191 : decode cX11_shift 191 = .ok (.aload_n 0, 1) := by decide +kernel
theorem dX11_shift_192 : decode cX11_shift 192 = .ok (.getfield 87, 3) := by decide +kernel
theorem dX11_shift_195 : decode cX11_shift 195 = .ok (.bipush 60, 2) := by decide +kernel
theorem dX11_shift_197 : decode cX11_shift 197 = .ok (.iload_n 1, 1) := by decide +kernel
theorem dX11_shift_198 : decode cX11_shift 198 = .ok (.imul, 1) := by decide +kernel
theorem dX11_shift_199 : decode cX11_shift 199 = .ok (.iload_n 2, 1) := by decide +kernel
theorem dX11_shift_200 : decode cX11_shift 200 = .ok (.iadd, 1) := by decide +kernel
theorem dX11_shift_201 : decode cX11_shift 201 = .ok (.iload 6, 2) := by decide +kernel
theorem dX11_shift_203 : decode cX11_shift 203 = .ok (.iadd, 1) := by decide +kernel
theorem dX11_shift_204 : decode cX11_shift 204 = .ok (.laload, 1) := by decide +kernel
theorem dX11_shift_205 : decode cX11_shift 205 = .ok (.lastore, 1) := by decide +kernel
theorem dX11_shift_206 : decode cX11_shift 206 = .ok (.iinc 6 1, 3) := by decide +kernel
theorem dX11_shift_209 : decode cX11_shift 209 = .ok (.goto (-39), 3) := by decide +kernel
theorem dX11_shift_212 : decode cX11_shift 212 = .ok (.iload 5, 2) := by decide +kernel
theorem dX11_shift_214 : decode cX11_shift 214 = .ok (.ireturn, 1) := by decide +kernel

theorem dX12_init_0 : decode cX12_init 0 = .ok (.aload_n 0, 1) := by decide +kernel
theorem dX12_init_1 : decode cX12_init 1 = .ok (.invokespecial 1, 3) := by decide +kernel
theorem dX12_init_4 : decode cX12_init 4 = .ok (.aload_n 0, 1) := by decide +kernel
theorem dX12_init_5 : decode cX12_init 5 = .ok (.sipush 160, 3) := by decide +kernel
theorem dX12_init_8 : decode cX12_init 8 = .ok (.newarray .byte, 2) := by decide +kernel
theorem dX12_init_10 : decode cX12_init 10 = .ok (.putfield 9, 3) := by decide +kernel
theorem dX12_init_13 : decode cX12_init 13 = .ok (.aload_n 0, 1) := by decide +kernel
theorem dX12_init_14 : decode cX12_init 14 = .ok (.sipush 640, 3) := by decide +kernel
theorem dX12_init_17 : decode cX12_init 17 = .ok (.newarray .byte, 2) := by decide +kernel
theorem dX12_init_19 : decode cX12_init 19 = .ok (.putfield 13, 3) := by decide +kernel
theorem dX12_init_22 : decode cX12_init 22 = .ok (.aload_n 0, 1) := by decide +kernel
theorem dX12_init_23 : decode cX12_init 23 = .ok (.iconst 4, 1) := by decide +kernel
theorem dX12_init_24 : decode cX12_init 24 = .ok (.newarray .int, 2) := by decide +kernel
theorem dX12_init_26 : decode cX12_init 26 = .ok (.putfield 16, 3) := by decide +kernel
theorem dX12_init_29 : decode cX12_init 29 = .ok (.aload_n 0, 1) := by decide +kernel
theorem dX12_init_30 : decode cX12_init 30 = .ok (.sipush 128, 3) := by decide +kernel
theorem dX12_init_33 : decode cX12_init 33 = .ok (.newarray .int, 2) := by decide +kernel
theorem dX12_init_35 : decode cX12_init 35 = .ok (.putfield 20, 3) := by decide +kernel
theorem dX12_init_38 : decode cX12_init 38 = .ok (.aload_n 0, 1) := by decide +kernel
theorem dX12_init_39 : decode cX12_init 39 = .ok (.aload_n 0, 1) := by decide +kernel
theorem dX12_init_40 : decode cX12_init 40 = .ok (.getfield 9, 3) := by decide +kernel
theorem dX12_init_43 : decode cX12_init 43 = .ok (.putfield 23, 3) := by decide +kernel
theorem dX12_init_46 : decode cX12_init 46 = .ok (.aload_n 0, 1) := by decide +kernel
theorem dX12_init_47 : decode cX12_init 47 = .ok (.ldc 26, 2) := by decide +kernel
theorem dX12_init_49 : decode cX12_init 49 = .ok (.putfield 28, 3) := by decide +kernel
theorem dX12_init_52 : decode cX12_init 52 = .ok (.aload_n 0, 1) := by decide +kernel
theorem dX12_init_53 : decode cX12_init 53 = .ok (.ldc 32, 2) := by decide +kernel
theorem dX12_init_55 : decode cX12_init 55 = .ok (.putfield 34, 3) := by decide +kernel
theorem dX12_init_58 : decode cX12_init 58 = .ok (.aload_n 0, 1) := by decide +kernel
theorem dX12_init_59 : decode cX12_init 59 = .ok (.iconst 3, 1) := by decide +kernel
theorem dX12_init_60 : decode cX12_init 60 = .ok (.newarray .int, 2) := by decide +kernel
theorem dX12_init_62 : decode cX12_init 62 = .ok (.putfield 37, 3) := by decide +kernel
theorem dX12_init_65 : decode cX12_init 65 = .ok (.aload_n 0, 1) := by decide +kernel
theorem dX12_init_66 : decode cX12_init 66 = .ok (.iconst 3, 1) := by decide +kernel
theorem dX12_init_67 : decode cX12_init 67 = .ok (.newarray .int, 2) := by decide +kernel
theorem dX12_init_69 : decode cX12_init 69 = .ok (.putfield 40, 3) := by decide +kernel
theorem dX12_init_72 : decode cX12_init 72 = .ok (.aload_n 0, 1) := by decide +kernel
theorem dX12_init_73 : decode cX12_init 73 = .ok (.bipush 8, 2) := by decide +kernel
theorem dX12_init_75 : decode cX12_init 75 = .ok (.newarray .int, 2) := by decide +kernel
theorem dX12_init_77 : decode cX12_init 77 = .ok (.putfield 43, 3) := by decide +kernel
theorem dX12_init_80 : decode cX12_init 80 = .ok (.aload_n 0, 1) := by decide +kernel
theorem dX12_init_81 : decode cX12_init 81 = .ok (.bipush 8, 2) := by decide +kernel
theorem dX12_init_83 : decode cX12_init 83 = .ok (.newarray .int, 2) := by decide +kernel
theorem dX12_init_85 : decode cX12_init 85 = .ok (.putfield 46, 3) := by decide +kernel
theorem dX12_init_88 : decode cX12_init 88 = .ok (.aload_n 0, 1) := by decide +kernel
theorem dX12_init_89 : decode cX12_init 89 = .ok (.bipush 8, 2) := by decide +kernel
theorem dX12_init_91 : decode cX12_init 91 = .ok (.newarray .int, 2) := by decide +kernel
theorem dX12_init_93 : decode cX12_init 93 = .ok (.putfield 49, 3) := by decide +kernel
theorem dX12_init_96 : decode cX12_init 96 = .ok (.aload_n 0, 1) := by decide +kernel
theorem dX12_init_97 : decode cX12_init 97 = .ok (.bipush 8, 2) := by decide +kernel
theorem dX12_init_99 : decode cX12_init 99 = .ok (.newarray .int, 2) := by decide +kernel
theorem dX12_init_101 : decode cX12_init 101 = .ok (.putfield 52, 3) := by decide +kernel
theorem dX12_init_104 : decode cX12_init 104 = .ok (.aload_n 0, 1) := by decide +kernel
theorem dX12_init_105 : decode cX12_init 105 = .ok (.bipush 20, 2) := by decide +kernel
theorem dX12_init_107 : decode cX12_init 107 = .ok (.newarray .int, 2) := by decide +kernel
theorem dX12_init_109 : decode cX12_init 109 = .ok (.putfield 55, 3) := by decide +kernel
theorem dX12_init_112 : decode cX12_init 112 = .ok (.aload_n 0, 1) := by decide +kernel
theorem dX12_init_113 : decode cX12_init 113 = .ok (.bipush 20, 2) := by decide +kernel
theorem dX12_init_115 : decode cX12_init 115 = .ok (.newarray .int, 2) := by decide +kernel
theorem dX12_init_117 : decode cX12_init 117 = .ok (.putfield 58, 3) := by decide +kernel
theorem dX12_init_120 : decode cX12_init 120 = .ok (.aload_n 0, 1) := by decide +kernel
theorem dX12_init_121 : decode cX12_init 121 = .ok (.iconst 3, 1) := by decide +kernel
theorem dX12_init_122 : decode cX12_init 122 = .ok (.newarray .int, 2) := by decide +kernel
theorem dX12_init_124 : decode cX12_init 124 = .ok (.putfield 61, 3) := by decide +kernel
theorem dX12_init_127 : decode cX12_init 127 = .ok (.aload_n 0, 1) := by decide +kernel
theorem dX12_init_128 : decode cX12_init 128 = .ok (.iconst (-1), 1) := by decide +kernel
theorem dX12_init_129 : decode cX12_init 129 = .ok (.putfield 64, 3) := by decide +kernel
theorem dX12_init_132 : decode cX12_init 132 = .ok (.aload_n 0, 1) := by decide +kernel
theorem dX12_init_133 : decode cX12_init 133 = .ok (.sipush 800, 3) := by decide +kernel
theorem dX12_init_136 : decode cX12_init 136 = .ok (.newarray .int, 2) := by decide +kernel
theorem dX12_init_138 : decode cX12_init 138 = .ok (.putfield 68, 3) := by decide +kernel
theorem dX12_init_141 : decode cX12_init 141 = .ok (.aload_n 0, 1) := by decide +kernel
theorem dX12_init_142 : decode cX12_init 142 = .ok (.sipush 800, 3) := by decide +kernel
theorem dX12_init_145 : decode cX12_init 145 = .ok (.newarray .int, 2) := by decide +kernel
theorem dX12_init_147 : decode cX12_init 147 = .ok (.putfield 71, 3) := by decide +kernel
theorem dX12_init_150 : decode cX12_init 150 = .ok (.aload_n 0, 1) := by decide +kernel
theorem dX12_init_151 : decode cX12_init 151 = .ok (.bipush 120, 2) := by decide +kernel
theorem dX12_init_153 : decode cX12_init 153 = .ok (.newarray .int, 2) := by decide +kernel
theorem dX12_init_155 : decode cX12_init 155 = .ok (.putfield 74, 3) := by decide +kernel
theorem dX12_init_158 : decode cX12_init 158 = .ok (.aload_n 0, 1) := by decide +kernel
theorem dX12_init_159 : decode cX12_init 159 = .ok (.bipush 21, 2) := by decide +kernel
theorem dX12_init_161 : decode cX12_init 161 = .ok (.newarray .long, 2) := by decide +kernel
theorem dX12_init_163 : decode cX12_init 163 = .ok (.putfield 77, 3) := by decide +kernel
theorem dX12_init_166 : decode cX12_init 166 = .ok (.aload_n 0, 1) := by decide +kernel
theorem dX12_init_167 : decode cX12_init 167 = .ok (.sipush 441, 3) := by decide +kernel
theorem dX12_init_170 : decode cX12_init 170 = .ok (.newarray .long, 2) := by decide +kernel
theorem dX12_init_172 : decode cX12_init 172 = .ok (.putfield 81, 3) := by decide +kernel
theorem dX12_init_175 : decode cX12_init 175 = .ok (.aload_n 0, 1) := by decide +kernel
theorem dX12_init_176 : decode cX12_init 176 = .ok (.bipush 21, 2) := by decide +kernel
theorem dX12_init_178 : decode cX12_init 178 = .ok (.newarray .long, 2) := by decide +kernel
theorem dX12_init_180 : decode cX12_init 180 = .ok (.putfield 84, 3) := by decide +kernel
theorem dX12_init_183 : decode cX12_init 183 = .ok (.aload_n 0, 1) := by decide +kernel
theorem dX12_init_184 : decode cX12_init 184 = .ok (.bipush 21, 2) := by decide +kernel
theorem dX12_init_186 : decode cX12_init 186 = .ok (.newarray .long, 2) := by decide +kernel
theorem dX12_init_188 : decode cX12_init 188 = .ok (.putfield 87, 3) := by decide +kernel
theorem dX12_init_191 : decode cX12_init 191 = .ok (.aload_n 0, 1) := by decide +kernel
theorem dX12_init_192 : decode cX12_init 192 = .ok (.bipush 21, 2) := by decide +kernel
theorem dX12_init_194 : decode cX12_init 194 = .ok (.newarray .int, 2) := by decide +kernel
theorem dX12_init_196 : decode cX12_init 196 = .ok (.putfield 90, 3) := by decide +kernel
theorem dX12_init_199 : decode cX12_init 199 = .ok (.aload_n 0, 1) := by decide +kernel
theorem dX12_init_200 : decode cX12_init 200 = .ok (.bipush 20, 2) := by decide +kernel
theorem dX12_init_202 : decode cX12_init 202 = .ok (.newarray .int, 2) := by decide +kernel
theorem dX12_init_204 : decode cX12_init 204 = .ok (.putfield 93, 3) := by decide +kernel
theorem dX12_init_207 : decode cX12_init 207 = .ok (.aload_n 0, 1) := by decide +kernel
theorem dX12_init_208 : decode cX12_init 208 = .ok (.bipush 12, 2) := by decide +kernel
theorem dX12_init_210 : decode cX12_init 210 = .ok (.newarray .int, 2) := by decide +kernel
theorem dX12_init_212 : decode cX12_init 212 = .ok (.putfield 96, 3) := by decide +kernel
theorem dX12_init_215 : decode cX12_init 215 = .ok (.aload_n 0, 1) := by decide +kernel
theorem dX12_init_216 : decode cX12_init 216 = .ok (.sipush 4096, 3) := by decide +kernel
theorem dX12_init_219 : decode cX12_init 219 = .ok (.newarray .long, 2) := by decide +kernel
theorem dX12_init_221 : decode cX12_init 221 = .ok (.putfield 99, 3) := by decide +kernel
theorem dX12_init_224 : decode cX12_init 224 = .ok (.aload_n 0, 1) := by decide +kernel
theorem dX12_init_225 : decode cX12_init 225 = .ok (.bipush 20, 2) := by decide +kernel
theorem dX12_init_227 : decode cX12_init 227 = .ok (.newarray .int, 2) := by decide +kernel
theorem dX12_init_229 : decode cX12_init 229 = .ok (.putfield 102, 3) := by decide +kernel
theorem dX12_init_232 : decode cX12_init 232 = .ok (.aload_n 0, 1) := by decide +kernel
theorem dX12_init_233 : decode cX12_init 233 = .ok (.bipush 20, 2) := by decide +kernel
theorem dX12_init_235 : decode cX12_init 235 = .ok (.newarray .int, 2) := by decide +kernel
theorem dX12_init_237 : decode cX12_init 237 = .ok (.putfield 105, 3) := by decide +kernel
theorem dX12_init_240 : decode cX12_init 240 = .ok (.aload_n 0, 1) := by decide +kernel
theorem dX12_init_241 : decode cX12_init 241 = .ok (.iconst 3, 1) := by decide +kernel
theorem dX12_init_242 : decode cX12_init 242 = .ok (.newarray .int, 2) := by decide +kernel
theorem dX12_init_244 : decode cX12_init 244 = .ok (.putfield 108, 3) := by decide +kernel
theorem dX12_init_247 : decode cX12_init 247 = .ok (.return_, 1) := by decide +kernel
theorem dX12_thrown_0 : decode cX12_thrown 0 = .ok (.aload_n 0, 1) := by decide +kernel
theorem dX12_thrown_1 : decode cX12_thrown 1 = .ok (.getfield 111, 3) := by decide +kernel
theorem dX12_thrown_4 : decode cX12_thrown 4 = .ok (.ireturn, 1) := by decide +kernel
theorem dX12_isIn_0 : decode cX12_isIn 0 = .ok (.lload_n 0, 1) := by decide +kernel
theorem dX12_isIn_1 : decode cX12_isIn 1 = .ok (.lload_n 2, 1) := by decide +kernel
theorem dX12_isIn_2 : decode cX12_isIn 2 = .ok (.lcmp, 1) := by decide +kernel
theorem dX12_isIn_3 : decode cX12_isIn 3 = .ok (.ifCond .lt 14, 3) := by decide +kernel
theorem dX12_isIn_6 : decode cX12_isIn 6 = .ok (.lload_n 0, 1) := by decide +kernel
theorem dX12_isIn_7 : decode cX12_isIn 7 = .ok (.lload 4, 2) := by decide +kernel
theorem dX12_isIn_9 : decode cX12_isIn 9 = .ok (.lcmp, 1) := by decide +kernel
theorem dX12_isIn_10 : decode cX12_isIn 10 = .ok (.ifCond .gt 7, 3) := by decide +kernel
theorem dX12_isIn_13 : decode cX12_isIn 13 = .ok (.iconst 1, 1) := by decide +kernel
theorem dX12_isIn_14 : decode cX12_isIn 14 = .ok (.goto 4, 3) := by decide +kernel
theorem dX12_isIn_17 : decode cX12_isIn 17 = .ok (.iconst 0, 1) := by decide +kernel
theorem dX12_isIn_18 : decode cX12_isIn 18 = .ok (.ireturn, 1) := by decide +kernel
theorem dX12_has_0 : decode cX12_has 0 = .ok (.iload_n 0, 1) := by decide +kernel
theorem dX12_has_1 : decode cX12_has 1 = .ok (.iload_n 1, 1) := by decide +kernel
theorem dX12_has_2 : decode cX12_has 2 = .ok (.ishr, 1) := by decide +kernel
theorem dX12_has_3 : decode cX12_has 3 = .ok (.iconst 1, 1) := by decide +kernel
theorem dX12_has_4 : decode cX12_has 4 = .ok (.iand, 1) := by decide +kernel
theorem dX12_has_5 : decode cX12_has 5 = .ok (.iconst 1, 1) := by decide +kernel
theorem dX12_has_6 : decode cX12_has 6 = .ok (.if_icmp .ne 7, 3) := by decide +kernel
theorem dX12_has_9 : decode cX12_has 9 = .ok (.iconst 1, 1) := by decide +kernel
theorem dX12_has_10 : decode cX12_has 10 = .ok (.goto 4, 3) := by decide +kernel
theorem dX12_has_13 : decode cX12_has 13 = .ok (.iconst 0, 1) := by decide +kernel
theorem dX12_has_14 : decode cX12_has 14 = .ok (.ireturn, 1) := by decide +kernel
theorem dX12_isAmong_0 : decode cX12_isAmong 0 = .ok (.iconst 0, 1) := by decide +kernel
theorem dX12_isAmong_1 : decode cX12_isAmong 1 = .ok (.istore_n 2, 1) := by decide +kernel
theorem dX12_isAmong_2 : decode cX12_isAmong 2 = .ok (.iload_n 2, 1) := by decide +kernel
theorem dX12_isAmong_3 : decode cX12_isAmong 3 = .ok (.aload_n 0, 1) := by decide +kernel
theorem dX12_isAmong_4 : decode cX12_isAmong 4 = .ok (.invokevirtual 114, 3) := by decide +kernel
theorem dX12_isAmong_7 : decode cX12_isAmong 7 = .ok (.if_icmp .ge 20, 3) := by decide +kernel
theorem dX12_isAmong_10 : decode cX12_isAmong 10 = .ok (.aload_n 0, 1) := by decide +kernel
theorem dX12_isAmong_11 : decode cX12_isAmong 11 = .ok (.iload_n 2, 1) := by decide +kernel
theorem dX12_isAmong_12 : decode cX12_isAmong 12 = .ok (.invokevirtual 120, 3) := by decide +kernel
theorem dX12_isAmong_15 : decode cX12_isAmong 15 = .ok (.iload_n 1, 1) := by decide +kernel
theorem dX12_isAmong_16 : decode cX12_isAmong 16 = .ok (.if_icmp .ne 5, 3) := by decide +kernel
theorem dX12_isAmong_19 : decode cX12_isAmong 19 = .ok (.iconst 1, 1) := by decide +kernel
theorem dX12_isAmong_20 : decode cX12_isAmong 20 = .ok (.ireturn, 1) := by decide +kernel
theorem dX12_isAmong_21 : decode cX12_isAmong 21 = .ok (.iinc 2 1, 3) := by decide +kernel
theorem dX12_isAmong_24 : decode cX12_isAmong 24 = .ok (.goto (-22), 3) := by decide +kernel
theorem dX12_isAmong_27 : decode cX12_isAmong 27 = .ok (.iconst 0, 1) := by decide +kernel
theorem dX12_isAmong_28 : decode cX12_isAmong 28 = .ok (.ireturn, 1) := by decide +kernel
theorem dX12_bytesIn_0 : decode cX12_bytesIn 0 = .ok (.iconst 0, 1) := by decide +kernel
theorem dX12_bytesIn_1 : decode cX12_bytesIn 1 = .ok (.istore_n 1, 1) := by decide +kernel
theorem dX12_bytesIn_2 : decode cX12_bytesIn 2 = .ok (.bipush 24, 2) := by decide +kernel
theorem dX12_bytesIn_4 : decode cX12_bytesIn 4 = .ok (.istore_n 2, 1) := by decide +kernel
theorem dX12_bytesIn_5 : decode cX12_bytesIn 5 = .ok (.iload_n 2, 1) := by decide +kernel
theorem dX12_bytesIn_6 : decode cX12_bytesIn 6 = .ok (.ifCond .lt 27, 3) := by decide +kernel
theorem dX12_bytesIn_9 : decode cX12_bytesIn 9 = .ok (.iload_n 1, 1) := by decide +kernel
theorem dX12_bytesIn_10 : decode cX12_bytesIn 10 = .ok (.iload_n 0, 1) := by decide +kernel
theorem dX12_bytesIn_11 : decode cX12_bytesIn 11 = .ok (.iload_n 2, 1) := by decide +kernel
theorem dX12_bytesIn_12 : decode cX12_bytesIn 12 = .ok (.ishr, 1) := by decide +kernel
theorem dX12_bytesIn_13 : decode cX12_bytesIn 13 = .ok (.sipush 255, 3) := by decide +kernel
theorem dX12_bytesIn_16 : decode cX12_bytesIn 16 = .ok (.iand, 1) := by decide +kernel
theorem dX12_bytesIn_17 : decode cX12_bytesIn 17 = .ok (.ifCond .eq 7, 3) := by decide +kernel
theorem dX12_bytesIn_20 : decode cX12_bytesIn 20 = .ok (.iconst 1, 1) := by decide +kernel
theorem dX12_bytesIn_21 : decode cX12_bytesIn 21 = .ok (.goto 4, 3) := by decide +kernel
theorem dX12_bytesIn_24 : decode cX12_bytesIn 24 = .ok (.iconst 0, 1) := by decide +kernel
theorem dX12_bytesIn_25 : decode cX12_bytesIn 25 = .ok (.iadd, 1) := by decide +kernel
theorem dX12_bytesIn_26 : decode cX12_bytesIn 26 = .ok (.istore_n 1, 1) := by decide +kernel
theorem dX12_bytesIn_27 : decode cX12_bytesIn 27 = .ok (.iinc 2 (-8), 3) := by decide +kernel
theorem dX12_bytesIn_30 : decode cX12_bytesIn 30 = .ok (.goto (-25), 3) := by decide +kernel
theorem dX12_bytesIn_33 : decode cX12_bytesIn 33 = .ok (.iload_n 1, 1) := by decide +kernel
theorem dX12_bytesIn_34 : decode cX12_bytesIn 34 = .ok (.ireturn, 1) := by decide +kernel
theorem dX12_put_0 : decode cX12_put 0 = .ok (.bipush 24, 2) := by decide +kernel
theorem dX12_put_2 : decode cX12_put 2 = .ok (.istore_n 2, 1) := by decide +kernel
theorem dX12_put_3 : decode cX12_put 3 = .ok (.iload_n 2, 1) := by decide +kernel
theorem dX12_put_4 : decode cX12_put 4 = .ok (.ifCond .lt 45, 3) := by decide +kernel
theorem dX12_put_7 : decode cX12_put 7 = .ok (.iload_n 1, 1) := by decide +kernel
theorem dX12_put_8 : decode cX12_put 8 = .ok (.iload_n 2, 1) := by decide +kernel
theorem dX12_put_9 : decode cX12_put 9 = .ok (.ishr, 1) := by decide +kernel
theorem dX12_put_10 : decode cX12_put 10 = .ok (.sipush 255, 3) := by decide +kernel
theorem dX12_put_13 : decode cX12_put 13 = .ok (.iand, 1) := by decide +kernel
theorem dX12_put_14 : decode cX12_put 14 = .ok (.ifCond .ne 6, 3) := by decide +kernel
theorem dX12_put_17 : decode cX12_put 17 = .ok (.goto 26, 3) := by decide +kernel
theorem dX12_put_20 : decode cX12_put 20 = .ok (.aload_n 0, 1) := by decide +kernel
theorem dX12_put_21 : decode cX12_put 21 = .ok (.getfield 9, 3) := by decide +kernel
theorem dX12_put_24 : decode cX12_put 24 = .ok (.aload_n 0, 1) := by decide +kernel
theorem dX12_put_25 : decode cX12_put 25 = .ok (.getfield 124, 3) := by decide +kernel
theorem dX12_put_28 : decode cX12_put 28 = .ok (.iload_n 1, 1) := by decide +kernel
theorem dX12_put_29 : decode cX12_put 29 = .ok (.iload_n 2, 1) := by decide +kernel
theorem dX12_put_30 : decode cX12_put 30 = .ok (.ishr, 1) := by decide +kernel
theorem dX12_put_31 : decode cX12_put 31 = .ok (.i2b, 1) := by decide +kernel
theorem dX12_put_32 : decode cX12_put 32 = .ok (.bastore, 1) := by decide +kernel
theorem dX12_put_33 : decode cX12_put 33 = .ok (.aload_n 0, 1) := by decide +kernel
theorem dX12_put_34 : decode cX12_put 34 = .ok (.dup, 1) := by decide +kernel
theorem dX12_put_35 : decode cX12_put 35 = .ok (.getfield 124, 3) := by decide +kernel
theorem dX12_put_38 : decode cX12_put 38 = .ok (.iconst 1, 1) := by decide +kernel
theorem dX12_put_39 : decode cX12_put 39 = .ok (.iadd, 1) := by decide +kernel
theorem dX12_put_40 : decode cX12_put 40 = .ok (.putfield 124, 3) := by decide +kernel
theorem dX12_put_43 : decode cX12_put 43 = .ok (.iinc 2 (-8), 3) := by decide +kernel
theorem dX12_put_46 : decode cX12_put 46 = .ok (.goto (-43), 3) := by decide +kernel
theorem dX12_put_49 : decode cX12_put 49 = .ok (.return_, 1) := by decide +kernel
theorem dX12_feed_0 : decode cX12_feed 0 = .ok (.aload_n 0, 1) := by decide +kernel
theorem dX12_feed_1 : decode cX12_feed 1 = .ok (.iconst 0, 1) := by decide +kernel
theorem dX12_feed_2 : decode cX12_feed 2 = .ok (.putfield 111, 3) := by decide +kernel
theorem dX12_feed_5 : decode cX12_feed 5 = .ok (.aload_n 0, 1) := by decide +kernel
theorem dX12_feed_6 : decode cX12_feed 6 = .ok (.getfield 124, 3) := by decide +kernel
theorem dX12_feed_9 : decode cX12_feed 9 = .ok (.iload_n 1, 1) := by decide +kernel
theorem dX12_feed_10 : decode cX12_feed 10 = .ok (.invokestatic 126, 3) := by decide +kernel
theorem dX12_feed_13 : decode cX12_feed 13 = .ok (.iadd, 1) := by decide +kernel
theorem dX12_feed_14 : decode cX12_feed 14 = .ok (.iload_n 2, 1) := by decide +kernel
theorem dX12_feed_15 : decode cX12_feed 15 = .ok (.invokestatic 126, 3) := by decide +kernel
theorem dX12_feed_18 : decode cX12_feed 18 = .ok (.iadd, 1) := by decide +kernel
theorem dX12_feed_19 : decode cX12_feed 19 = .ok (.iload_n 3, 1) := by decide +kernel
theorem dX12_feed_20 : decode cX12_feed 20 = .ok (.invokestatic 126, 3) := by decide +kernel
theorem dX12_feed_23 : decode cX12_feed 23 = .ok (.iadd, 1) := by decide +kernel
theorem dX12_feed_24 : decode cX12_feed 24 = .ok (.iload 4, 2) := by decide +kernel
theorem dX12_feed_26 : decode cX12_feed 26 = .ok (.invokestatic 126, 3) := by decide +kernel
theorem dX12_feed_29 : decode cX12_feed 29 = .ok (.iadd, 1) := by decide +kernel
theorem dX12_feed_30 : decode cX12_feed 30 = .ok (.iload 5, 2) := by decide +kernel
theorem dX12_feed_32 : decode cX12_feed 32 = .ok (.invokestatic 126, 3) := by decide +kernel
theorem dX12_feed_35 : decode cX12_feed 35 = .ok (.iadd, 1) := by decide +kernel
theorem dX12_feed_36 : decode cX12_feed 36 = .ok (.sipush 160, 3) := by decide +kernel
theorem dX12_feed_39 : decode cX12_feed 39 = .ok (.if_icmp .le 5, 3) := by decide +kernel
theorem dX12_feed_42 : decode cX12_feed 42 = .ok (.iconst (-1), 1) := by decide +kernel
theorem dX12_feed_43 : decode cX12_feed 43 = .ok (.ireturn, 1) := by decide +kernel
theorem dX12_feed_44 : decode cX12_feed 44 = .ok (.aload_n 0, 1) := by decide +kernel
theorem dX12_feed_45 : decode cX12_feed 45 = .ok (.iload_n 1, 1) := by decide +kernel
theorem dX12_feed_46 : decode cX12_feed 46 = .ok (.invokevirtual 130, 3) := by decide +kernel
theorem dX12_feed_49 : decode cX12_feed 49 = .ok (.aload_n 0, 1) := by decide +kernel
theorem dX12_feed_50 : decode cX12_feed 50 = .ok (.iload_n 2, 1) := by decide +kernel
theorem dX12_feed_51 : decode cX12_feed 51 = .ok (.invokevirtual 130, 3) := by decide +kernel
theorem dX12_feed_54 : decode cX12_feed 54 = .ok (.aload_n 0, 1) := by decide +kernel
theorem dX12_feed_55 : decode cX12_feed 55 = .ok (.iload_n 3, 1) := by decide +kernel
theorem dX12_feed_56 : decode cX12_feed 56 = .ok (.invokevirtual 130, 3) := by decide +kernel
theorem dX12_feed_59 : decode cX12_feed 59 = .ok (.aload_n 0, 1) := by decide +kernel
theorem dX12_feed_60 : decode cX12_feed 60 = .ok (.iload 4, 2) := by decide +kernel
theorem dX12_feed_62 : decode cX12_feed 62 = .ok (.invokevirtual 130, 3) := by decide +kernel
theorem dX12_feed_65 : decode cX12_feed 65 = .ok (.aload_n 0, 1) := by decide +kernel
theorem dX12_feed_66 : decode cX12_feed 66 = .ok (.iload 5, 2) := by decide +kernel
theorem dX12_feed_68 : decode cX12_feed 68 = .ok (.invokevirtual 130, 3) := by decide +kernel
theorem dX12_feed_71 : decode cX12_feed 71 = .ok (.aload_n 0, 1) := by decide +kernel
theorem dX12_feed_72 : decode cX12_feed 72 = .ok (.getfield 124, 3) := by decide +kernel
theorem dX12_feed_75 : decode cX12_feed 75 = .ok (.ireturn, 1) := by decide +kernel
theorem dX12_end_0 : decode cX12_end 0 = .ok (.aload_n 0, 1) := by decide +kernel
theorem dX12_end_1 : decode cX12_end 1 = .ok (.iconst 0, 1) := by decide +kernel
theorem dX12_end_2 : decode cX12_end 2 = .ok (.putfield 111, 3) := by decide +kernel
theorem dX12_end_5 : decode cX12_end 5 = .ok (.iload_n 1, 1) := by decide +kernel
theorem dX12_end_6 : decode cX12_end 6 = .ok (.ifCond .lt 11, 3) := by decide +kernel
theorem dX12_end_9 : decode cX12_end 9 = .ok (.iload_n 1, 1) := by decide +kernel
theorem dX12_end_10 : decode cX12_end 10 = .ok (.aload_n 0, 1) := by decide +kernel
theorem dX12_end_11 : decode cX12_end 11 = .ok (.getfield 124, 3) := by decide +kernel
theorem dX12_end_14 : decode cX12_end 14 = .ok (.if_icmp .le 5, 3) := by decide +kernel
theorem dX12_end_17 : decode cX12_end 17 = .ok (.iconst 0, 1) := by decide +kernel
theorem dX12_end_18 : decode cX12_end 18 = .ok (.ireturn, 1) := by decide +kernel
theorem dX12_end_19 : decode cX12_end 19 = .ok (.aload_n 0, 1) := by decide +kernel
theorem dX12_end_20 : decode cX12_end 20 = .ok (.iload_n 1, 1) := by decide +kernel
theorem dX12_end_21 : decode cX12_end 21 = .ok (.putfield 124, 3) := by decide +kernel
theorem dX12_end_24 : decode cX12_end 24 = .ok (.iconst 1, 1) := by decide +kernel
theorem dX12_end_25 : decode cX12_end 25 = .ok (.ireturn, 1) := by decide +kernel
theorem dX12_look_0 : decode cX12_look 0 = .ok (.aload_n 0, 1) := by decide +kernel
theorem dX12_look_1 : decode cX12_look 1 = .ok (.getfield 134, 3) := by decide +kernel
theorem dX12_look_4 : decode cX12_look 4 = .ok (.aload_n 0, 1) := by decide +kernel
theorem dX12_look_5 : decode cX12_look 5 = .ok (.getfield 137, 3) := by decide +kernel
theorem dX12_look_8 : decode cX12_look 8 = .ok (.if_icmp .ge 35, 3) := by decide +kernel
theorem dX12_look_11 : decode cX12_look 11 = .ok (.aload_n 0, 1) := by decide +kernel
theorem dX12_look_12 : decode cX12_look 12 = .ok (.getfield 23, 3) := by decide +kernel
theorem dX12_look_15 : decode cX12_look 15 = .ok (.aload_n 0, 1) := by decide +kernel
theorem dX12_look_16 : decode cX12_look 16 = .ok (.getfield 140, 3) := by decide +kernel
theorem dX12_look_19 : decode cX12_look 19 = .ok (.aload_n 0, 1) := by decide +kernel
theorem dX12_look_20 : decode cX12_look 20 = .ok (.getfield 134, 3) := by decide +kernel
theorem dX12_look_23 : decode cX12_look 23 = .ok (.iadd, 1) := by decide +kernel
theorem dX12_look_24 : decode cX12_look 24 = .ok (.baload, 1) := by decide +kernel
theorem dX12_look_25 : decode cX12_look 25 = .ok (.bipush 32, 2) := by decide +kernel
theorem dX12_look_27 : decode cX12_look 27 = .ok (.if_icmp .ne 16, 3) := by decide +kernel
theorem dX12_look_30 : decode cX12_look 30 = .ok (.aload_n 0, 1) := by decide +kernel
theorem dX12_look_31 : decode cX12_look 31 = .ok (.dup, 1) := by decide +kernel
theorem dX12_look_32 : decode cX12_look 32 = .ok (.getfield 134, 3) := by decide +kernel
theorem dX12_look_35 : decode cX12_look 35 = .ok (.iconst 1, 1) := by decide +kernel
theorem dX12_look_36 : decode cX12_look 36 = .ok (.iadd, 1) := by decide +kernel
theorem dX12_look_37 : decode cX12_look 37 = .ok (.putfield 134, 3) := by decide +kernel
theorem dX12_look_40 : decode cX12_look 40 = .ok (.goto (-40), 3) := by decide +kernel
theorem dX12_look_43 : decode cX12_look 43 = .ok (.aload_n 0, 1) := by decide +kernel
theorem dX12_look_44 : decode cX12_look 44 = .ok (.getfield 134, 3) := by decide +kernel
theorem dX12_look_47 : decode cX12_look 47 = .ok (.aload_n 0, 1) := by decide +kernel
theorem dX12_look_48 : decode cX12_look 48 = .ok (.getfield 137, 3) := by decide +kernel
theorem dX12_look_51 : decode cX12_look 51 = .ok (.if_icmp .ge 24, 3) := by decide +kernel
theorem dX12_look_54 : decode cX12_look 54 = .ok (.aload_n 0, 1) := by decide +kernel
theorem dX12_look_55 : decode cX12_look 55 = .ok (.getfield 23, 3) := by decide +kernel
theorem dX12_look_58 : decode cX12_look 58 = .ok (.aload_n 0, 1) := by decide +kernel
theorem dX12_look_59 : decode cX12_look 59 = .ok (.getfield 140, 3) := by decide +kernel
theorem dX12_look_62 : decode cX12_look 62 = .ok (.aload_n 0, 1) := by decide +kernel
theorem dX12_look_63 : decode cX12_look 63 = .ok (.getfield 134, 3) := by decide +kernel
theorem dX12_look_66 : decode cX12_look 66 = .ok (.iadd, 1) := by decide +kernel
theorem dX12_look_67 : decode cX12_look 67 = .ok (.baload, 1) := by decide +kernel
theorem dX12_look_68 : decode cX12_look 68 = .ok (.sipush 255, 3) := by decide +kernel
theorem dX12_look_71 : decode cX12_look 71 = .ok (.iand, 1) := by decide +kernel
theorem dX12_look_72 : decode cX12_look 72 = .ok (.goto 4, 3) := by decide +kernel
theorem dX12_look_75 : decode cX12_look 75 = .ok (.iconst (-1), 1) := by decide +kernel
theorem dX12_look_76 : decode cX12_look 76 = .ok (.ireturn, 1) := by decide +kernel
theorem dX12_fails_0 : decode cX12_fails 0 = .ok (.aload_n 0, 1) := by decide +kernel
theorem dX12_fails_1 : decode cX12_fails 1 = .ok (.getfield 143, 3) := by decide +kernel
theorem dX12_fails_4 : decode cX12_fails 4 = .ok (.iconst (-1), 1) := by decide +kernel
theorem dX12_fails_5 : decode cX12_fails 5 = .ok (.if_icmp .ne 11, 3) := by decide +kernel
theorem dX12_fails_8 : decode cX12_fails 8 = .ok (.aload_n 0, 1) := by decide +kernel
theorem dX12_fails_9 : decode cX12_fails 9 = .ok (.aload_n 0, 1) := by decide +kernel
theorem dX12_fails_10 : decode cX12_fails 10 = .ok (.getfield 134, 3) := by decide +kernel
theorem dX12_fails_13 : decode cX12_fails 13 = .ok (.putfield 143, 3) := by decide +kernel
theorem dX12_fails_16 : decode cX12_fails 16 = .ok (.iconst 0, 1) := by decide +kernel
theorem dX12_fails_17 : decode cX12_fails 17 = .ok (.ireturn, 1) := by decide +kernel
theorem dX12_goesIn_0 : decode cX12_goesIn 0 = .ok (.aload_n 0, 1) := by decide +kernel
theorem dX12_goesIn_1 : decode cX12_goesIn 1 = .ok (.getfield 146, 3) := by decide +kernel
theorem dX12_goesIn_4 : decode cX12_goesIn 4 = .ok (.bipush 6, 2) := by decide +kernel
theorem dX12_goesIn_6 : decode cX12_goesIn 6 = .ok (.if_icmp .ne 8, 3) := by decide +kernel
theorem dX12_goesIn_9 : decode cX12_goesIn 9 = .ok (.aload_n 0, 1) := by decide +kernel
theorem dX12_goesIn_10 : decode cX12_goesIn 10 = .ok (.invokevirtual 149, 3) := by decide +kernel
theorem dX12_goesIn_13 : decode cX12_goesIn 13 = .ok (.ireturn, 1) := by decide +kernel
theorem dX12_goesIn_14 : decode cX12_goesIn 14 = .ok (.aload_n 0, 1) := by decide +kernel
theorem dX12_goesIn_15 : decode cX12_goesIn 15 = .ok (.dup, 1) := by decide +kernel
theorem dX12_goesIn_16 : decode cX12_goesIn 16 = .ok (.getfield 146, 3) := by decide +kernel
theorem dX12_goesIn_19 : decode cX12_goesIn 19 = .ok (.iconst 1, 1) := by decide +kernel
theorem dX12_goesIn_20 : decode cX12_goesIn 20 = .ok (.iadd, 1) := by decide +kernel
theorem dX12_goesIn_21 : decode cX12_goesIn 21 = .ok (.putfield 146, 3) := by decide +kernel
theorem dX12_goesIn_24 : decode cX12_goesIn 24 = .ok (.aload_n 0, 1) := by decide +kernel
theorem dX12_goesIn_25 : decode cX12_goesIn 25 = .ok (.dup, 1) := by decide +kernel
theorem dX12_goesIn_26 : decode cX12_goesIn 26 = .ok (.getfield 134, 3) := by decide +kernel
theorem dX12_goesIn_29 : decode cX12_goesIn 29 = .ok (.iconst 1, 1) := by decide +kernel
theorem dX12_goesIn_30 : decode cX12_goesIn 30 = .ok (.iadd, 1) := by decide +kernel
theorem dX12_goesIn_31 : decode cX12_goesIn 31 = .ok (.putfield 134, 3) := by decide +kernel
theorem dX12_goesIn_34 : decode cX12_goesIn 34 = .ok (.iconst 1, 1) := by decide +kernel
theorem dX12_goesIn_35 : decode cX12_goesIn 35 = .ok (.ireturn, 1) := by decide +kernel
theorem dX12_takes_0 : decode cX12_takes 0 = .ok (.aload_n 0, 1) := by decide +kernel
theorem dX12_takes_1 : decode cX12_takes 1 = .ok (.getfield 143, 3) := by decide +kernel
theorem dX12_takes_4 : decode cX12_takes 4 = .ok (.iconst (-1), 1) := by decide +kernel
theorem dX12_takes_5 : decode cX12_takes 5 = .ok (.if_icmp .ne 11, 3) := by decide +kernel
theorem dX12_takes_8 : decode cX12_takes 8 = .ok (.aload_n 0, 1) := by decide +kernel
theorem dX12_takes_9 : decode cX12_takes 9 = .ok (.invokevirtual 153, 3) := by decide +kernel
theorem dX12_takes_12 : decode cX12_takes 12 = .ok (.iload_n 1, 1) := by decide +kernel
theorem dX12_takes_13 : decode cX12_takes 13 = .ok (.if_icmp .eq 8, 3) := by decide +kernel
theorem dX12_takes_16 : decode cX12_takes 16 = .ok (.aload_n 0, 1) := by decide +kernel
theorem dX12_takes_17 : decode cX12_takes 17 = .ok (.invokevirtual 149, 3) := by decide +kernel
theorem dX12_takes_20 : decode cX12_takes 20 = .ok (.ireturn, 1) := by decide +kernel
theorem dX12_takes_21 : decode cX12_takes 21 = .ok (.aload_n 0, 1) := by decide +kernel
theorem dX12_takes_22 : decode cX12_takes 22 = .ok (.dup, 1) := by decide +kernel
theorem dX12_takes_23 : decode cX12_takes 23 = .ok (.getfield 134, 3) := by decide +kernel
theorem dX12_takes_26 : decode cX12_takes 26 = .ok (.iconst 1, 1) := by decide +kernel
theorem dX12_takes_27 : decode cX12_takes 27 = .ok (.iadd, 1) := by decide +kernel
theorem dX12_takes_28 : decode cX12_takes 28 = .ok (.putfield 134, 3) := by decide +kernel
theorem dX12_takes_31 : decode cX12_takes 31 = .ok (.iconst 1, 1) := by decide +kernel
theorem dX12_takes_32 : decode cX12_takes 32 = .ok (.ireturn, 1) := by decide +kernel
theorem dX12_isDigit_0 : decode cX12_isDigit 0 = .ok (.aload_n 0, 1) := by decide +kernel
theorem dX12_isDigit_1 : decode cX12_isDigit 1 = .ok (.getfield 134, 3) := by decide +kernel
theorem dX12_isDigit_4 : decode cX12_isDigit 4 = .ok (.aload_n 0, 1) := by decide +kernel
theorem dX12_isDigit_5 : decode cX12_isDigit 5 = .ok (.getfield 137, 3) := by decide +kernel
theorem dX12_isDigit_8 : decode cX12_isDigit 8 = .ok (.if_icmp .ge 45, 3) := by decide +kernel
theorem dX12_isDigit_11 : decode cX12_isDigit 11 = .ok (.aload_n 0, 1) := by decide +kernel
theorem dX12_isDigit_12 : decode cX12_isDigit 12 = .ok (.getfield 23, 3) := by decide +kernel
theorem dX12_isDigit_15 : decode cX12_isDigit 15 = .ok (.aload_n 0, 1) := by decide +kernel
theorem dX12_isDigit_16 : decode cX12_isDigit 16 = .ok (.getfield 140, 3) := by decide +kernel
theorem dX12_isDigit_19 : decode cX12_isDigit 19 = .ok (.aload_n 0, 1) := by decide +kernel
theorem dX12_isDigit_20 : decode cX12_isDigit 20 = .ok (.getfield 134, 3) := by decide +kernel
theorem dX12_isDigit_23 : decode cX12_isDigit 23 = .ok (.iadd, 1) := by decide +kernel
theorem dX12_isDigit_24 : decode cX12_isDigit 24 = .ok (.baload, 1) := by decide +kernel
theorem dX12_isDigit_25 : decode cX12_isDigit 25 = .ok (.bipush 48, 2) := by decide +kernel
theorem dX12_isDigit_27 : decode cX12_isDigit 27 = .ok (.if_icmp .lt 26, 3) := by decide +kernel
theorem dX12_isDigit_30 : decode cX12_isDigit 30 = .ok (.aload_n 0, 1) := by decide +kernel
theorem dX12_isDigit_31 : decode cX12_isDigit 31 = .ok (.getfield 23, 3) := by decide +kernel
theorem dX12_isDigit_34 : decode cX12_isDigit 34 = .ok (.aload_n 0, 1) := by decide +kernel
theorem dX12_isDigit_35 : decode cX12_isDigit 35 = .ok (.getfield 140, 3) := by decide +kernel
theorem dX12_isDigit_38 : decode cX12_isDigit 38 = .ok (.aload_n 0, 1) := by decide +kernel
theorem dX12_isDigit_39 : decode cX12_isDigit 39 = .ok (.getfield 134, 3) := by decide +kernel
theorem dX12_isDigit_42 : decode cX12_isDigit 42 = .ok (.iadd, 1) := by decide +kernel
theorem dX12_isDigit_43 : decode cX12_isDigit 43 = .ok (.baload, 1) := by decide +kernel
theorem dX12_isDigit_44 : decode cX12_isDigit 44 = .ok (.bipush 57, 2) := by decide +kernel
theorem dX12_isDigit_46 : decode cX12_isDigit 46 = .ok (.if_icmp .gt 7, 3) := by decide +kernel
theorem dX12_isDigit_49 : decode cX12_isDigit 49 = .ok (.iconst 1, 1) := by decide +kernel
theorem dX12_isDigit_50 : decode cX12_isDigit 50 = .ok (.goto 4, 3) := by decide +kernel
theorem dX12_isDigit_53 : decode cX12_isDigit 53 = .ok (.iconst 0, 1) := by decide +kernel
theorem dX12_isDigit_54 : decode cX12_isDigit 54 = .ok (.ireturn, 1) := by decide +kernel
theorem dX12_within_0 : decode cX12_within 0 = .ok (.ldc2_w 156, 3) := by decide +kernel
theorem dX12_within_3 : decode cX12_within 3 = .ok (.ldc2_w 158, 3) := by decide +kernel
theorem dX12_within_6 : decode cX12_within 6 = .ok (.lload_n 0, 1) := by decide +kernel
theorem dX12_within_7 : decode cX12_within 7 = .ok (.invokestatic 160, 3) := by decide +kernel
theorem dX12_within_10 : decode cX12_within 10 = .ok (.invokestatic 166, 3) := by decide +kernel
theorem dX12_within_13 : decode cX12_within 13 = .ok (.l2i, 1) := by decide +kernel
theorem dX12_within_14 : decode cX12_within 14 = .ok (.ireturn, 1) := by decide +kernel
theorem dX12_atom_0 : decode cX12_atom 0 = .ok (.aload_n 0, 1) := by decide +kernel
theorem dX12_atom_1 : decode cX12_atom 1 = .ok (.invokevirtual 153, 3) := by decide +kernel
theorem dX12_atom_4 : decode cX12_atom 4 = .ok (.istore_n 1, 1) := by decide +kernel
theorem dX12_atom_5 : decode cX12_atom 5 = .ok (.ldc 32, 2) := by decide +kernel
theorem dX12_atom_7 : decode cX12_atom 7 = .ok (.iload_n 1, 1) := by decide +kernel
theorem dX12_atom_8 : decode cX12_atom 8 = .ok (.invokestatic 169, 3) := by decide +kernel
theorem dX12_atom_11 : decode cX12_atom 11 = .ok (.ifCond .eq 20, 3) := by decide +kernel
theorem dX12_atom_14 : decode cX12_atom 14 = .ok (.aload_n 0, 1) := by decide +kernel
theorem dX12_atom_15 : decode cX12_atom 15 = .ok (.dup, 1) := by decide +kernel
theorem dX12_atom_16 : decode cX12_atom 16 = .ok (.getfield 134, 3) := by decide +kernel
theorem dX12_atom_19 : decode cX12_atom 19 = .ok (.iconst 1, 1) := by decide +kernel
theorem dX12_atom_20 : decode cX12_atom 20 = .ok (.iadd, 1) := by decide +kernel
theorem dX12_atom_21 : decode cX12_atom 21 = .ok (.putfield 134, 3) := by decide +kernel
theorem dX12_atom_24 : decode cX12_atom 24 = .ok (.aload_n 0, 1) := by decide +kernel
theorem dX12_atom_25 : decode cX12_atom 25 = .ok (.getfield 20, 3) := by decide +kernel
theorem dX12_atom_28 : decode cX12_atom 28 = .ok (.iload_n 1, 1) := by decide +kernel
theorem dX12_atom_29 : decode cX12_atom 29 = .ok (.iaload, 1) := by decide +kernel
theorem dX12_atom_30 : decode cX12_atom 30 = .ok (.ireturn, 1) := by decide +kernel
theorem dX12_atom_31 : decode cX12_atom 31 = .ok (.iload_n 1, 1) := by decide +kernel
theorem dX12_atom_32 : decode cX12_atom 32 = .ok (.bipush 91, 2) := by decide +kernel
theorem dX12_atom_34 : decode cX12_atom 34 = .ok (.if_icmp .ne 40, 3) := by decide +kernel
theorem dX12_atom_37 : decode cX12_atom 37 = .ok (.aload_n 0, 1) := by decide +kernel
theorem dX12_atom_38 : decode cX12_atom 38 = .ok (.invokevirtual 173, 3) := by decide +kernel
theorem dX12_atom_41 : decode cX12_atom 41 = .ok (.ifCond .ne 5, 3) := by decide +kernel
theorem dX12_atom_44 : decode cX12_atom 44 = .ok (.iconst 0, 1) := by decide +kernel
theorem dX12_atom_45 : decode cX12_atom 45 = .ok (.ireturn, 1) := by decide +kernel
theorem dX12_atom_46 : decode cX12_atom 46 = .ok (.aload_n 0, 1) := by decide +kernel
theorem dX12_atom_47 : decode cX12_atom 47 = .ok (.invokevirtual 176, 3) := by decide +kernel
theorem dX12_atom_50 : decode cX12_atom 50 = .ok (.istore_n 2, 1) := by decide +kernel
theorem dX12_atom_51 : decode cX12_atom 51 = .ok (.aload_n 0, 1) := by decide +kernel
theorem dX12_atom_52 : decode cX12_atom 52 = .ok (.bipush 93, 2) := by decide +kernel
theorem dX12_atom_54 : decode cX12_atom 54 = .ok (.invokevirtual 179, 3) := by decide +kernel
theorem dX12_atom_57 : decode cX12_atom 57 = .ok (.ifCond .ne 5, 3) := by decide +kernel
theorem dX12_atom_60 : decode cX12_atom 60 = .ok (.iconst 0, 1) := by decide +kernel
theorem dX12_atom_61 : decode cX12_atom 61 = .ok (.ireturn, 1) := by decide +kernel
theorem dX12_atom_62 : decode cX12_atom 62 = .ok (.aload_n 0, 1) := by decide +kernel
theorem dX12_atom_63 : decode cX12_atom 63 = .ok (.dup, 1) := by decide +kernel
theorem dX12_atom_64 : decode cX12_atom 64 = .ok (.getfield 146, 3) := by decide +kernel
theorem dX12_atom_67 : decode cX12_atom 67 = .ok (.iconst 1, 1) := by decide +kernel
theorem dX12_atom_68 : decode cX12_atom 68 = .ok (.isub, 1) := by decide +kernel
theorem dX12_atom_69 : decode cX12_atom 69 = .ok (.putfield 146, 3) := by decide +kernel
theorem dX12_atom_72 : decode cX12_atom 72 = .ok (.iload_n 2, 1) := by decide +kernel
theorem dX12_atom_73 : decode cX12_atom 73 = .ok (.ireturn, 1) := by decide +kernel
theorem dX12_atom_74 : decode cX12_atom 74 = .ok (.aload_n 0, 1) := by decide +kernel
theorem dX12_atom_75 : decode cX12_atom 75 = .ok (.invokevirtual 183, 3) := by decide +kernel
theorem dX12_atom_78 : decode cX12_atom 78 = .ok (.ifCond .ne 8, 3) := by decide +kernel
theorem dX12_atom_81 : decode cX12_atom 81 = .ok (.aload_n 0, 1) := by decide +kernel
theorem dX12_atom_82 : decode cX12_atom 82 = .ok (.invokevirtual 149, 3) := by decide +kernel
theorem dX12_atom_85 : decode cX12_atom 85 = .ok (.pop, 1) := by decide +kernel
theorem dX12_atom_86 : decode cX12_atom 86 = .ok (.iconst 0, 1) := by decide +kernel
theorem dX12_atom_87 : decode cX12_atom 87 = .ok (.istore_n 2, 1) := by decide +kernel
theorem dX12_atom_88 : decode cX12_atom 88 = .ok (.iconst 0, 1) := by decide +kernel
theorem dX12_atom_89 : decode cX12_atom 89 = .ok (.istore_n 3, 1) := by decide +kernel
theorem dX12_atom_90 : decode cX12_atom 90 = .ok (.aload_n 0, 1) := by decide +kernel
theorem dX12_atom_91 : decode cX12_atom 91 = .ok (.invokevirtual 183, 3) := by decide +kernel
theorem dX12_atom_94 : decode cX12_atom 94 = .ok (.ifCond .eq 62, 3) := by decide +kernel
theorem dX12_atom_97 : decode cX12_atom 97 = .ok (.aload_n 0, 1) := by decide +kernel
theorem dX12_atom_98 : decode cX12_atom 98 = .ok (.getfield 143, 3) := by decide +kernel
theorem dX12_atom_101 : decode cX12_atom 101 = .ok (.iconst (-1), 1) := by decide +kernel
theorem dX12_atom_102 : decode cX12_atom 102 = .ok (.if_icmp .ne 54, 3) := by decide +kernel
theorem dX12_atom_105 : decode cX12_atom 105 = .ok (.iload_n 3, 1) := by decide +kernel
theorem dX12_atom_106 : decode cX12_atom 106 = .ok (.iconst 4, 1) := by decide +kernel
theorem dX12_atom_107 : decode cX12_atom 107 = .ok (.if_icmp .ne 10, 3) := by decide +kernel
theorem dX12_atom_110 : decode cX12_atom 110 = .ok (.aload_n 0, 1) := by decide +kernel
theorem dX12_atom_111 : decode cX12_atom 111 = .ok (.invokevirtual 149, 3) := by decide +kernel
theorem dX12_atom_114 : decode cX12_atom 114 = .ok (.pop, 1) := by decide +kernel
theorem dX12_atom_115 : decode cX12_atom 115 = .ok (.iconst 0, 1) := by decide +kernel
theorem dX12_atom_116 : decode cX12_atom 116 = .ok (.ireturn, 1) := by decide +kernel
theorem dX12_atom_117 : decode cX12_atom 117 = .ok (.bipush 10, 2) := by decide +kernel
theorem dX12_atom_119 : decode cX12_atom 119 = .ok (.iload_n 2, 1) := by decide +kernel
theorem dX12_atom_120 : decode cX12_atom 120 = .ok (.imul, 1) := by decide +kernel
theorem dX12_atom_121 : decode cX12_atom 121 = .ok (.aload_n 0, 1) := by decide +kernel
theorem dX12_atom_122 : decode cX12_atom 122 = .ok (.getfield 23, 3) := by decide +kernel
theorem dX12_atom_125 : decode cX12_atom 125 = .ok (.aload_n 0, 1) := by decide +kernel
theorem dX12_atom_126 : decode cX12_atom 126 = .ok (.getfield 140, 3) := by decide +kernel
theorem dX12_atom_129 : decode cX12_atom 129 = .ok (.aload_n 0, 1) := by decide +kernel
theorem dX12_atom_130 : decode cX12_atom 130 = .ok (.getfield 134, 3) := by decide +kernel
theorem dX12_atom_133 : decode cX12_atom 133 = .ok (.iadd, 1) := by decide +kernel
theorem dX12_atom_134 : decode cX12_atom 134 = .ok (.baload, 1) := by decide +kernel
theorem dX12_atom_135 : decode cX12_atom 135 = .ok (.iadd, 1) := by decide +kernel
theorem dX12_atom_136 : decode cX12_atom 136 = .ok (.bipush 48, 2) := by decide +kernel
theorem dX12_atom_138 : decode cX12_atom 138 = .ok (.isub, 1) := by decide +kernel
theorem dX12_atom_139 : decode cX12_atom 139 = .ok (.istore_n 2, 1) := by decide +kernel
theorem dX12_atom_140 : decode cX12_atom 140 = .ok (.aload_n 0, 1) := by decide +kernel
theorem dX12_atom_141 : decode cX12_atom 141 = .ok (.dup, 1) := by decide +kernel
theorem dX12_atom_142 : decode cX12_atom 142 = .ok (.getfield 134, 3) := by decide +kernel
theorem dX12_atom_145 : decode cX12_atom 145 = .ok (.iconst 1, 1) := by decide +kernel
theorem dX12_atom_146 : decode cX12_atom 146 = .ok (.iadd, 1) := by decide +kernel
theorem dX12_atom_147 : decode cX12_atom 147 = .ok (.putfield 134, 3) := by decide +kernel
theorem dX12_atom_150 : decode cX12_atom 150 = .ok (.iinc 3 1, 3) := by decide +kernel
theorem dX12_atom_153 : decode cX12_atom 153 = .ok (.goto (-63), 3) := by decide +kernel
theorem dX12_atom_156 : decode cX12_atom 156 = .ok (.iload_n 2, 1) := by decide +kernel
theorem dX12_atom_157 : decode cX12_atom 157 = .ok (.ireturn, 1) := by decide +kernel
theorem dX12_term_0 : decode cX12_term 0 = .ok (.aload_n 0, 1) := by decide +kernel
theorem dX12_term_1 : decode cX12_term 1 = .ok (.invokevirtual 186, 3) := by decide +kernel
theorem dX12_term_4 : decode cX12_term 4 = .ok (.istore_n 1, 1) := by decide +kernel
theorem dX12_term_5 : decode cX12_term 5 = .ok (.aload_n 0, 1) := by decide +kernel
theorem dX12_term_6 : decode cX12_term 6 = .ok (.getfield 143, 3) := by decide +kernel
theorem dX12_term_9 : decode cX12_term 9 = .ok (.iconst (-1), 1) := by decide +kernel
theorem dX12_term_10 : decode cX12_term 10 = .ok (.if_icmp .ne 84, 3) := by decide +kernel
theorem dX12_term_13 : decode cX12_term 13 = .ok (.aload_n 0, 1) := by decide +kernel
theorem dX12_term_14 : decode cX12_term 14 = .ok (.invokevirtual 153, 3) := by decide +kernel
theorem dX12_term_17 : decode cX12_term 17 = .ok (.bipush 42, 2) := by decide +kernel
theorem dX12_term_19 : decode cX12_term 19 = .ok (.if_icmp .eq 12, 3) := by decide +kernel
theorem dX12_term_22 : decode cX12_term 22 = .ok (.aload_n 0, 1) := by decide +kernel
theorem dX12_term_23 : decode cX12_term 23 = .ok (.invokevirtual 153, 3) := by decide +kernel
theorem dX12_term_26 : decode cX12_term 26 = .ok (.bipush 47, 2) := by decide +kernel
theorem dX12_term_28 : decode cX12_term 28 = .ok (.if_icmp .ne 66, 3) := by decide +kernel
theorem dX12_term_31 : decode cX12_term 31 = .ok (.aload_n 0, 1) := by decide +kernel
theorem dX12_term_32 : decode cX12_term 32 = .ok (.invokevirtual 153, 3) := by decide +kernel
theorem dX12_term_35 : decode cX12_term 35 = .ok (.bipush 42, 2) := by decide +kernel
theorem dX12_term_37 : decode cX12_term 37 = .ok (.if_icmp .ne 7, 3) := by decide +kernel
theorem dX12_term_40 : decode cX12_term 40 = .ok (.iconst 1, 1) := by decide +kernel
theorem dX12_term_41 : decode cX12_term 41 = .ok (.goto 4, 3) := by decide +kernel
theorem dX12_term_44 : decode cX12_term 44 = .ok (.iconst 0, 1) := by decide +kernel
theorem dX12_term_45 : decode cX12_term 45 = .ok (.istore_n 2, 1) := by decide +kernel
theorem dX12_term_46 : decode cX12_term 46 = .ok (.aload_n 0, 1) := by decide +kernel
theorem dX12_term_47 : decode cX12_term 47 = .ok (.dup, 1) := by decide +kernel
theorem dX12_term_48 : decode cX12_term 48 = .ok (.getfield 134, 3) := by decide +kernel
theorem dX12_term_51 : decode cX12_term 51 = .ok (.iconst 1, 1) := by decide +kernel
theorem dX12_term_52 : decode cX12_term 52 = .ok (.iadd, 1) := by decide +kernel
theorem dX12_term_53 : decode cX12_term 53 = .ok (.putfield 134, 3) := by decide +kernel
theorem dX12_term_56 : decode cX12_term 56 = .ok (.aload_n 0, 1) := by decide +kernel
theorem dX12_term_57 : decode cX12_term 57 = .ok (.invokevirtual 186, 3) := by decide +kernel
theorem dX12_term_60 : decode cX12_term 60 = .ok (.i2l, 1) := by decide +kernel
theorem dX12_term_61 : decode cX12_term 61 = .ok (.lstore_n 3, 1) := by decide +kernel
theorem dX12_term_62 : decode cX12_term 62 = .ok (.iload_n 2, 1) := by decide +kernel
theorem dX12_term_63 : decode cX12_term 63 = .ok (.ifCond .eq 10, 3) := by decide +kernel
theorem dX12_term_66 : decode cX12_term 66 = .ok (.iload_n 1, 1) := by decide +kernel
theorem dX12_term_67 : decode cX12_term 67 = .ok (.i2l, 1) := by decide +kernel
theorem dX12_term_68 : decode cX12_term 68 = .ok (.lload_n 3, 1) := by decide +kernel
theorem dX12_term_69 : decode cX12_term 69 = .ok (.lmul, 1) := by decide +kernel
theorem dX12_term_70 : decode cX12_term 70 = .ok (.goto 17, 3) := by decide +kernel
theorem dX12_term_73 : decode cX12_term 73 = .ok (.lload_n 3, 1) := by decide +kernel
theorem dX12_term_74 : decode cX12_term 74 = .ok (.lconst 0, 1) := by decide +kernel
theorem dX12_term_75 : decode cX12_term 75 = .ok (.lcmp, 1) := by decide +kernel
theorem dX12_term_76 : decode cX12_term 76 = .ok (.ifCond .ne 7, 3) := by decide +kernel
theorem dX12_term_79 : decode cX12_term 79 = .ok (.lconst 0, 1) := by decide +kernel
theorem dX12_term_80 : decode cX12_term 80 = .ok (.goto 7, 3) := by decide +kernel
theorem dX12_term_83 : decode cX12_term 83 = .ok (.iload_n 1, 1) := by decide +kernel
theorem dX12_term_84 : decode cX12_term 84 = .ok (.i2l, 1) := by decide +kernel
theorem dX12_term_85 : decode cX12_term 85 = .ok (.lload_n 3, 1) := by decide +kernel
theorem dX12_term_86 : decode cX12_term 86 = .ok (.ldiv, 1) := by decide +kernel
theorem dX12_term_87 : decode cX12_term 87 = .ok (.invokestatic 189, 3) := by decide +kernel
theorem dX12_term_90 : decode cX12_term 90 = .ok (.istore_n 1, 1) := by decide +kernel
theorem dX12_term_91 : decode cX12_term 91 = .ok (.goto (-86), 3) := by decide +kernel
theorem dX12_term_94 : decode cX12_term 94 = .ok (.iload_n 1, 1) := by decide +kernel
theorem dX12_term_95 : decode cX12_term 95 = .ok (.ireturn, 1) := by decide +kernel
theorem dX12_sum_0 : decode cX12_sum 0 = .ok (.aload_n 0, 1) := by decide +kernel
theorem dX12_sum_1 : decode cX12_sum 1 = .ok (.invokevirtual 193, 3) := by decide +kernel
theorem dX12_sum_4 : decode cX12_sum 4 = .ok (.istore_n 1, 1) := by decide +kernel
theorem dX12_sum_5 : decode cX12_sum 5 = .ok (.aload_n 0, 1) := by decide +kernel
theorem dX12_sum_6 : decode cX12_sum 6 = .ok (.getfield 143, 3) := by decide +kernel
theorem dX12_sum_9 : decode cX12_sum 9 = .ok (.iconst (-1), 1) := by decide +kernel
theorem dX12_sum_10 : decode cX12_sum 10 = .ok (.if_icmp .ne 74, 3) := by decide +kernel
theorem dX12_sum_13 : decode cX12_sum 13 = .ok (.aload_n 0, 1) := by decide +kernel
theorem dX12_sum_14 : decode cX12_sum 14 = .ok (.invokevirtual 153, 3) := by decide +kernel
theorem dX12_sum_17 : decode cX12_sum 17 = .ok (.bipush 43, 2) := by decide +kernel
theorem dX12_sum_19 : decode cX12_sum 19 = .ok (.if_icmp .eq 12, 3) := by decide +kernel
theorem dX12_sum_22 : decode cX12_sum 22 = .ok (.aload_n 0, 1) := by decide +kernel
theorem dX12_sum_23 : decode cX12_sum 23 = .ok (.invokevirtual 153, 3) := by decide +kernel
theorem dX12_sum_26 : decode cX12_sum 26 = .ok (.bipush 45, 2) := by decide +kernel
theorem dX12_sum_28 : decode cX12_sum 28 = .ok (.if_icmp .ne 56, 3) := by decide +kernel
theorem dX12_sum_31 : decode cX12_sum 31 = .ok (.aload_n 0, 1) := by decide +kernel
theorem dX12_sum_32 : decode cX12_sum 32 = .ok (.invokevirtual 153, 3) := by decide +kernel
theorem dX12_sum_35 : decode cX12_sum 35 = .ok (.bipush 43, 2) := by decide +kernel
theorem dX12_sum_37 : decode cX12_sum 37 = .ok (.if_icmp .ne 7, 3) := by decide +kernel
theorem dX12_sum_40 : decode cX12_sum 40 = .ok (.iconst 1, 1) := by decide +kernel
theorem dX12_sum_41 : decode cX12_sum 41 = .ok (.goto 4, 3) := by decide +kernel
theorem dX12_sum_44 : decode cX12_sum 44 = .ok (.iconst 0, 1) := by decide +kernel
theorem dX12_sum_45 : decode cX12_sum 45 = .ok (.istore_n 2, 1) := by decide +kernel
theorem dX12_sum_46 : decode cX12_sum 46 = .ok (.aload_n 0, 1) := by decide +kernel
theorem dX12_sum_47 : decode cX12_sum 47 = .ok (.dup, 1) := by decide +kernel
theorem dX12_sum_48 : decode cX12_sum 48 = .ok (.getfield 134, 3) := by decide +kernel
theorem dX12_sum_51 : decode cX12_sum 51 = .ok (.iconst 1, 1) := by decide +kernel
theorem dX12_sum_52 : decode cX12_sum 52 = .ok (.iadd, 1) := by decide +kernel
theorem dX12_sum_53 : decode cX12_sum 53 = .ok (.putfield 134, 3) := by decide +kernel
theorem dX12_sum_56 : decode cX12_sum 56 = .ok (.aload_n 0, 1) := by decide +kernel
theorem dX12_sum_57 : decode cX12_sum 57 = .ok (.invokevirtual 193, 3) := by decide +kernel
theorem dX12_sum_60 : decode cX12_sum 60 = .ok (.i2l, 1) := by decide +kernel
theorem dX12_sum_61 : decode cX12_sum 61 = .ok (.lstore_n 3, 1) := by decide +kernel
theorem dX12_sum_62 : decode cX12_sum 62 = .ok (.iload_n 2, 1) := by decide +kernel
theorem dX12_sum_63 : decode cX12_sum 63 = .ok (.ifCond .eq 10, 3) := by decide +kernel
theorem dX12_sum_66 : decode cX12_sum 66 = .ok (.iload_n 1, 1) := by decide +kernel
theorem dX12_sum_67 : decode cX12_sum 67 = .ok (.i2l, 1) := by decide +kernel
theorem dX12_sum_68 : decode cX12_sum 68 = .ok (.lload_n 3, 1) := by decide +kernel
theorem dX12_sum_69 : decode cX12_sum 69 = .ok (.ladd, 1) := by decide +kernel
theorem dX12_sum_70 : decode cX12_sum 70 = .ok (.goto 7, 3) := by decide +kernel
theorem dX12_sum_73 : decode cX12_sum 73 = .ok (.iload_n 1, 1) := by decide +kernel
theorem dX12_sum_74 : decode cX12_sum 74 = .ok (.i2l, 1) := by decide +kernel
theorem dX12_sum_75 : decode cX12_sum 75 = .ok (.lload_n 3, 1) := by decide +kernel
theorem dX12_sum_76 : decode cX12_sum 76 = .ok (.lsub, 1) := by decide +kernel
theorem dX12_sum_77 : decode cX12_sum 77 = .ok (.invokestatic 189, 3) := by decide +kernel
theorem dX12_sum_80 : decode cX12_sum 80 = .ok (.istore_n 1, 1) := by decide +kernel
theorem dX12_sum_81 : decode cX12_sum 81 = .ok (.goto (-76), 3) := by decide +kernel
theorem dX12_sum_84 : decode cX12_sum 84 = .ok (.iload_n 1, 1) := by decide +kernel
theorem dX12_sum_85 : decode cX12_sum 85 = .ok (.ireturn, 1) := by decide +kernel
theorem dX12_isSign_0 : decode cX12_isSign 0 = .ok (.iload_n 0, 1) := by decide +kernel
theorem dX12_isSign_1 : decode cX12_isSign 1 = .ok (.bipush 61, 2) := by decide +kernel
theorem dX12_isSign_3 : decode cX12_isSign 3 = .ok (.if_icmp .eq 15, 3) := by decide +kernel
theorem dX12_isSign_6 : decode cX12_isSign 6 = .ok (.iload_n 0, 1) := by decide +kernel
theorem dX12_isSign_7 : decode cX12_isSign 7 = .ok (.bipush 60, 2) := by decide +kernel
theorem dX12_isSign_9 : decode cX12_isSign 9 = .ok (.if_icmp .eq 9, 3) := by decide +kernel
theorem dX12_isSign_12 : decode cX12_isSign 12 = .ok (.iload_n 0, 1) := by decide +kernel
theorem dX12_isSign_13 : decode cX12_isSign 13 = .ok (.bipush 62, 2) := by decide +kernel
theorem dX12_isSign_15 : decode cX12_isSign 15 = .ok (.if_icmp .ne 7, 3) := by decide +kernel
theorem dX12_isSign_18 : decode cX12_isSign 18 = .ok (.iconst 1, 1) := by decide +kernel
theorem dX12_isSign_19 : decode cX12_isSign 19 = .ok (.goto 4, 3) := by decide +kernel
theorem dX12_isSign_22 : decode cX12_isSign 22 = .ok (.iconst 0, 1) := by decide +kernel
theorem dX12_isSign_23 : decode cX12_isSign 23 = .ok (.ireturn, 1) := by decide +kernel
theorem dX12_compares_0 : decode cX12_compares 0 = .ok (.iload_n 1, 1) := by decide +kernel
theorem dX12_compares_1 : decode cX12_compares 1 = .ok (.ifCond .eq 7, 3) := by decide +kernel
theorem dX12_compares_4 : decode cX12_compares 4 = .ok (.iload_n 2, 1) := by decide +kernel
theorem dX12_compares_5 : decode cX12_compares 5 = .ok (.goto 7, 3) := by decide +kernel
theorem dX12_compares_8 : decode cX12_compares 8 = .ok (.aload_n 0, 1) := by decide +kernel
theorem dX12_compares_9 : decode cX12_compares 9 = .ok (.invokevirtual 176, 3) := by decide +kernel
theorem dX12_compares_12 : decode cX12_compares 12 = .ok (.istore_n 3, 1) := by decide +kernel
theorem dX12_compares_13 : decode cX12_compares 13 = .ok (.aload_n 0, 1) := by decide +kernel
theorem dX12_compares_14 : decode cX12_compares 14 = .ok (.getfield 143, 3) := by decide +kernel
theorem dX12_compares_17 : decode cX12_compares 17 = .ok (.iconst (-1), 1) := by decide +kernel
theorem dX12_compares_18 : decode cX12_compares 18 = .ok (.if_icmp .eq 5, 3) := by decide +kernel
theorem dX12_compares_21 : decode cX12_compares 21 = .ok (.iconst 0, 1) := by decide +kernel
theorem dX12_compares_22 : decode cX12_compares 22 = .ok (.ireturn, 1) := by decide +kernel
theorem dX12_compares_23 : decode cX12_compares 23 = .ok (.aload_n 0, 1) := by decide +kernel
theorem dX12_compares_24 : decode cX12_compares 24 = .ok (.invokevirtual 153, 3) := by decide +kernel
theorem dX12_compares_27 : decode cX12_compares 27 = .ok (.istore 4, 2) := by decide +kernel
theorem dX12_compares_29 : decode cX12_compares 29 = .ok (.iload 4, 2) := by decide +kernel
theorem dX12_compares_31 : decode cX12_compares 31 = .ok (.invokestatic 196, 3) := by decide +kernel
theorem dX12_compares_34 : decode cX12_compares 34 = .ok (.ifCond .ne 8, 3) := by decide +kernel
theorem dX12_compares_37 : decode cX12_compares 37 = .ok (.aload_n 0, 1) := by decide +kernel
theorem dX12_compares_38 : decode cX12_compares 38 = .ok (.invokevirtual 149, 3) := by decide +kernel
theorem dX12_compares_41 : decode cX12_compares 41 = .ok (.ireturn, 1) := by decide +kernel
theorem dX12_compares_42 : decode cX12_compares 42 = .ok (.aload_n 0, 1) := by decide +kernel
theorem dX12_compares_43 : decode cX12_compares 43 = .ok (.dup, 1) := by decide +kernel
theorem dX12_compares_44 : decode cX12_compares 44 = .ok (.getfield 134, 3) := by decide +kernel
theorem dX12_compares_47 : decode cX12_compares 47 = .ok (.iconst 1, 1) := by decide +kernel
theorem dX12_compares_48 : decode cX12_compares 48 = .ok (.iadd, 1) := by decide +kernel
theorem dX12_compares_49 : decode cX12_compares 49 = .ok (.putfield 134, 3) := by decide +kernel
theorem dX12_compares_52 : decode cX12_compares 52 = .ok (.aload_n 0, 1) := by decide +kernel
theorem dX12_compares_53 : decode cX12_compares 53 = .ok (.invokevirtual 176, 3) := by decide +kernel
theorem dX12_compares_56 : decode cX12_compares 56 = .ok (.istore 5, 2) := by decide +kernel
theorem dX12_compares_58 : decode cX12_compares 58 = .ok (.iload 4, 2) := by decide +kernel
theorem dX12_compares_60 : decode cX12_compares 60 = .ok (.bipush 61, 2) := by decide +kernel
theorem dX12_compares_62 : decode cX12_compares 62 = .ok (.if_icmp .ne 17, 3) := by decide +kernel
theorem dX12_compares_65 : decode cX12_compares 65 = .ok (.iload_n 3, 1) := by decide +kernel
theorem dX12_compares_66 : decode cX12_compares 66 = .ok (.iload 5, 2) := by decide +kernel
theorem dX12_compares_68 : decode cX12_compares 68 = .ok (.if_icmp .ne 7, 3) := by decide +kernel
theorem dX12_compares_71 : decode cX12_compares 71 = .ok (.iconst 1, 1) := by decide +kernel
theorem dX12_compares_72 : decode cX12_compares 72 = .ok (.goto 39, 3) := by decide +kernel
theorem dX12_compares_75 : decode cX12_compares 75 = .ok (.iconst 0, 1) := by decide +kernel
theorem dX12_compares_76 : decode cX12_compares 76 = .ok (.goto 35, 3) := by decide +kernel
theorem dX12_compares_79 : decode cX12_compares 79 = .ok (.iload 4, 2) := by decide +kernel
theorem dX12_compares_81 : decode cX12_compares 81 = .ok (.bipush 60, 2) := by decide +kernel
theorem dX12_compares_83 : decode cX12_compares 83 = .ok (.if_icmp .ne 17, 3) := by decide +kernel
theorem dX12_compares_86 : decode cX12_compares 86 = .ok (.iload_n 3, 1) := by decide +kernel
theorem dX12_compares_87 : decode cX12_compares 87 = .ok (.iload 5, 2) := by decide +kernel
theorem dX12_compares_89 : decode cX12_compares 89 = .ok (.if_icmp .ge 7, 3) := by decide +kernel
theorem dX12_compares_92 : decode cX12_compares 92 = .ok (.iconst 1, 1) := by decide +kernel
theorem dX12_compares_93 : decode cX12_compares 93 = .ok (.goto 18, 3) := by decide +kernel
theorem dX12_compares_96 : decode cX12_compares 96 = .ok (.iconst 0, 1) := by decide +kernel
theorem dX12_compares_97 : decode cX12_compares 97 = .ok (.goto 14, 3) := by decide +kernel
theorem dX12_compares_100 : decode cX12_compares 100 = .ok (.iload_n 3, 1) := by decide +kernel
theorem dX12_compares_101 : decode cX12_compares 101 = .ok (.iload 5, 2) := by decide +kernel
theorem dX12_compares_103 : decode cX12_compares 103 = .ok (.if_icmp .le 7, 3) := by decide +kernel
theorem dX12_compares_106 : decode cX12_compares 106 = .ok (.iconst 1, 1) := by decide +kernel
theorem dX12_compares_107 : decode cX12_compares 107 = .ok (.goto 4, 3) := by decide +kernel
theorem dX12_compares_110 : decode cX12_compares 110 = .ok (.iconst 0, 1) := by decide +kernel
theorem dX12_compares_111 : decode cX12_compares 111 = .ok (.ireturn, 1) := by decide +kernel
theorem dX12_unit_0 : decode cX12_unit 0 = .ok (.aload_n 0, 1) := by decide +kernel
theorem dX12_unit_1 : decode cX12_unit 1 = .ok (.invokevirtual 153, 3) := by decide +kernel
theorem dX12_unit_4 : decode cX12_unit 4 = .ok (.istore_n 1, 1) := by decide +kernel
theorem dX12_unit_5 : decode cX12_unit 5 = .ok (.iload_n 1, 1) := by decide +kernel
theorem dX12_unit_6 : decode cX12_unit 6 = .ok (.bipush 33, 2) := by decide +kernel
theorem dX12_unit_8 : decode cX12_unit 8 = .ok (.if_icmp .ne 37, 3) := by decide +kernel
theorem dX12_unit_11 : decode cX12_unit 11 = .ok (.aload_n 0, 1) := by decide +kernel
theorem dX12_unit_12 : decode cX12_unit 12 = .ok (.invokevirtual 173, 3) := by decide +kernel
theorem dX12_unit_15 : decode cX12_unit 15 = .ok (.ifCond .ne 5, 3) := by decide +kernel
theorem dX12_unit_18 : decode cX12_unit 18 = .ok (.iconst 0, 1) := by decide +kernel
theorem dX12_unit_19 : decode cX12_unit 19 = .ok (.ireturn, 1) := by decide +kernel
theorem dX12_unit_20 : decode cX12_unit 20 = .ok (.aload_n 0, 1) := by decide +kernel
theorem dX12_unit_21 : decode cX12_unit 21 = .ok (.invokevirtual 199, 3) := by decide +kernel
theorem dX12_unit_24 : decode cX12_unit 24 = .ok (.istore_n 2, 1) := by decide +kernel
theorem dX12_unit_25 : decode cX12_unit 25 = .ok (.aload_n 0, 1) := by decide +kernel
theorem dX12_unit_26 : decode cX12_unit 26 = .ok (.dup, 1) := by decide +kernel
theorem dX12_unit_27 : decode cX12_unit 27 = .ok (.getfield 146, 3) := by decide +kernel
theorem dX12_unit_30 : decode cX12_unit 30 = .ok (.iconst 1, 1) := by decide +kernel
theorem dX12_unit_31 : decode cX12_unit 31 = .ok (.isub, 1) := by decide +kernel
theorem dX12_unit_32 : decode cX12_unit 32 = .ok (.putfield 146, 3) := by decide +kernel
theorem dX12_unit_35 : decode cX12_unit 35 = .ok (.iload_n 2, 1) := by decide +kernel
theorem dX12_unit_36 : decode cX12_unit 36 = .ok (.ifCond .ne 7, 3) := by decide +kernel
theorem dX12_unit_39 : decode cX12_unit 39 = .ok (.iconst 1, 1) := by decide +kernel
theorem dX12_unit_40 : decode cX12_unit 40 = .ok (.goto 4, 3) := by decide +kernel
theorem dX12_unit_43 : decode cX12_unit 43 = .ok (.iconst 0, 1) := by decide +kernel
theorem dX12_unit_44 : decode cX12_unit 44 = .ok (.ireturn, 1) := by decide +kernel
theorem dX12_unit_45 : decode cX12_unit 45 = .ok (.iload_n 1, 1) := by decide +kernel
theorem dX12_unit_46 : decode cX12_unit 46 = .ok (.bipush 40, 2) := by decide +kernel
theorem dX12_unit_48 : decode cX12_unit 48 = .ok (.if_icmp .ne 42, 3) := by decide +kernel
theorem dX12_unit_51 : decode cX12_unit 51 = .ok (.aload_n 0, 1) := by decide +kernel
theorem dX12_unit_52 : decode cX12_unit 52 = .ok (.invokevirtual 173, 3) := by decide +kernel
theorem dX12_unit_55 : decode cX12_unit 55 = .ok (.ifCond .ne 5, 3) := by decide +kernel
theorem dX12_unit_58 : decode cX12_unit 58 = .ok (.iconst 0, 1) := by decide +kernel
theorem dX12_unit_59 : decode cX12_unit 59 = .ok (.ireturn, 1) := by decide +kernel
theorem dX12_unit_60 : decode cX12_unit 60 = .ok (.aload_n 0, 1) := by decide +kernel
theorem dX12_unit_61 : decode cX12_unit 61 = .ok (.iconst 0, 1) := by decide +kernel
theorem dX12_unit_62 : decode cX12_unit 62 = .ok (.iconst 0, 1) := by decide +kernel
theorem dX12_unit_63 : decode cX12_unit 63 = .ok (.invokevirtual 202, 3) := by decide +kernel
theorem dX12_unit_66 : decode cX12_unit 66 = .ok (.istore_n 2, 1) := by decide +kernel
theorem dX12_unit_67 : decode cX12_unit 67 = .ok (.aload_n 0, 1) := by decide +kernel
theorem dX12_unit_68 : decode cX12_unit 68 = .ok (.bipush 41, 2) := by decide +kernel
theorem dX12_unit_70 : decode cX12_unit 70 = .ok (.invokevirtual 179, 3) := by decide +kernel
theorem dX12_unit_73 : decode cX12_unit 73 = .ok (.ifCond .ne 5, 3) := by decide +kernel
theorem dX12_unit_76 : decode cX12_unit 76 = .ok (.iconst 0, 1) := by decide +kernel
theorem dX12_unit_77 : decode cX12_unit 77 = .ok (.ireturn, 1) := by decide +kernel
theorem dX12_unit_78 : decode cX12_unit 78 = .ok (.aload_n 0, 1) := by decide +kernel
theorem dX12_unit_79 : decode cX12_unit 79 = .ok (.dup, 1) := by decide +kernel
theorem dX12_unit_80 : decode cX12_unit 80 = .ok (.getfield 146, 3) := by decide +kernel
theorem dX12_unit_83 : decode cX12_unit 83 = .ok (.iconst 1, 1) := by decide +kernel
theorem dX12_unit_84 : decode cX12_unit 84 = .ok (.isub, 1) := by decide +kernel
theorem dX12_unit_85 : decode cX12_unit 85 = .ok (.putfield 146, 3) := by decide +kernel
theorem dX12_unit_88 : decode cX12_unit 88 = .ok (.iload_n 2, 1) := by decide +kernel
theorem dX12_unit_89 : decode cX12_unit 89 = .ok (.ireturn, 1) := by decide +kernel
theorem dX12_unit_90 : decode cX12_unit 90 = .ok (.aload_n 0, 1) := by decide +kernel
theorem dX12_unit_91 : decode cX12_unit 91 = .ok (.iconst 0, 1) := by decide +kernel
theorem dX12_unit_92 : decode cX12_unit 92 = .ok (.iconst 0, 1) := by decide +kernel
theorem dX12_unit_93 : decode cX12_unit 93 = .ok (.invokevirtual 206, 3) := by decide +kernel
theorem dX12_unit_96 : decode cX12_unit 96 = .ok (.ireturn, 1) := by decide +kernel
theorem dX12_part_0 : decode cX12_part 0 = .ok (.iload_n 1, 1) := by decide +kernel
theorem dX12_part_1 : decode cX12_part 1 = .ok (.ifCond .eq 12, 3) := by decide +kernel
theorem dX12_part_4 : decode cX12_part 4 = .ok (.aload_n 0, 1) := by decide +kernel
theorem dX12_part_5 : decode cX12_part 5 = .ok (.iconst 1, 1) := by decide +kernel
theorem dX12_part_6 : decode cX12_part 6 = .ok (.iload_n 2, 1) := by decide +kernel
theorem dX12_part_7 : decode cX12_part 7 = .ok (.invokevirtual 206, 3) := by decide +kernel
theorem dX12_part_10 : decode cX12_part 10 = .ok (.goto 7, 3) := by decide +kernel
theorem dX12_part_13 : decode cX12_part 13 = .ok (.aload_n 0, 1) := by decide +kernel
theorem dX12_part_14 : decode cX12_part 14 = .ok (.invokevirtual 199, 3) := by decide +kernel
theorem dX12_part_17 : decode cX12_part 17 = .ok (.istore_n 3, 1) := by decide +kernel
theorem dX12_part_18 : decode cX12_part 18 = .ok (.aload_n 0, 1) := by decide +kernel
theorem dX12_part_19 : decode cX12_part 19 = .ok (.getfield 143, 3) := by decide +kernel
theorem dX12_part_22 : decode cX12_part 22 = .ok (.iconst (-1), 1) := by decide +kernel
theorem dX12_part_23 : decode cX12_part 23 = .ok (.if_icmp .ne 46, 3) := by decide +kernel
theorem dX12_part_26 : decode cX12_part 26 = .ok (.aload_n 0, 1) := by decide +kernel
theorem dX12_part_27 : decode cX12_part 27 = .ok (.invokevirtual 153, 3) := by decide +kernel
theorem dX12_part_30 : decode cX12_part 30 = .ok (.bipush 38, 2) := by decide +kernel
theorem dX12_part_32 : decode cX12_part 32 = .ok (.if_icmp .ne 37, 3) := by decide +kernel
theorem dX12_part_35 : decode cX12_part 35 = .ok (.aload_n 0, 1) := by decide +kernel
theorem dX12_part_36 : decode cX12_part 36 = .ok (.dup, 1) := by decide +kernel
theorem dX12_part_37 : decode cX12_part 37 = .ok (.getfield 134, 3) := by decide +kernel
theorem dX12_part_40 : decode cX12_part 40 = .ok (.iconst 1, 1) := by decide +kernel
theorem dX12_part_41 : decode cX12_part 41 = .ok (.iadd, 1) := by decide +kernel
theorem dX12_part_42 : decode cX12_part 42 = .ok (.putfield 134, 3) := by decide +kernel
theorem dX12_part_45 : decode cX12_part 45 = .ok (.aload_n 0, 1) := by decide +kernel
theorem dX12_part_46 : decode cX12_part 46 = .ok (.invokevirtual 199, 3) := by decide +kernel
theorem dX12_part_49 : decode cX12_part 49 = .ok (.istore 4, 2) := by decide +kernel
theorem dX12_part_51 : decode cX12_part 51 = .ok (.iload_n 3, 1) := by decide +kernel
theorem dX12_part_52 : decode cX12_part 52 = .ok (.ifCond .eq 12, 3) := by decide +kernel
theorem dX12_part_55 : decode cX12_part 55 = .ok (.iload 4, 2) := by decide +kernel
theorem dX12_part_57 : decode cX12_part 57 = .ok (.ifCond .eq 7, 3) := by decide +kernel
theorem dX12_part_60 : decode cX12_part 60 = .ok (.iconst 1, 1) := by decide +kernel
theorem dX12_part_61 : decode cX12_part 61 = .ok (.goto 4, 3) := by decide +kernel
theorem dX12_part_64 : decode cX12_part 64 = .ok (.iconst 0, 1) := by decide +kernel
theorem dX12_part_65 : decode cX12_part 65 = .ok (.istore_n 3, 1) := by decide +kernel
theorem dX12_part_66 : decode cX12_part 66 = .ok (.goto (-48), 3) := by decide +kernel
theorem dX12_part_69 : decode cX12_part 69 = .ok (.iload_n 3, 1) := by decide +kernel
theorem dX12_part_70 : decode cX12_part 70 = .ok (.ireturn, 1) := by decide +kernel
theorem dX12_condition_0 : decode cX12_condition 0 = .ok (.aload_n 0, 1) := by decide +kernel
theorem dX12_condition_1 : decode cX12_condition 1 = .ok (.iload_n 1, 1) := by decide +kernel
theorem dX12_condition_2 : decode cX12_condition 2 = .ok (.iload_n 2, 1) := by decide +kernel
theorem dX12_condition_3 : decode cX12_condition 3 = .ok (.invokevirtual 209, 3) := by decide +kernel
theorem dX12_condition_6 : decode cX12_condition 6 = .ok (.istore_n 3, 1) := by decide +kernel
theorem dX12_condition_7 : decode cX12_condition 7 = .ok (.aload_n 0, 1) := by decide +kernel
theorem dX12_condition_8 : decode cX12_condition 8 = .ok (.getfield 143, 3) := by decide +kernel
theorem dX12_condition_11 : decode cX12_condition 11 = .ok (.iconst (-1), 1) := by decide +kernel
theorem dX12_condition_12 : decode cX12_condition 12 = .ok (.if_icmp .ne 48, 3) := by decide +kernel
theorem dX12_condition_15 : decode cX12_condition 15 = .ok (.aload_n 0, 1) := by decide +kernel
theorem dX12_condition_16 : decode cX12_condition 16 = .ok (.invokevirtual 153, 3) := by decide +kernel
theorem dX12_condition_19 : decode cX12_condition 19 = .ok (.bipush 124, 2) := by decide +kernel
theorem dX12_condition_21 : decode cX12_condition 21 = .ok (.if_icmp .ne 39, 3) := by decide +kernel
theorem dX12_condition_24 : decode cX12_condition 24 = .ok (.aload_n 0, 1) := by decide +kernel
theorem dX12_condition_25 : decode cX12_condition 25 = .ok (.dup, 1) := by decide +kernel
theorem dX12_condition_26 : decode cX12_condition 26 = .ok (.getfield 134, 3) := by decide +kernel
theorem dX12_condition_29 : decode cX12_condition 29 = .ok (.iconst 1, 1) := by decide +kernel
theorem dX12_condition_30 : decode cX12_condition 30 = .ok (.iadd, 1) := by decide +kernel
theorem dX12_condition_31 : decode cX12_condition 31 = .ok (.putfield 134, 3) := by decide +kernel
theorem dX12_condition_34 : decode cX12_condition 34 = .ok (.aload_n 0, 1) := by decide +kernel
theorem dX12_condition_35 : decode cX12_condition 35 = .ok (.iconst 0, 1) := by decide +kernel
theorem dX12_condition_36 : decode cX12_condition 36 = .ok (.iconst 0, 1) := by decide +kernel
theorem dX12_condition_37 : decode cX12_condition 37 = .ok (.invokevirtual 209, 3) := by decide +kernel
theorem dX12_condition_40 : decode cX12_condition 40 = .ok (.istore 4, 2) := by decide +kernel
theorem dX12_condition_42 : decode cX12_condition 42 = .ok (.iload_n 3, 1) := by decide +kernel
theorem dX12_condition_43 : decode cX12_condition 43 = .ok (.ifCond .ne 8, 3) := by decide +kernel
theorem dX12_condition_46 : decode cX12_condition 46 = .ok (.iload 4, 2) := by decide +kernel
theorem dX12_condition_48 : decode cX12_condition 48 = .ok (.ifCond .eq 7, 3) := by decide +kernel
theorem dX12_condition_51 : decode cX12_condition 51 = .ok (.iconst 1, 1) := by decide +kernel
theorem dX12_condition_52 : decode cX12_condition 52 = .ok (.goto 4, 3) := by decide +kernel
theorem dX12_condition_55 : decode cX12_condition 55 = .ok (.iconst 0, 1) := by decide +kernel
theorem dX12_condition_56 : decode cX12_condition 56 = .ok (.istore_n 3, 1) := by decide +kernel
theorem dX12_condition_57 : decode cX12_condition 57 = .ok (.goto (-50), 3) := by decide +kernel
theorem dX12_condition_60 : decode cX12_condition 60 = .ok (.iload_n 3, 1) := by decide +kernel
theorem dX12_condition_61 : decode cX12_condition 61 = .ok (.ireturn, 1) := by decide +kernel
theorem dX12_clause_0 : decode cX12_clause 0 = .ok (.aload_n 0, 1) := by decide +kernel
theorem dX12_clause_1 : decode cX12_clause 1 = .ok (.invokevirtual 153, 3) := by decide +kernel
theorem dX12_clause_4 : decode cX12_clause 4 = .ok (.istore_n 1, 1) := by decide +kernel
theorem dX12_clause_5 : decode cX12_clause 5 = .ok (.ldc 26, 2) := by decide +kernel
theorem dX12_clause_7 : decode cX12_clause 7 = .ok (.iload_n 1, 1) := by decide +kernel
theorem dX12_clause_8 : decode cX12_clause 8 = .ok (.invokestatic 169, 3) := by decide +kernel
theorem dX12_clause_11 : decode cX12_clause 11 = .ok (.ifCond .ne 9, 3) := by decide +kernel
theorem dX12_clause_14 : decode cX12_clause 14 = .ok (.aload_n 0, 1) := by decide +kernel
theorem dX12_clause_15 : decode cX12_clause 15 = .ok (.invokevirtual 149, 3) := by decide +kernel
theorem dX12_clause_18 : decode cX12_clause 18 = .ok (.pop, 1) := by decide +kernel
theorem dX12_clause_19 : decode cX12_clause 19 = .ok (.return_, 1) := by decide +kernel
theorem dX12_clause_20 : decode cX12_clause 20 = .ok (.aload_n 0, 1) := by decide +kernel
theorem dX12_clause_21 : decode cX12_clause 21 = .ok (.dup, 1) := by decide +kernel
theorem dX12_clause_22 : decode cX12_clause 22 = .ok (.getfield 134, 3) := by decide +kernel
theorem dX12_clause_25 : decode cX12_clause 25 = .ok (.iconst 1, 1) := by decide +kernel
theorem dX12_clause_26 : decode cX12_clause 26 = .ok (.iadd, 1) := by decide +kernel
theorem dX12_clause_27 : decode cX12_clause 27 = .ok (.putfield 134, 3) := by decide +kernel
theorem dX12_clause_30 : decode cX12_clause 30 = .ok (.aload_n 0, 1) := by decide +kernel
theorem dX12_clause_31 : decode cX12_clause 31 = .ok (.bipush 58, 2) := by decide +kernel
theorem dX12_clause_33 : decode cX12_clause 33 = .ok (.invokevirtual 179, 3) := by decide +kernel
theorem dX12_clause_36 : decode cX12_clause 36 = .ok (.ifCond .ne 4, 3) := by decide +kernel
theorem dX12_clause_39 : decode cX12_clause 39 = .ok (.return_, 1) := by decide +kernel
theorem dX12_clause_40 : decode cX12_clause 40 = .ok (.iconst 1, 1) := by decide +kernel
theorem dX12_clause_41 : decode cX12_clause 41 = .ok (.istore_n 2, 1) := by decide +kernel
theorem dX12_clause_42 : decode cX12_clause 42 = .ok (.iconst 0, 1) := by decide +kernel
theorem dX12_clause_43 : decode cX12_clause 43 = .ok (.istore_n 3, 1) := by decide +kernel
theorem dX12_clause_44 : decode cX12_clause 44 = .ok (.aload_n 0, 1) := by decide +kernel
theorem dX12_clause_45 : decode cX12_clause 45 = .ok (.invokevirtual 153, 3) := by decide +kernel
theorem dX12_clause_48 : decode cX12_clause 48 = .ok (.istore 4, 2) := by decide +kernel
theorem dX12_clause_50 : decode cX12_clause 50 = .ok (.iload 4, 2) := by decide +kernel
theorem dX12_clause_52 : decode cX12_clause 52 = .ok (.bipush 33, 2) := by decide +kernel
theorem dX12_clause_54 : decode cX12_clause 54 = .ok (.if_icmp .eq 10, 3) := by decide +kernel
theorem dX12_clause_57 : decode cX12_clause 57 = .ok (.iload 4, 2) := by decide +kernel
theorem dX12_clause_59 : decode cX12_clause 59 = .ok (.bipush 40, 2) := by decide +kernel
theorem dX12_clause_61 : decode cX12_clause 61 = .ok (.if_icmp .ne 28, 3) := by decide +kernel
theorem dX12_clause_64 : decode cX12_clause 64 = .ok (.aload_n 0, 1) := by decide +kernel
theorem dX12_clause_65 : decode cX12_clause 65 = .ok (.iconst 0, 1) := by decide +kernel
theorem dX12_clause_66 : decode cX12_clause 66 = .ok (.iconst 0, 1) := by decide +kernel
theorem dX12_clause_67 : decode cX12_clause 67 = .ok (.invokevirtual 202, 3) := by decide +kernel
theorem dX12_clause_70 : decode cX12_clause 70 = .ok (.istore_n 2, 1) := by decide +kernel
theorem dX12_clause_71 : decode cX12_clause 71 = .ok (.aload_n 0, 1) := by decide +kernel
theorem dX12_clause_72 : decode cX12_clause 72 = .ok (.bipush 63, 2) := by decide +kernel
theorem dX12_clause_74 : decode cX12_clause 74 = .ok (.invokevirtual 179, 3) := by decide +kernel
theorem dX12_clause_77 : decode cX12_clause 77 = .ok (.ifCond .ne 4, 3) := by decide +kernel
theorem dX12_clause_80 : decode cX12_clause 80 = .ok (.return_, 1) := by decide +kernel
theorem dX12_clause_81 : decode cX12_clause 81 = .ok (.aload_n 0, 1) := by decide +kernel
theorem dX12_clause_82 : decode cX12_clause 82 = .ok (.invokevirtual 176, 3) := by decide +kernel
theorem dX12_clause_85 : decode cX12_clause 85 = .ok (.istore_n 3, 1) := by decide +kernel
theorem dX12_clause_86 : decode cX12_clause 86 = .ok (.goto 48, 3) := by decide +kernel
theorem dX12_clause_89 : decode cX12_clause 89 = .ok (.aload_n 0, 1) := by decide +kernel
theorem dX12_clause_90 : decode cX12_clause 90 = .ok (.invokevirtual 176, 3) := by decide +kernel
theorem dX12_clause_93 : decode cX12_clause 93 = .ok (.istore_n 3, 1) := by decide +kernel
theorem dX12_clause_94 : decode cX12_clause 94 = .ok (.aload_n 0, 1) := by decide +kernel
theorem dX12_clause_95 : decode cX12_clause 95 = .ok (.getfield 143, 3) := by decide +kernel
theorem dX12_clause_98 : decode cX12_clause 98 = .ok (.iconst (-1), 1) := by decide +kernel
theorem dX12_clause_99 : decode cX12_clause 99 = .ok (.if_icmp .ne 35, 3) := by decide +kernel
theorem dX12_clause_102 : decode cX12_clause 102 = .ok (.aload_n 0, 1) := by decide +kernel
theorem dX12_clause_103 : decode cX12_clause 103 = .ok (.invokevirtual 153, 3) := by decide +kernel
theorem dX12_clause_106 : decode cX12_clause 106 = .ok (.invokestatic 196, 3) := by decide +kernel
theorem dX12_clause_109 : decode cX12_clause 109 = .ok (.ifCond .eq 25, 3) := by decide +kernel
theorem dX12_clause_112 : decode cX12_clause 112 = .ok (.aload_n 0, 1) := by decide +kernel
theorem dX12_clause_113 : decode cX12_clause 113 = .ok (.iconst 1, 1) := by decide +kernel
theorem dX12_clause_114 : decode cX12_clause 114 = .ok (.iload_n 3, 1) := by decide +kernel
theorem dX12_clause_115 : decode cX12_clause 115 = .ok (.invokevirtual 202, 3) := by decide +kernel
theorem dX12_clause_118 : decode cX12_clause 118 = .ok (.istore_n 2, 1) := by decide +kernel
theorem dX12_clause_119 : decode cX12_clause 119 = .ok (.aload_n 0, 1) := by decide +kernel
theorem dX12_clause_120 : decode cX12_clause 120 = .ok (.bipush 63, 2) := by decide +kernel
theorem dX12_clause_122 : decode cX12_clause 122 = .ok (.invokevirtual 179, 3) := by decide +kernel
theorem dX12_clause_125 : decode cX12_clause 125 = .ok (.ifCond .ne 4, 3) := by decide +kernel
theorem dX12_clause_128 : decode cX12_clause 128 = .ok (.return_, 1) := by decide +kernel
theorem dX12_clause_129 : decode cX12_clause 129 = .ok (.aload_n 0, 1) := by decide +kernel
theorem dX12_clause_130 : decode cX12_clause 130 = .ok (.invokevirtual 176, 3) := by decide +kernel
theorem dX12_clause_133 : decode cX12_clause 133 = .ok (.istore_n 3, 1) := by decide +kernel
theorem dX12_clause_134 : decode cX12_clause 134 = .ok (.aload_n 0, 1) := by decide +kernel
theorem dX12_clause_135 : decode cX12_clause 135 = .ok (.getfield 143, 3) := by decide +kernel
theorem dX12_clause_138 : decode cX12_clause 138 = .ok (.iconst (-1), 1) := by decide +kernel
theorem dX12_clause_139 : decode cX12_clause 139 = .ok (.if_icmp .ne 22, 3) := by decide +kernel
theorem dX12_clause_142 : decode cX12_clause 142 = .ok (.aload_n 0, 1) := by decide +kernel
theorem dX12_clause_143 : decode cX12_clause 143 = .ok (.getfield 212, 3) := by decide +kernel
theorem dX12_clause_146 : decode cX12_clause 146 = .ok (.ifCond .ne 15, 3) := by decide +kernel
theorem dX12_clause_149 : decode cX12_clause 149 = .ok (.iload_n 1, 1) := by decide +kernel
theorem dX12_clause_150 : decode cX12_clause 150 = .ok (.aload_n 0, 1) := by decide +kernel
theorem dX12_clause_151 : decode cX12_clause 151 = .ok (.getfield 216, 3) := by decide +kernel
theorem dX12_clause_154 : decode cX12_clause 154 = .ok (.if_icmp .ne 7, 3) := by decide +kernel
theorem dX12_clause_157 : decode cX12_clause 157 = .ok (.iload_n 2, 1) := by decide +kernel
theorem dX12_clause_158 : decode cX12_clause 158 = .ok (.ifCond .ne 4, 3) := by decide +kernel
theorem dX12_clause_161 : decode cX12_clause 161 = .ok (.return_, 1) := by decide +kernel
theorem dX12_clause_162 : decode cX12_clause 162 = .ok (.aload_n 0, 1) := by decide +kernel
theorem dX12_clause_163 : decode cX12_clause 163 = .ok (.iconst 1, 1) := by decide +kernel
theorem dX12_clause_164 : decode cX12_clause 164 = .ok (.putfield 212, 3) := by decide +kernel
theorem dX12_clause_167 : decode cX12_clause 167 = .ok (.aload_n 0, 1) := by decide +kernel
theorem dX12_clause_168 : decode cX12_clause 168 = .ok (.iload_n 3, 1) := by decide +kernel
theorem dX12_clause_169 : decode cX12_clause 169 = .ok (.putfield 219, 3) := by decide +kernel
theorem dX12_clause_172 : decode cX12_clause 172 = .ok (.return_, 1) := by decide +kernel
theorem dX12_opens_0 : decode cX12_opens 0 = .ok (.aload_n 0, 1) := by decide +kernel
theorem dX12_opens_1 : decode cX12_opens 1 = .ok (.aload_n 1, 1) := by decide +kernel
theorem dX12_opens_2 : decode cX12_opens 2 = .ok (.putfield 23, 3) := by decide +kernel
theorem dX12_opens_5 : decode cX12_opens 5 = .ok (.aload_n 0, 1) := by decide +kernel
theorem dX12_opens_6 : decode cX12_opens 6 = .ok (.iload_n 2, 1) := by decide +kernel
theorem dX12_opens_7 : decode cX12_opens 7 = .ok (.putfield 140, 3) := by decide +kernel
theorem dX12_opens_10 : decode cX12_opens 10 = .ok (.aload_n 0, 1) := by decide +kernel
theorem dX12_opens_11 : decode cX12_opens 11 = .ok (.iload_n 3, 1) := by decide +kernel
theorem dX12_opens_12 : decode cX12_opens 12 = .ok (.putfield 137, 3) := by decide +kernel
theorem dX12_opens_15 : decode cX12_opens 15 = .ok (.aload_n 0, 1) := by decide +kernel
theorem dX12_opens_16 : decode cX12_opens 16 = .ok (.iconst 0, 1) := by decide +kernel
theorem dX12_opens_17 : decode cX12_opens 17 = .ok (.putfield 134, 3) := by decide +kernel
theorem dX12_opens_20 : decode cX12_opens 20 = .ok (.aload_n 0, 1) := by decide +kernel
theorem dX12_opens_21 : decode cX12_opens 21 = .ok (.iconst (-1), 1) := by decide +kernel
theorem dX12_opens_22 : decode cX12_opens 22 = .ok (.putfield 143, 3) := by decide +kernel
theorem dX12_opens_25 : decode cX12_opens 25 = .ok (.return_, 1) := by decide +kernel
theorem dX12_goThrough_0 : decode cX12_goThrough 0 = .ok (.aload_n 0, 1) := by decide +kernel
theorem dX12_goThrough_1 : decode cX12_goThrough 1 = .ok (.aload_n 1, 1) := by decide +kernel
theorem dX12_goThrough_2 : decode cX12_goThrough 2 = .ok (.iload_n 2, 1) := by decide +kernel
theorem dX12_goThrough_3 : decode cX12_goThrough 3 = .ok (.iload_n 3, 1) := by decide +kernel
theorem dX12_goThrough_4 : decode cX12_goThrough 4 = .ok (.invokevirtual 222, 3) := by decide +kernel
theorem dX12_goThrough_7 : decode cX12_goThrough 7 = .ok (.aload_n 0, 1) := by decide +kernel
theorem dX12_goThrough_8 : decode cX12_goThrough 8 = .ok (.bipush 121, 2) := by decide +kernel
theorem dX12_goThrough_10 : decode cX12_goThrough 10 = .ok (.putfield 216, 3) := by decide +kernel
theorem dX12_goThrough_13 : decode cX12_goThrough 13 = .ok (.aload_n 0, 1) := by decide +kernel
theorem dX12_goThrough_14 : decode cX12_goThrough 14 = .ok (.iconst 0, 1) := by decide +kernel
theorem dX12_goThrough_15 : decode cX12_goThrough 15 = .ok (.putfield 146, 3) := by decide +kernel
theorem dX12_goThrough_18 : decode cX12_goThrough 18 = .ok (.aload_n 0, 1) := by decide +kernel
theorem dX12_goThrough_19 : decode cX12_goThrough 19 = .ok (.iconst 0, 1) := by decide +kernel
theorem dX12_goThrough_20 : decode cX12_goThrough 20 = .ok (.putfield 212, 3) := by decide +kernel
theorem dX12_goThrough_23 : decode cX12_goThrough 23 = .ok (.aload_n 0, 1) := by decide +kernel
theorem dX12_goThrough_24 : decode cX12_goThrough 24 = .ok (.iconst 0, 1) := by decide +kernel
theorem dX12_goThrough_25 : decode cX12_goThrough 25 = .ok (.putfield 219, 3) := by decide +kernel
theorem dX12_goThrough_28 : decode cX12_goThrough 28 = .ok (.aload_n 0, 1) := by decide +kernel
theorem dX12_goThrough_29 : decode cX12_goThrough 29 = .ok (.invokevirtual 226, 3) := by decide +kernel
theorem dX12_goThrough_32 : decode cX12_goThrough 32 = .ok (.aload_n 0, 1) := by decide +kernel
theorem dX12_goThrough_33 : decode cX12_goThrough 33 = .ok (.getfield 143, 3) := by decide +kernel
theorem dX12_goThrough_36 : decode cX12_goThrough 36 = .ok (.iconst (-1), 1) := by decide +kernel
theorem dX12_goThrough_37 : decode cX12_goThrough 37 = .ok (.if_icmp .ne 29, 3) := by decide +kernel
theorem dX12_goThrough_40 : decode cX12_goThrough 40 = .ok (.aload_n 0, 1) := by decide +kernel
theorem dX12_goThrough_41 : decode cX12_goThrough 41 = .ok (.invokevirtual 153, 3) := by decide +kernel
theorem dX12_goThrough_44 : decode cX12_goThrough 44 = .ok (.bipush 59, 2) := by decide +kernel
theorem dX12_goThrough_46 : decode cX12_goThrough 46 = .ok (.if_icmp .ne 20, 3) := by decide +kernel
theorem dX12_goThrough_49 : decode cX12_goThrough 49 = .ok (.aload_n 0, 1) := by decide +kernel
theorem dX12_goThrough_50 : decode cX12_goThrough 50 = .ok (.dup, 1) := by decide +kernel
theorem dX12_goThrough_51 : decode cX12_goThrough 51 = .ok (.getfield 134, 3) := by decide +kernel
theorem dX12_goThrough_54 : decode cX12_goThrough 54 = .ok (.iconst 1, 1) := by decide +kernel
theorem dX12_goThrough_55 : decode cX12_goThrough 55 = .ok (.iadd, 1) := by decide +kernel
theorem dX12_goThrough_56 : decode cX12_goThrough 56 = .ok (.putfield 134, 3) := by decide +kernel
theorem dX12_goThrough_59 : decode cX12_goThrough 59 = .ok (.aload_n 0, 1) := by decide +kernel
theorem dX12_goThrough_60 : decode cX12_goThrough 60 = .ok (.invokevirtual 226, 3) := by decide +kernel
theorem dX12_goThrough_63 : decode cX12_goThrough 63 = .ok (.goto (-31), 3) := by decide +kernel
theorem dX12_goThrough_66 : decode cX12_goThrough 66 = .ok (.aload_n 0, 1) := by decide +kernel
theorem dX12_goThrough_67 : decode cX12_goThrough 67 = .ok (.getfield 143, 3) := by decide +kernel
theorem dX12_goThrough_70 : decode cX12_goThrough 70 = .ok (.iconst (-1), 1) := by decide +kernel
theorem dX12_goThrough_71 : decode cX12_goThrough 71 = .ok (.if_icmp .ne 16, 3) := by decide +kernel
theorem dX12_goThrough_74 : decode cX12_goThrough 74 = .ok (.aload_n 0, 1) := by decide +kernel
theorem dX12_goThrough_75 : decode cX12_goThrough 75 = .ok (.invokevirtual 153, 3) := by decide +kernel
theorem dX12_goThrough_78 : decode cX12_goThrough 78 = .ok (.iconst (-1), 1) := by decide +kernel
theorem dX12_goThrough_79 : decode cX12_goThrough 79 = .ok (.if_icmp .eq 8, 3) := by decide +kernel
theorem dX12_goThrough_82 : decode cX12_goThrough 82 = .ok (.aload_n 0, 1) := by decide +kernel
theorem dX12_goThrough_83 : decode cX12_goThrough 83 = .ok (.invokevirtual 149, 3) := by decide +kernel
theorem dX12_goThrough_86 : decode cX12_goThrough 86 = .ok (.pop, 1) := by decide +kernel
theorem dX12_goThrough_87 : decode cX12_goThrough 87 = .ok (.return_, 1) := by decide +kernel
theorem dX12_here_0 : decode cX12_here 0 = .ok (.aload_n 0, 1) := by decide +kernel
theorem dX12_here_1 : decode cX12_here 1 = .ok (.getfield 134, 3) := by decide +kernel
theorem dX12_here_4 : decode cX12_here 4 = .ok (.aload_n 0, 1) := by decide +kernel
theorem dX12_here_5 : decode cX12_here 5 = .ok (.getfield 137, 3) := by decide +kernel
theorem dX12_here_8 : decode cX12_here 8 = .ok (.if_icmp .ge 24, 3) := by decide +kernel
theorem dX12_here_11 : decode cX12_here 11 = .ok (.aload_n 0, 1) := by decide +kernel
theorem dX12_here_12 : decode cX12_here 12 = .ok (.getfield 23, 3) := by decide +kernel
theorem dX12_here_15 : decode cX12_here 15 = .ok (.aload_n 0, 1) := by decide +kernel
theorem dX12_here_16 : decode cX12_here 16 = .ok (.getfield 140, 3) := by decide +kernel
theorem dX12_here_19 : decode cX12_here 19 = .ok (.aload_n 0, 1) := by decide +kernel
theorem dX12_here_20 : decode cX12_here 20 = .ok (.getfield 134, 3) := by decide +kernel
theorem dX12_here_23 : decode cX12_here 23 = .ok (.iadd, 1) := by decide +kernel
theorem dX12_here_24 : decode cX12_here 24 = .ok (.baload, 1) := by decide +kernel
theorem dX12_here_25 : decode cX12_here 25 = .ok (.sipush 255, 3) := by decide +kernel
theorem dX12_here_28 : decode cX12_here 28 = .ok (.iand, 1) := by decide +kernel
theorem dX12_here_29 : decode cX12_here 29 = .ok (.goto 4, 3) := by decide +kernel
theorem dX12_here_32 : decode cX12_here 32 = .ok (.iconst (-1), 1) := by decide +kernel
theorem dX12_here_33 : decode cX12_here 33 = .ok (.ireturn, 1) := by decide +kernel
theorem dX12_placeOf_0 : decode cX12_placeOf 0 = .ok (.iconst 0, 1) := by decide +kernel
theorem dX12_placeOf_1 : decode cX12_placeOf 1 = .ok (.istore_n 2, 1) := by decide +kernel
theorem dX12_placeOf_2 : decode cX12_placeOf 2 = .ok (.iload_n 2, 1) := by decide +kernel
theorem dX12_placeOf_3 : decode cX12_placeOf 3 = .ok (.aload_n 0, 1) := by decide +kernel
theorem dX12_placeOf_4 : decode cX12_placeOf 4 = .ok (.invokevirtual 114, 3) := by decide +kernel
theorem dX12_placeOf_7 : decode cX12_placeOf 7 = .ok (.if_icmp .ge 20, 3) := by decide +kernel
theorem dX12_placeOf_10 : decode cX12_placeOf 10 = .ok (.aload_n 0, 1) := by decide +kernel
theorem dX12_placeOf_11 : decode cX12_placeOf 11 = .ok (.iload_n 2, 1) := by decide +kernel
theorem dX12_placeOf_12 : decode cX12_placeOf 12 = .ok (.invokevirtual 120, 3) := by decide +kernel
theorem dX12_placeOf_15 : decode cX12_placeOf 15 = .ok (.iload_n 1, 1) := by decide +kernel
theorem dX12_placeOf_16 : decode cX12_placeOf 16 = .ok (.if_icmp .ne 5, 3) := by decide +kernel
theorem dX12_placeOf_19 : decode cX12_placeOf 19 = .ok (.iload_n 2, 1) := by decide +kernel
theorem dX12_placeOf_20 : decode cX12_placeOf 20 = .ok (.ireturn, 1) := by decide +kernel
theorem dX12_placeOf_21 : decode cX12_placeOf 21 = .ok (.iinc 2 1, 3) := by decide +kernel
theorem dX12_placeOf_24 : decode cX12_placeOf 24 = .ok (.goto (-22), 3) := by decide +kernel
theorem dX12_placeOf_27 : decode cX12_placeOf 27 = .ok (.iconst (-1), 1) := by decide +kernel
theorem dX12_placeOf_28 : decode cX12_placeOf 28 = .ok (.ireturn, 1) := by decide +kernel
theorem dX12_readItem_0 : decode cX12_readItem 0 = .ok (.aload_n 0, 1) := by decide +kernel
theorem dX12_readItem_1 : decode cX12_readItem 1 = .ok (.dup, 1) := by decide +kernel
theorem dX12_readItem_2 : decode cX12_readItem 2 = .ok (.getfield 134, 3) := by decide +kernel
theorem dX12_readItem_5 : decode cX12_readItem 5 = .ok (.iconst 1, 1) := by decide +kernel
theorem dX12_readItem_6 : decode cX12_readItem 6 = .ok (.iadd, 1) := by decide +kernel
theorem dX12_readItem_7 : decode cX12_readItem 7 = .ok (.putfield 134, 3) := by decide +kernel
theorem dX12_readItem_10 : decode cX12_readItem 10 = .ok (.aload_n 0, 1) := by decide +kernel
theorem dX12_readItem_11 : decode cX12_readItem 11 = .ok (.invokevirtual 153, 3) := by decide +kernel
theorem dX12_readItem_14 : decode cX12_readItem 14 = .ok (.istore 5, 2) := by decide +kernel
theorem dX12_readItem_16 : decode cX12_readItem 16 = .ok (.aload_n 0, 1) := by decide +kernel
theorem dX12_readItem_17 : decode cX12_readItem 17 = .ok (.invokevirtual 183, 3) := by decide +kernel
theorem dX12_readItem_20 : decode cX12_readItem 20 = .ok (.ifCond .ne 9, 3) := by decide +kernel
theorem dX12_readItem_23 : decode cX12_readItem 23 = .ok (.aload_n 0, 1) := by decide +kernel
theorem dX12_readItem_24 : decode cX12_readItem 24 = .ok (.invokevirtual 149, 3) := by decide +kernel
theorem dX12_readItem_27 : decode cX12_readItem 27 = .ok (.pop, 1) := by decide +kernel
theorem dX12_readItem_28 : decode cX12_readItem 28 = .ok (.return_, 1) := by decide +kernel
theorem dX12_readItem_29 : decode cX12_readItem 29 = .ok (.iload 5, 2) := by decide +kernel
theorem dX12_readItem_31 : decode cX12_readItem 31 = .ok (.bipush 48, 2) := by decide +kernel
theorem dX12_readItem_33 : decode cX12_readItem 33 = .ok (.isub, 1) := by decide +kernel
theorem dX12_readItem_34 : decode cX12_readItem 34 = .ok (.istore 6, 2) := by decide +kernel
theorem dX12_readItem_36 : decode cX12_readItem 36 = .ok (.aload_n 0, 1) := by decide +kernel
theorem dX12_readItem_37 : decode cX12_readItem 37 = .ok (.dup, 1) := by decide +kernel
theorem dX12_readItem_38 : decode cX12_readItem 38 = .ok (.getfield 134, 3) := by decide +kernel
theorem dX12_readItem_41 : decode cX12_readItem 41 = .ok (.iconst 1, 1) := by decide +kernel
theorem dX12_readItem_42 : decode cX12_readItem 42 = .ok (.iadd, 1) := by decide +kernel
theorem dX12_readItem_43 : decode cX12_readItem 43 = .ok (.putfield 134, 3) := by decide +kernel
theorem dX12_readItem_46 : decode cX12_readItem 46 = .ok (.aload_n 0, 1) := by decide +kernel
theorem dX12_readItem_47 : decode cX12_readItem 47 = .ok (.invokevirtual 183, 3) := by decide +kernel
theorem dX12_readItem_50 : decode cX12_readItem 50 = .ok (.ifCond .eq 28, 3) := by decide +kernel
theorem dX12_readItem_53 : decode cX12_readItem 53 = .ok (.bipush 10, 2) := by decide +kernel
theorem dX12_readItem_55 : decode cX12_readItem 55 = .ok (.iload 6, 2) := by decide +kernel
theorem dX12_readItem_57 : decode cX12_readItem 57 = .ok (.imul, 1) := by decide +kernel
theorem dX12_readItem_58 : decode cX12_readItem 58 = .ok (.aload_n 0, 1) := by decide +kernel
theorem dX12_readItem_59 : decode cX12_readItem 59 = .ok (.invokevirtual 229, 3) := by decide +kernel
theorem dX12_readItem_62 : decode cX12_readItem 62 = .ok (.iadd, 1) := by decide +kernel
theorem dX12_readItem_63 : decode cX12_readItem 63 = .ok (.bipush 48, 2) := by decide +kernel
theorem dX12_readItem_65 : decode cX12_readItem 65 = .ok (.isub, 1) := by decide +kernel
theorem dX12_readItem_66 : decode cX12_readItem 66 = .ok (.istore 6, 2) := by decide +kernel
theorem dX12_readItem_68 : decode cX12_readItem 68 = .ok (.aload_n 0, 1) := by decide +kernel
theorem dX12_readItem_69 : decode cX12_readItem 69 = .ok (.dup, 1) := by decide +kernel
theorem dX12_readItem_70 : decode cX12_readItem 70 = .ok (.getfield 134, 3) := by decide +kernel
theorem dX12_readItem_73 : decode cX12_readItem 73 = .ok (.iconst 1, 1) := by decide +kernel
theorem dX12_readItem_74 : decode cX12_readItem 74 = .ok (.iadd, 1) := by decide +kernel
theorem dX12_readItem_75 : decode cX12_readItem 75 = .ok (.putfield 134, 3) := by decide +kernel
theorem dX12_readItem_78 : decode cX12_readItem 78 = .ok (.aload_n 0, 1) := by decide +kernel
theorem dX12_readItem_79 : decode cX12_readItem 79 = .ok (.invokevirtual 183, 3) := by decide +kernel
theorem dX12_readItem_82 : decode cX12_readItem 82 = .ok (.ifCond .eq 9, 3) := by decide +kernel
theorem dX12_readItem_85 : decode cX12_readItem 85 = .ok (.aload_n 0, 1) := by decide +kernel
theorem dX12_readItem_86 : decode cX12_readItem 86 = .ok (.invokevirtual 149, 3) := by decide +kernel
theorem dX12_readItem_89 : decode cX12_readItem 89 = .ok (.pop, 1) := by decide +kernel
theorem dX12_readItem_90 : decode cX12_readItem 90 = .ok (.return_, 1) := by decide +kernel
theorem dX12_readItem_91 : decode cX12_readItem 91 = .ok (.iload 6, 2) := by decide +kernel
theorem dX12_readItem_93 : decode cX12_readItem 93 = .ok (.i2l, 1) := by decide +kernel
theorem dX12_readItem_94 : decode cX12_readItem 94 = .ok (.iload_n 3, 1) := by decide +kernel
theorem dX12_readItem_95 : decode cX12_readItem 95 = .ok (.i2l, 1) := by decide +kernel
theorem dX12_readItem_96 : decode cX12_readItem 96 = .ok (.iload 4, 2) := by decide +kernel
theorem dX12_readItem_98 : decode cX12_readItem 98 = .ok (.i2l, 1) := by decide +kernel
theorem dX12_readItem_99 : decode cX12_readItem 99 = .ok (.invokestatic 232, 3) := by decide +kernel
theorem dX12_readItem_102 : decode cX12_readItem 102 = .ok (.ifCond .ne 19, 3) := by decide +kernel
theorem dX12_readItem_105 : decode cX12_readItem 105 = .ok (.aload_n 0, 1) := by decide +kernel
theorem dX12_readItem_106 : decode cX12_readItem 106 = .ok (.dup, 1) := by decide +kernel
theorem dX12_readItem_107 : decode cX12_readItem 107 = .ok (.getfield 134, 3) := by decide +kernel
theorem dX12_readItem_110 : decode cX12_readItem 110 = .ok (.iconst 1, 1) := by decide +kernel
theorem dX12_readItem_111 : decode cX12_readItem 111 = .ok (.isub, 1) := by decide +kernel
theorem dX12_readItem_112 : decode cX12_readItem 112 = .ok (.putfield 134, 3) := by decide +kernel
theorem dX12_readItem_115 : decode cX12_readItem 115 = .ok (.aload_n 0, 1) := by decide +kernel
theorem dX12_readItem_116 : decode cX12_readItem 116 = .ok (.invokevirtual 149, 3) := by decide +kernel
theorem dX12_readItem_119 : decode cX12_readItem 119 = .ok (.pop, 1) := by decide +kernel
theorem dX12_readItem_120 : decode cX12_readItem 120 = .ok (.return_, 1) := by decide +kernel
theorem dX12_readItem_121 : decode cX12_readItem 121 = .ok (.aload_n 1, 1) := by decide +kernel
theorem dX12_readItem_122 : decode cX12_readItem 122 = .ok (.iload_n 2, 1) := by decide +kernel
theorem dX12_readItem_123 : decode cX12_readItem 123 = .ok (.iload 6, 2) := by decide +kernel
theorem dX12_readItem_125 : decode cX12_readItem 125 = .ok (.iastore, 1) := by decide +kernel
theorem dX12_readItem_126 : decode cX12_readItem 126 = .ok (.return_, 1) := by decide +kernel
theorem dX12_leastOf_0 : decode cX12_leastOf 0 = .ok (.iload_n 0, 1) := by decide +kernel
theorem dX12_leastOf_1 : decode cX12_leastOf 1 = .ok (.bipush 107, 2) := by decide +kernel
theorem dX12_leastOf_3 : decode cX12_leastOf 3 = .ok (.if_icmp .ne 13, 3) := by decide +kernel
theorem dX12_leastOf_6 : decode cX12_leastOf 6 = .ok (.iload_n 1, 1) := by decide +kernel
theorem dX12_leastOf_7 : decode cX12_leastOf 7 = .ok (.ifCond .ne 7, 3) := by decide +kernel
theorem dX12_leastOf_10 : decode cX12_leastOf 10 = .ok (.iconst 2, 1) := by decide +kernel
theorem dX12_leastOf_11 : decode cX12_leastOf 11 = .ok (.goto 4, 3) := by decide +kernel
theorem dX12_leastOf_14 : decode cX12_leastOf 14 = .ok (.iconst 0, 1) := by decide +kernel
theorem dX12_leastOf_15 : decode cX12_leastOf 15 = .ok (.ireturn, 1) := by decide +kernel
theorem dX12_leastOf_16 : decode cX12_leastOf 16 = .ok (.iload_n 0, 1) := by decide +kernel
theorem dX12_leastOf_17 : decode cX12_leastOf 17 = .ok (.bipush 115, 2) := by decide +kernel
theorem dX12_leastOf_19 : decode cX12_leastOf 19 = .ok (.if_icmp .eq 8, 3) := by decide +kernel
theorem dX12_leastOf_22 : decode cX12_leastOf 22 = .ok (.iload_n 1, 1) := by decide +kernel
theorem dX12_leastOf_23 : decode cX12_leastOf 23 = .ok (.iconst 1, 1) := by decide +kernel
theorem dX12_leastOf_24 : decode cX12_leastOf 24 = .ok (.if_icmp .ne 7, 3) := by decide +kernel
theorem dX12_leastOf_27 : decode cX12_leastOf 27 = .ok (.iconst 1, 1) := by decide +kernel
theorem dX12_leastOf_28 : decode cX12_leastOf 28 = .ok (.goto 4, 3) := by decide +kernel
theorem dX12_leastOf_31 : decode cX12_leastOf 31 = .ok (.iconst 0, 1) := by decide +kernel
theorem dX12_leastOf_32 : decode cX12_leastOf 32 = .ok (.ireturn, 1) := by decide +kernel
theorem dX12_mostOf_0 : decode cX12_mostOf 0 = .ok (.iload_n 0, 1) := by decide +kernel
theorem dX12_mostOf_1 : decode cX12_mostOf 1 = .ok (.bipush 107, 2) := by decide +kernel
theorem dX12_mostOf_3 : decode cX12_mostOf 3 = .ok (.if_icmp .ne 15, 3) := by decide +kernel
theorem dX12_mostOf_6 : decode cX12_mostOf 6 = .ok (.iload_n 1, 1) := by decide +kernel
theorem dX12_mostOf_7 : decode cX12_mostOf 7 = .ok (.ifCond .ne 8, 3) := by decide +kernel
theorem dX12_mostOf_10 : decode cX12_mostOf 10 = .ok (.bipush 20, 2) := by decide +kernel
theorem dX12_mostOf_12 : decode cX12_mostOf 12 = .ok (.goto 5, 3) := by decide +kernel
theorem dX12_mostOf_15 : decode cX12_mostOf 15 = .ok (.bipush 99, 2) := by decide +kernel
theorem dX12_mostOf_17 : decode cX12_mostOf 17 = .ok (.ireturn, 1) := by decide +kernel
theorem dX12_mostOf_18 : decode cX12_mostOf 18 = .ok (.iload_n 0, 1) := by decide +kernel
theorem dX12_mostOf_19 : decode cX12_mostOf 19 = .ok (.bipush 103, 2) := by decide +kernel
theorem dX12_mostOf_21 : decode cX12_mostOf 21 = .ok (.if_icmp .ne 12, 3) := by decide +kernel
theorem dX12_mostOf_24 : decode cX12_mostOf 24 = .ok (.iload_n 1, 1) := by decide +kernel
theorem dX12_mostOf_25 : decode cX12_mostOf 25 = .ok (.ifCond .ne 8, 3) := by decide +kernel
theorem dX12_mostOf_28 : decode cX12_mostOf 28 = .ok (.bipush 19, 2) := by decide +kernel
theorem dX12_mostOf_30 : decode cX12_mostOf 30 = .ok (.goto 5, 3) := by decide +kernel
theorem dX12_mostOf_33 : decode cX12_mostOf 33 = .ok (.bipush 9, 2) := by decide +kernel
theorem dX12_mostOf_35 : decode cX12_mostOf 35 = .ok (.ireturn, 1) := by decide +kernel
theorem dX12_readClause_0 : decode cX12_readClause 0 = .ok (.aload_n 0, 1) := by decide +kernel
theorem dX12_readClause_1 : decode cX12_readClause 1 = .ok (.invokevirtual 153, 3) := by decide +kernel
theorem dX12_readClause_4 : decode cX12_readClause 4 = .ok (.istore_n 1, 1) := by decide +kernel
theorem dX12_readClause_5 : decode cX12_readClause 5 = .ok (.iload_n 1, 1) := by decide +kernel
theorem dX12_readClause_6 : decode cX12_readClause 6 = .ok (.bipush 107, 2) := by decide +kernel
theorem dX12_readClause_8 : decode cX12_readClause 8 = .ok (.if_icmp .ne 10, 3) := by decide +kernel
theorem dX12_readClause_11 : decode cX12_readClause 11 = .ok (.aload_n 0, 1) := by decide +kernel
theorem dX12_readClause_12 : decode cX12_readClause 12 = .ok (.getfield 236, 3) := by decide +kernel
theorem dX12_readClause_15 : decode cX12_readClause 15 = .ok (.ifCond .eq 31, 3) := by decide +kernel
theorem dX12_readClause_18 : decode cX12_readClause 18 = .ok (.iload_n 1, 1) := by decide +kernel
theorem dX12_readClause_19 : decode cX12_readClause 19 = .ok (.bipush 115, 2) := by decide +kernel
theorem dX12_readClause_21 : decode cX12_readClause 21 = .ok (.if_icmp .ne 11, 3) := by decide +kernel
theorem dX12_readClause_24 : decode cX12_readClause 24 = .ok (.aload_n 0, 1) := by decide +kernel
theorem dX12_readClause_25 : decode cX12_readClause 25 = .ok (.getfield 239, 3) := by decide +kernel
theorem dX12_readClause_28 : decode cX12_readClause 28 = .ok (.iconst 4, 1) := by decide +kernel
theorem dX12_readClause_29 : decode cX12_readClause 29 = .ok (.if_icmp .lt 17, 3) := by decide +kernel
theorem dX12_readClause_32 : decode cX12_readClause 32 = .ok (.iload_n 1, 1) := by decide +kernel
theorem dX12_readClause_33 : decode cX12_readClause 33 = .ok (.bipush 103, 2) := by decide +kernel
theorem dX12_readClause_35 : decode cX12_readClause 35 = .ok (.if_icmp .ne 15, 3) := by decide +kernel
theorem dX12_readClause_38 : decode cX12_readClause 38 = .ok (.aload_n 0, 1) := by decide +kernel
theorem dX12_readClause_39 : decode cX12_readClause 39 = .ok (.getfield 242, 3) := by decide +kernel
theorem dX12_readClause_42 : decode cX12_readClause 42 = .ok (.iconst 4, 1) := by decide +kernel
theorem dX12_readClause_43 : decode cX12_readClause 43 = .ok (.if_icmp .ge 7, 3) := by decide +kernel
theorem dX12_readClause_46 : decode cX12_readClause 46 = .ok (.iconst 1, 1) := by decide +kernel
theorem dX12_readClause_47 : decode cX12_readClause 47 = .ok (.goto 4, 3) := by decide +kernel
theorem dX12_readClause_50 : decode cX12_readClause 50 = .ok (.iconst 0, 1) := by decide +kernel
theorem dX12_readClause_51 : decode cX12_readClause 51 = .ok (.istore_n 2, 1) := by decide +kernel
theorem dX12_readClause_52 : decode cX12_readClause 52 = .ok (.iload_n 2, 1) := by decide +kernel
theorem dX12_readClause_53 : decode cX12_readClause 53 = .ok (.ifCond .ne 9, 3) := by decide +kernel
theorem dX12_readClause_56 : decode cX12_readClause 56 = .ok (.aload_n 0, 1) := by decide +kernel
theorem dX12_readClause_57 : decode cX12_readClause 57 = .ok (.invokevirtual 149, 3) := by decide +kernel
theorem dX12_readClause_60 : decode cX12_readClause 60 = .ok (.pop, 1) := by decide +kernel
theorem dX12_readClause_61 : decode cX12_readClause 61 = .ok (.return_, 1) := by decide +kernel
theorem dX12_readClause_62 : decode cX12_readClause 62 = .ok (.aload_n 0, 1) := by decide +kernel
theorem dX12_readClause_63 : decode cX12_readClause 63 = .ok (.dup, 1) := by decide +kernel
theorem dX12_readClause_64 : decode cX12_readClause 64 = .ok (.getfield 134, 3) := by decide +kernel
theorem dX12_readClause_67 : decode cX12_readClause 67 = .ok (.iconst 1, 1) := by decide +kernel
theorem dX12_readClause_68 : decode cX12_readClause 68 = .ok (.iadd, 1) := by decide +kernel
theorem dX12_readClause_69 : decode cX12_readClause 69 = .ok (.putfield 134, 3) := by decide +kernel
theorem dX12_readClause_72 : decode cX12_readClause 72 = .ok (.iload_n 1, 1) := by decide +kernel
theorem dX12_readClause_73 : decode cX12_readClause 73 = .ok (.bipush 115, 2) := by decide +kernel
theorem dX12_readClause_75 : decode cX12_readClause 75 = .ok (.if_icmp .ne 12, 3) := by decide +kernel
theorem dX12_readClause_78 : decode cX12_readClause 78 = .ok (.iconst 2, 1) := by decide +kernel
theorem dX12_readClause_79 : decode cX12_readClause 79 = .ok (.aload_n 0, 1) := by decide +kernel
theorem dX12_readClause_80 : decode cX12_readClause 80 = .ok (.getfield 239, 3) := by decide +kernel
theorem dX12_readClause_83 : decode cX12_readClause 83 = .ok (.imul, 1) := by decide +kernel
theorem dX12_readClause_84 : decode cX12_readClause 84 = .ok (.goto 19, 3) := by decide +kernel
theorem dX12_readClause_87 : decode cX12_readClause 87 = .ok (.iload_n 1, 1) := by decide +kernel
theorem dX12_readClause_88 : decode cX12_readClause 88 = .ok (.bipush 103, 2) := by decide +kernel
theorem dX12_readClause_90 : decode cX12_readClause 90 = .ok (.if_icmp .ne 12, 3) := by decide +kernel
theorem dX12_readClause_93 : decode cX12_readClause 93 = .ok (.iconst 2, 1) := by decide +kernel
theorem dX12_readClause_94 : decode cX12_readClause 94 = .ok (.aload_n 0, 1) := by decide +kernel
theorem dX12_readClause_95 : decode cX12_readClause 95 = .ok (.getfield 242, 3) := by decide +kernel
theorem dX12_readClause_98 : decode cX12_readClause 98 = .ok (.imul, 1) := by decide +kernel
theorem dX12_readClause_99 : decode cX12_readClause 99 = .ok (.goto 4, 3) := by decide +kernel
theorem dX12_readClause_102 : decode cX12_readClause 102 = .ok (.iconst 0, 1) := by decide +kernel
theorem dX12_readClause_103 : decode cX12_readClause 103 = .ok (.istore_n 3, 1) := by decide +kernel
theorem dX12_readClause_104 : decode cX12_readClause 104 = .ok (.iload_n 1, 1) := by decide +kernel
theorem dX12_readClause_105 : decode cX12_readClause 105 = .ok (.bipush 115, 2) := by decide +kernel
theorem dX12_readClause_107 : decode cX12_readClause 107 = .ok (.if_icmp .ne 10, 3) := by decide +kernel
theorem dX12_readClause_110 : decode cX12_readClause 110 = .ok (.aload_n 0, 1) := by decide +kernel
theorem dX12_readClause_111 : decode cX12_readClause 111 = .ok (.getfield 46, 3) := by decide +kernel
theorem dX12_readClause_114 : decode cX12_readClause 114 = .ok (.goto 20, 3) := by decide +kernel
theorem dX12_readClause_117 : decode cX12_readClause 117 = .ok (.iload_n 1, 1) := by decide +kernel
theorem dX12_readClause_118 : decode cX12_readClause 118 = .ok (.bipush 103, 2) := by decide +kernel
theorem dX12_readClause_120 : decode cX12_readClause 120 = .ok (.if_icmp .ne 10, 3) := by decide +kernel
theorem dX12_readClause_123 : decode cX12_readClause 123 = .ok (.aload_n 0, 1) := by decide +kernel
theorem dX12_readClause_124 : decode cX12_readClause 124 = .ok (.getfield 52, 3) := by decide +kernel
theorem dX12_readClause_127 : decode cX12_readClause 127 = .ok (.goto 7, 3) := by decide +kernel
theorem dX12_readClause_130 : decode cX12_readClause 130 = .ok (.aload_n 0, 1) := by decide +kernel
theorem dX12_readClause_131 : decode cX12_readClause 131 = .ok (.getfield 40, 3) := by decide +kernel
theorem dX12_readClause_134 : decode cX12_readClause 134 = .ok (.astore 4, 2) := by decide +kernel
theorem dX12_readClause_136 : decode cX12_readClause 136 = .ok (.iload_n 1, 1) := by decide +kernel
theorem dX12_readClause_137 : decode cX12_readClause 137 = .ok (.bipush 107, 2) := by decide +kernel
theorem dX12_readClause_139 : decode cX12_readClause 139 = .ok (.if_icmp .ne 8, 3) := by decide +kernel
theorem dX12_readClause_142 : decode cX12_readClause 142 = .ok (.ldc 245, 2) := by decide +kernel
theorem dX12_readClause_144 : decode cX12_readClause 144 = .ok (.goto 16, 3) := by decide +kernel
theorem dX12_readClause_147 : decode cX12_readClause 147 = .ok (.iload_n 1, 1) := by decide +kernel
theorem dX12_readClause_148 : decode cX12_readClause 148 = .ok (.bipush 115, 2) := by decide +kernel
theorem dX12_readClause_150 : decode cX12_readClause 150 = .ok (.if_icmp .ne 8, 3) := by decide +kernel
theorem dX12_readClause_153 : decode cX12_readClause 153 = .ok (.ldc 247, 2) := by decide +kernel
theorem dX12_readClause_155 : decode cX12_readClause 155 = .ok (.goto 5, 3) := by decide +kernel
theorem dX12_readClause_158 : decode cX12_readClause 158 = .ok (.ldc 249, 2) := by decide +kernel
theorem dX12_readClause_160 : decode cX12_readClause 160 = .ok (.astore 5, 2) := by decide +kernel
theorem dX12_readClause_162 : decode cX12_readClause 162 = .ok (.iload_n 1, 1) := by decide +kernel
theorem dX12_readClause_163 : decode cX12_readClause 163 = .ok (.bipush 107, 2) := by decide +kernel
theorem dX12_readClause_165 : decode cX12_readClause 165 = .ok (.if_icmp .ne 8, 3) := by decide +kernel
theorem dX12_readClause_168 : decode cX12_readClause 168 = .ok (.aload_n 0, 1) := by decide +kernel
theorem dX12_readClause_169 : decode cX12_readClause 169 = .ok (.iconst 1, 1) := by decide +kernel
theorem dX12_readClause_170 : decode cX12_readClause 170 = .ok (.putfield 236, 3) := by decide +kernel
theorem dX12_readClause_173 : decode cX12_readClause 173 = .ok (.iload_n 1, 1) := by decide +kernel
theorem dX12_readClause_174 : decode cX12_readClause 174 = .ok (.bipush 115, 2) := by decide +kernel
theorem dX12_readClause_176 : decode cX12_readClause 176 = .ok (.if_icmp .ne 29, 3) := by decide +kernel
theorem dX12_readClause_179 : decode cX12_readClause 179 = .ok (.aload_n 0, 1) := by decide +kernel
theorem dX12_readClause_180 : decode cX12_readClause 180 = .ok (.getfield 46, 3) := by decide +kernel
theorem dX12_readClause_183 : decode cX12_readClause 183 = .ok (.iload_n 3, 1) := by decide +kernel
theorem dX12_readClause_184 : decode cX12_readClause 184 = .ok (.iconst 3, 1) := by decide +kernel
theorem dX12_readClause_185 : decode cX12_readClause 185 = .ok (.iastore, 1) := by decide +kernel
theorem dX12_readClause_186 : decode cX12_readClause 186 = .ok (.aload_n 0, 1) := by decide +kernel
theorem dX12_readClause_187 : decode cX12_readClause 187 = .ok (.getfield 46, 3) := by decide +kernel
theorem dX12_readClause_190 : decode cX12_readClause 190 = .ok (.iload_n 3, 1) := by decide +kernel
theorem dX12_readClause_191 : decode cX12_readClause 191 = .ok (.iconst 1, 1) := by decide +kernel
theorem dX12_readClause_192 : decode cX12_readClause 192 = .ok (.iadd, 1) := by decide +kernel
theorem dX12_readClause_193 : decode cX12_readClause 193 = .ok (.iconst 1, 1) := by decide +kernel
theorem dX12_readClause_194 : decode cX12_readClause 194 = .ok (.iastore, 1) := by decide +kernel
theorem dX12_readClause_195 : decode cX12_readClause 195 = .ok (.aload_n 0, 1) := by decide +kernel
theorem dX12_readClause_196 : decode cX12_readClause 196 = .ok (.dup, 1) := by decide +kernel
theorem dX12_readClause_197 : decode cX12_readClause 197 = .ok (.getfield 239, 3) := by decide +kernel
theorem dX12_readClause_200 : decode cX12_readClause 200 = .ok (.iconst 1, 1) := by decide +kernel
theorem dX12_readClause_201 : decode cX12_readClause 201 = .ok (.iadd, 1) := by decide +kernel
theorem dX12_readClause_202 : decode cX12_readClause 202 = .ok (.putfield 239, 3) := by decide +kernel
theorem dX12_readClause_205 : decode cX12_readClause 205 = .ok (.iload_n 1, 1) := by decide +kernel
theorem dX12_readClause_206 : decode cX12_readClause 206 = .ok (.bipush 103, 2) := by decide +kernel
theorem dX12_readClause_208 : decode cX12_readClause 208 = .ok (.if_icmp .ne 29, 3) := by decide +kernel
theorem dX12_readClause_211 : decode cX12_readClause 211 = .ok (.aload_n 0, 1) := by decide +kernel
theorem dX12_readClause_212 : decode cX12_readClause 212 = .ok (.getfield 52, 3) := by decide +kernel
theorem dX12_readClause_215 : decode cX12_readClause 215 = .ok (.iload_n 3, 1) := by decide +kernel
theorem dX12_readClause_216 : decode cX12_readClause 216 = .ok (.iconst 0, 1) := by decide +kernel
theorem dX12_readClause_217 : decode cX12_readClause 217 = .ok (.iastore, 1) := by decide +kernel
theorem dX12_readClause_218 : decode cX12_readClause 218 = .ok (.aload_n 0, 1) := by decide +kernel
theorem dX12_readClause_219 : decode cX12_readClause 219 = .ok (.getfield 52, 3) := by decide +kernel
theorem dX12_readClause_222 : decode cX12_readClause 222 = .ok (.iload_n 3, 1) := by decide +kernel
theorem dX12_readClause_223 : decode cX12_readClause 223 = .ok (.iconst 1, 1) := by decide +kernel
theorem dX12_readClause_224 : decode cX12_readClause 224 = .ok (.iadd, 1) := by decide +kernel
theorem dX12_readClause_225 : decode cX12_readClause 225 = .ok (.iconst 1, 1) := by decide +kernel
theorem dX12_readClause_226 : decode cX12_readClause 226 = .ok (.iastore, 1) := by decide +kernel
theorem dX12_readClause_227 : decode cX12_readClause 227 = .ok (.aload_n 0, 1) := by decide +kernel
theorem dX12_readClause_228 : decode cX12_readClause 228 = .ok (.dup, 1) := by decide +kernel
theorem dX12_readClause_229 : decode cX12_readClause 229 = .ok (.getfield 242, 3) := by decide +kernel
theorem dX12_readClause_232 : decode cX12_readClause 232 = .ok (.iconst 1, 1) := by decide +kernel
theorem dX12_readClause_233 : decode cX12_readClause 233 = .ok (.iadd, 1) := by decide +kernel
theorem dX12_readClause_234 : decode cX12_readClause 234 = .ok (.putfield 242, 3) := by decide +kernel
theorem dX12_readClause_237 : decode cX12_readClause 237 = .ok (.iconst 0, 1) := by decide +kernel
theorem dX12_readClause_238 : decode cX12_readClause 238 = .ok (.istore 6, 2) := by decide +kernel
theorem dX12_readClause_240 : decode cX12_readClause 240 = .ok (.aload 5, 2) := by decide +kernel
theorem dX12_readClause_242 : decode cX12_readClause 242 = .ok (.aload_n 0, 1) := by decide +kernel
theorem dX12_readClause_243 : decode cX12_readClause 243 = .ok (.invokevirtual 153, 3) := by decide +kernel
theorem dX12_readClause_246 : decode cX12_readClause 246 = .ok (.invokestatic 251, 3) := by decide +kernel
theorem dX12_readClause_249 : decode cX12_readClause 249 = .ok (.istore 7, 2) := by decide +kernel
theorem dX12_readClause_251 : decode cX12_readClause 251 = .ok (.iload 7, 2) := by decide +kernel
theorem dX12_readClause_253 : decode cX12_readClause 253 = .ok (.iconst (-1), 1) := by decide +kernel
theorem dX12_readClause_254 : decode cX12_readClause 254 = .ok (.if_icmp .eq 80, 3) := by decide +kernel
theorem dX12_readClause_257 : decode cX12_readClause 257 = .ok (.aload_n 0, 1) := by decide +kernel
theorem dX12_readClause_258 : decode cX12_readClause 258 = .ok (.getfield 143, 3) := by decide +kernel
theorem dX12_readClause_261 : decode cX12_readClause 261 = .ok (.iconst (-1), 1) := by decide +kernel
theorem dX12_readClause_262 : decode cX12_readClause 262 = .ok (.if_icmp .ne 72, 3) := by decide +kernel
theorem dX12_readClause_265 : decode cX12_readClause 265 = .ok (.iload 6, 2) := by decide +kernel
theorem dX12_readClause_267 : decode cX12_readClause 267 = .ok (.iload 7, 2) := by decide +kernel
theorem dX12_readClause_269 : decode cX12_readClause 269 = .ok (.invokestatic 255, 3) := by decide +kernel
theorem dX12_readClause_272 : decode cX12_readClause 272 = .ok (.ifCond .eq 9, 3) := by decide +kernel
theorem dX12_readClause_275 : decode cX12_readClause 275 = .ok (.aload_n 0, 1) := by decide +kernel
theorem dX12_readClause_276 : decode cX12_readClause 276 = .ok (.invokevirtual 149, 3) := by decide +kernel
theorem dX12_readClause_279 : decode cX12_readClause 279 = .ok (.pop, 1) := by decide +kernel
theorem dX12_readClause_280 : decode cX12_readClause 280 = .ok (.return_, 1) := by decide +kernel
theorem dX12_readClause_281 : decode cX12_readClause 281 = .ok (.iload 6, 2) := by decide +kernel
theorem dX12_readClause_283 : decode cX12_readClause 283 = .ok (.iconst 1, 1) := by decide +kernel
theorem dX12_readClause_284 : decode cX12_readClause 284 = .ok (.iload 7, 2) := by decide +kernel
theorem dX12_readClause_286 : decode cX12_readClause 286 = .ok (.ishl, 1) := by decide +kernel
theorem dX12_readClause_287 : decode cX12_readClause 287 = .ok (.ior, 1) := by decide +kernel
theorem dX12_readClause_288 : decode cX12_readClause 288 = .ok (.istore 6, 2) := by decide +kernel
theorem dX12_readClause_290 : decode cX12_readClause 290 = .ok (.aload_n 0, 1) := by decide +kernel
theorem dX12_readClause_291 : decode cX12_readClause 291 = .ok (.aload 4, 2) := by decide +kernel
theorem dX12_readClause_293 : decode cX12_readClause 293 = .ok (.iload_n 3, 1) := by decide +kernel
theorem dX12_readClause_294 : decode cX12_readClause 294 = .ok (.iload 7, 2) := by decide +kernel
theorem dX12_readClause_296 : decode cX12_readClause 296 = .ok (.iadd, 1) := by decide +kernel
theorem dX12_readClause_297 : decode cX12_readClause 297 = .ok (.iload_n 1, 1) := by decide +kernel
theorem dX12_readClause_298 : decode cX12_readClause 298 = .ok (.iload 7, 2) := by decide +kernel
theorem dX12_readClause_300 : decode cX12_readClause 300 = .ok (.invokestatic 259, 3) := by decide +kernel
theorem dX12_readClause_303 : decode cX12_readClause 303 = .ok (.iload_n 1, 1) := by decide +kernel
theorem dX12_readClause_304 : decode cX12_readClause 304 = .ok (.iload 7, 2) := by decide +kernel
theorem dX12_readClause_306 : decode cX12_readClause 306 = .ok (.invokestatic 263, 3) := by decide +kernel
theorem dX12_readClause_309 : decode cX12_readClause 309 = .ok (.invokevirtual 266, 3) := by decide +kernel
theorem dX12_readClause_312 : decode cX12_readClause 312 = .ok (.aload_n 0, 1) := by decide +kernel
theorem dX12_readClause_313 : decode cX12_readClause 313 = .ok (.getfield 143, 3) := by decide +kernel
theorem dX12_readClause_316 : decode cX12_readClause 316 = .ok (.iconst (-1), 1) := by decide +kernel
theorem dX12_readClause_317 : decode cX12_readClause 317 = .ok (.if_icmp .ne (-66), 3) := by decide +kernel
theorem dX12_readClause_320 : decode cX12_readClause 320 = .ok (.aload 5, 2) := by decide +kernel
theorem dX12_readClause_322 : decode cX12_readClause 322 = .ok (.aload_n 0, 1) := by decide +kernel
theorem dX12_readClause_323 : decode cX12_readClause 323 = .ok (.invokevirtual 153, 3) := by decide +kernel
theorem dX12_readClause_326 : decode cX12_readClause 326 = .ok (.invokestatic 251, 3) := by decide +kernel
theorem dX12_readClause_329 : decode cX12_readClause 329 = .ok (.istore 7, 2) := by decide +kernel
theorem dX12_readClause_331 : decode cX12_readClause 331 = .ok (.goto (-80), 3) := by decide +kernel
theorem dX12_readClause_334 : decode cX12_readClause 334 = .ok (.return_, 1) := by decide +kernel
theorem dX12_readKerb_0 : decode cX12_readKerb 0 = .ok (.aload_n 0, 1) := by decide +kernel
theorem dX12_readKerb_1 : decode cX12_readKerb 1 = .ok (.aload_n 0, 1) := by decide +kernel
theorem dX12_readKerb_2 : decode cX12_readKerb 2 = .ok (.getfield 9, 3) := by decide +kernel
theorem dX12_readKerb_5 : decode cX12_readKerb 5 = .ok (.iconst 0, 1) := by decide +kernel
theorem dX12_readKerb_6 : decode cX12_readKerb 6 = .ok (.aload_n 0, 1) := by decide +kernel
theorem dX12_readKerb_7 : decode cX12_readKerb 7 = .ok (.getfield 124, 3) := by decide +kernel
theorem dX12_readKerb_10 : decode cX12_readKerb 10 = .ok (.invokevirtual 222, 3) := by decide +kernel
theorem dX12_readKerb_13 : decode cX12_readKerb 13 = .ok (.aload_n 0, 1) := by decide +kernel
theorem dX12_readKerb_14 : decode cX12_readKerb 14 = .ok (.getfield 40, 3) := by decide +kernel
theorem dX12_readKerb_17 : decode cX12_readKerb 17 = .ok (.iconst 0, 1) := by decide +kernel
theorem dX12_readKerb_18 : decode cX12_readKerb 18 = .ok (.bipush 12, 2) := by decide +kernel
theorem dX12_readKerb_20 : decode cX12_readKerb 20 = .ok (.iastore, 1) := by decide +kernel
theorem dX12_readKerb_21 : decode cX12_readKerb 21 = .ok (.aload_n 0, 1) := by decide +kernel
theorem dX12_readKerb_22 : decode cX12_readKerb 22 = .ok (.getfield 40, 3) := by decide +kernel
theorem dX12_readKerb_25 : decode cX12_readKerb 25 = .ok (.iconst 1, 1) := by decide +kernel
theorem dX12_readKerb_26 : decode cX12_readKerb 26 = .ok (.iconst 0, 1) := by decide +kernel
theorem dX12_readKerb_27 : decode cX12_readKerb 27 = .ok (.iastore, 1) := by decide +kernel
theorem dX12_readKerb_28 : decode cX12_readKerb 28 = .ok (.aload_n 0, 1) := by decide +kernel
theorem dX12_readKerb_29 : decode cX12_readKerb 29 = .ok (.getfield 40, 3) := by decide +kernel
theorem dX12_readKerb_32 : decode cX12_readKerb 32 = .ok (.iconst 2, 1) := by decide +kernel
theorem dX12_readKerb_33 : decode cX12_readKerb 33 = .ok (.bipush 50, 2) := by decide +kernel
theorem dX12_readKerb_35 : decode cX12_readKerb 35 = .ok (.iastore, 1) := by decide +kernel
theorem dX12_readKerb_36 : decode cX12_readKerb 36 = .ok (.aload_n 0, 1) := by decide +kernel
theorem dX12_readKerb_37 : decode cX12_readKerb 37 = .ok (.iconst 0, 1) := by decide +kernel
theorem dX12_readKerb_38 : decode cX12_readKerb 38 = .ok (.putfield 239, 3) := by decide +kernel
theorem dX12_readKerb_41 : decode cX12_readKerb 41 = .ok (.aload_n 0, 1) := by decide +kernel
theorem dX12_readKerb_42 : decode cX12_readKerb 42 = .ok (.iconst 0, 1) := by decide +kernel
theorem dX12_readKerb_43 : decode cX12_readKerb 43 = .ok (.putfield 242, 3) := by decide +kernel
theorem dX12_readKerb_46 : decode cX12_readKerb 46 = .ok (.aload_n 0, 1) := by decide +kernel
theorem dX12_readKerb_47 : decode cX12_readKerb 47 = .ok (.iconst 0, 1) := by decide +kernel
theorem dX12_readKerb_48 : decode cX12_readKerb 48 = .ok (.putfield 236, 3) := by decide +kernel
theorem dX12_readKerb_51 : decode cX12_readKerb 51 = .ok (.iconst 1, 1) := by decide +kernel
theorem dX12_readKerb_52 : decode cX12_readKerb 52 = .ok (.istore_n 1, 1) := by decide +kernel
theorem dX12_readKerb_53 : decode cX12_readKerb 53 = .ok (.iload_n 1, 1) := by decide +kernel
theorem dX12_readKerb_54 : decode cX12_readKerb 54 = .ok (.ifCond .eq 55, 3) := by decide +kernel
theorem dX12_readKerb_57 : decode cX12_readKerb 57 = .ok (.aload_n 0, 1) := by decide +kernel
theorem dX12_readKerb_58 : decode cX12_readKerb 58 = .ok (.getfield 143, 3) := by decide +kernel
theorem dX12_readKerb_61 : decode cX12_readKerb 61 = .ok (.iconst (-1), 1) := by decide +kernel
theorem dX12_readKerb_62 : decode cX12_readKerb 62 = .ok (.if_icmp .ne 47, 3) := by decide +kernel
theorem dX12_readKerb_65 : decode cX12_readKerb 65 = .ok (.aload_n 0, 1) := by decide +kernel
theorem dX12_readKerb_66 : decode cX12_readKerb 66 = .ok (.invokevirtual 270, 3) := by decide +kernel
theorem dX12_readKerb_69 : decode cX12_readKerb 69 = .ok (.aload_n 0, 1) := by decide +kernel
theorem dX12_readKerb_70 : decode cX12_readKerb 70 = .ok (.getfield 143, 3) := by decide +kernel
theorem dX12_readKerb_73 : decode cX12_readKerb 73 = .ok (.iconst (-1), 1) := by decide +kernel
theorem dX12_readKerb_74 : decode cX12_readKerb 74 = .ok (.if_icmp .ne 16, 3) := by decide +kernel
theorem dX12_readKerb_77 : decode cX12_readKerb 77 = .ok (.aload_n 0, 1) := by decide +kernel
theorem dX12_readKerb_78 : decode cX12_readKerb 78 = .ok (.invokevirtual 153, 3) := by decide +kernel
theorem dX12_readKerb_81 : decode cX12_readKerb 81 = .ok (.bipush 59, 2) := by decide +kernel
theorem dX12_readKerb_83 : decode cX12_readKerb 83 = .ok (.if_icmp .ne 7, 3) := by decide +kernel
theorem dX12_readKerb_86 : decode cX12_readKerb 86 = .ok (.iconst 1, 1) := by decide +kernel
theorem dX12_readKerb_87 : decode cX12_readKerb 87 = .ok (.goto 4, 3) := by decide +kernel
theorem dX12_readKerb_90 : decode cX12_readKerb 90 = .ok (.iconst 0, 1) := by decide +kernel
theorem dX12_readKerb_91 : decode cX12_readKerb 91 = .ok (.istore_n 1, 1) := by decide +kernel
theorem dX12_readKerb_92 : decode cX12_readKerb 92 = .ok (.iload_n 1, 1) := by decide +kernel
theorem dX12_readKerb_93 : decode cX12_readKerb 93 = .ok (.ifCond .eq (-40), 3) := by decide +kernel
theorem dX12_readKerb_96 : decode cX12_readKerb 96 = .ok (.aload_n 0, 1) := by decide +kernel
theorem dX12_readKerb_97 : decode cX12_readKerb 97 = .ok (.dup, 1) := by decide +kernel
theorem dX12_readKerb_98 : decode cX12_readKerb 98 = .ok (.getfield 134, 3) := by decide +kernel
theorem dX12_readKerb_101 : decode cX12_readKerb 101 = .ok (.iconst 1, 1) := by decide +kernel
theorem dX12_readKerb_102 : decode cX12_readKerb 102 = .ok (.iadd, 1) := by decide +kernel
theorem dX12_readKerb_103 : decode cX12_readKerb 103 = .ok (.putfield 134, 3) := by decide +kernel
theorem dX12_readKerb_106 : decode cX12_readKerb 106 = .ok (.goto (-53), 3) := by decide +kernel
theorem dX12_readKerb_109 : decode cX12_readKerb 109 = .ok (.aload_n 0, 1) := by decide +kernel
theorem dX12_readKerb_110 : decode cX12_readKerb 110 = .ok (.getfield 143, 3) := by decide +kernel
theorem dX12_readKerb_113 : decode cX12_readKerb 113 = .ok (.iconst (-1), 1) := by decide +kernel
theorem dX12_readKerb_114 : decode cX12_readKerb 114 = .ok (.if_icmp .ne 23, 3) := by decide +kernel
theorem dX12_readKerb_117 : decode cX12_readKerb 117 = .ok (.aload_n 0, 1) := by decide +kernel
theorem dX12_readKerb_118 : decode cX12_readKerb 118 = .ok (.invokevirtual 153, 3) := by decide +kernel
theorem dX12_readKerb_121 : decode cX12_readKerb 121 = .ok (.iconst (-1), 1) := by decide +kernel
theorem dX12_readKerb_122 : decode cX12_readKerb 122 = .ok (.if_icmp .ne 10, 3) := by decide +kernel
theorem dX12_readKerb_125 : decode cX12_readKerb 125 = .ok (.aload_n 0, 1) := by decide +kernel
theorem dX12_readKerb_126 : decode cX12_readKerb 126 = .ok (.getfield 239, 3) := by decide +kernel
theorem dX12_readKerb_129 : decode cX12_readKerb 129 = .ok (.ifCond .ne 8, 3) := by decide +kernel
theorem dX12_readKerb_132 : decode cX12_readKerb 132 = .ok (.aload_n 0, 1) := by decide +kernel
theorem dX12_readKerb_133 : decode cX12_readKerb 133 = .ok (.invokevirtual 149, 3) := by decide +kernel
theorem dX12_readKerb_136 : decode cX12_readKerb 136 = .ok (.pop, 1) := by decide +kernel
theorem dX12_readKerb_137 : decode cX12_readKerb 137 = .ok (.return_, 1) := by decide +kernel
theorem dX12_fault_0 : decode cX12_fault 0 = .ok (.aload_n 0, 1) := by decide +kernel
theorem dX12_fault_1 : decode cX12_fault 1 = .ok (.iconst 0, 1) := by decide +kernel
theorem dX12_fault_2 : decode cX12_fault 2 = .ok (.putfield 111, 3) := by decide +kernel
theorem dX12_fault_5 : decode cX12_fault 5 = .ok (.iload_n 1, 1) := by decide +kernel
theorem dX12_fault_6 : decode cX12_fault 6 = .ok (.i2l, 1) := by decide +kernel
theorem dX12_fault_7 : decode cX12_fault 7 = .ok (.lconst 0, 1) := by decide +kernel
theorem dX12_fault_8 : decode cX12_fault 8 = .ok (.lconst 1, 1) := by decide +kernel
theorem dX12_fault_9 : decode cX12_fault 9 = .ok (.invokestatic 232, 3) := by decide +kernel
theorem dX12_fault_12 : decode cX12_fault 12 = .ok (.ifCond .ne 6, 3) := by decide +kernel
theorem dX12_fault_15 : decode cX12_fault 15 = .ok (.bipush (-2), 2) := by decide +kernel
theorem dX12_fault_17 : decode cX12_fault 17 = .ok (.ireturn, 1) := by decide +kernel
theorem dX12_fault_18 : decode cX12_fault 18 = .ok (.iload_n 1, 1) := by decide +kernel
theorem dX12_fault_19 : decode cX12_fault 19 = .ok (.ifCond .ne 10, 3) := by decide +kernel
theorem dX12_fault_22 : decode cX12_fault 22 = .ok (.aload_n 0, 1) := by decide +kernel
theorem dX12_fault_23 : decode cX12_fault 23 = .ok (.invokevirtual 273, 3) := by decide +kernel
theorem dX12_fault_26 : decode cX12_fault 26 = .ok (.goto 16, 3) := by decide +kernel
theorem dX12_fault_29 : decode cX12_fault 29 = .ok (.aload_n 0, 1) := by decide +kernel
theorem dX12_fault_30 : decode cX12_fault 30 = .ok (.aload_n 0, 1) := by decide +kernel
theorem dX12_fault_31 : decode cX12_fault 31 = .ok (.getfield 9, 3) := by decide +kernel
theorem dX12_fault_34 : decode cX12_fault 34 = .ok (.iconst 0, 1) := by decide +kernel
theorem dX12_fault_35 : decode cX12_fault 35 = .ok (.aload_n 0, 1) := by decide +kernel
theorem dX12_fault_36 : decode cX12_fault 36 = .ok (.getfield 124, 3) := by decide +kernel
theorem dX12_fault_39 : decode cX12_fault 39 = .ok (.invokevirtual 276, 3) := by decide +kernel
theorem dX12_fault_42 : decode cX12_fault 42 = .ok (.aload_n 0, 1) := by decide +kernel
theorem dX12_fault_43 : decode cX12_fault 43 = .ok (.getfield 143, 3) := by decide +kernel
theorem dX12_fault_46 : decode cX12_fault 46 = .ok (.ireturn, 1) := by decide +kernel
theorem dX12_text_0 : decode cX12_text 0 = .ok (.aload_n 0, 1) := by decide +kernel
theorem dX12_text_1 : decode cX12_text 1 = .ok (.iconst 0, 1) := by decide +kernel
theorem dX12_text_2 : decode cX12_text 2 = .ok (.putfield 111, 3) := by decide +kernel
theorem dX12_text_5 : decode cX12_text 5 = .ok (.iload_n 1, 1) := by decide +kernel
theorem dX12_text_6 : decode cX12_text 6 = .ok (.i2l, 1) := by decide +kernel
theorem dX12_text_7 : decode cX12_text 7 = .ok (.lconst 0, 1) := by decide +kernel
theorem dX12_text_8 : decode cX12_text 8 = .ok (.lconst 1, 1) := by decide +kernel
theorem dX12_text_9 : decode cX12_text 9 = .ok (.invokestatic 232, 3) := by decide +kernel
theorem dX12_text_12 : decode cX12_text 12 = .ok (.ifCond .eq 25, 3) := by decide +kernel
theorem dX12_text_15 : decode cX12_text 15 = .ok (.iload_n 1, 1) := by decide +kernel
theorem dX12_text_16 : decode cX12_text 16 = .ok (.iconst 1, 1) := by decide +kernel
theorem dX12_text_17 : decode cX12_text 17 = .ok (.if_icmp .ne 11, 3) := by decide +kernel
theorem dX12_text_20 : decode cX12_text 20 = .ok (.aload_n 0, 1) := by decide +kernel
theorem dX12_text_21 : decode cX12_text 21 = .ok (.getfield 279, 3) := by decide +kernel
theorem dX12_text_24 : decode cX12_text 24 = .ok (.iconst 4, 1) := by decide +kernel
theorem dX12_text_25 : decode cX12_text 25 = .ok (.if_icmp .eq 12, 3) := by decide +kernel
theorem dX12_text_28 : decode cX12_text 28 = .ok (.aload_n 0, 1) := by decide +kernel
theorem dX12_text_29 : decode cX12_text 29 = .ok (.iload_n 1, 1) := by decide +kernel
theorem dX12_text_30 : decode cX12_text 30 = .ok (.invokevirtual 282, 3) := by decide +kernel
theorem dX12_text_33 : decode cX12_text 33 = .ok (.iconst (-1), 1) := by decide +kernel
theorem dX12_text_34 : decode cX12_text 34 = .ok (.if_icmp .eq 5, 3) := by decide +kernel
theorem dX12_text_37 : decode cX12_text 37 = .ok (.iconst (-1), 1) := by decide +kernel
theorem dX12_text_38 : decode cX12_text 38 = .ok (.ireturn, 1) := by decide +kernel
theorem dX12_text_39 : decode cX12_text 39 = .ok (.aload_n 0, 1) := by decide +kernel
theorem dX12_text_40 : decode cX12_text 40 = .ok (.getfield 124, 3) := by decide +kernel
theorem dX12_text_43 : decode cX12_text 43 = .ok (.istore_n 2, 1) := by decide +kernel
theorem dX12_text_44 : decode cX12_text 44 = .ok (.aload_n 0, 1) := by decide +kernel
theorem dX12_text_45 : decode cX12_text 45 = .ok (.iconst 0, 1) := by decide +kernel
theorem dX12_text_46 : decode cX12_text 46 = .ok (.putfield 124, 3) := by decide +kernel
theorem dX12_text_49 : decode cX12_text 49 = .ok (.iload_n 1, 1) := by decide +kernel
theorem dX12_text_50 : decode cX12_text 50 = .ok (.iconst 1, 1) := by decide +kernel
theorem dX12_text_51 : decode cX12_text 51 = .ok (.if_icmp .ne 64, 3) := by decide +kernel
theorem dX12_text_54 : decode cX12_text 54 = .ok (.iconst 0, 1) := by decide +kernel
theorem dX12_text_55 : decode cX12_text 55 = .ok (.istore_n 3, 1) := by decide +kernel
theorem dX12_text_56 : decode cX12_text 56 = .ok (.iload_n 3, 1) := by decide +kernel
theorem dX12_text_57 : decode cX12_text 57 = .ok (.iload_n 2, 1) := by decide +kernel
theorem dX12_text_58 : decode cX12_text 58 = .ok (.if_icmp .ge 30, 3) := by decide +kernel
theorem dX12_text_61 : decode cX12_text 61 = .ok (.aload_n 0, 1) := by decide +kernel
theorem dX12_text_62 : decode cX12_text 62 = .ok (.getfield 13, 3) := by decide +kernel
theorem dX12_text_65 : decode cX12_text 65 = .ok (.sipush 160, 3) := by decide +kernel
theorem dX12_text_68 : decode cX12_text 68 = .ok (.aload_n 0, 1) := by decide +kernel
theorem dX12_text_69 : decode cX12_text 69 = .ok (.getfield 279, 3) := by decide +kernel
theorem dX12_text_72 : decode cX12_text 72 = .ok (.imul, 1) := by decide +kernel
theorem dX12_text_73 : decode cX12_text 73 = .ok (.iload_n 3, 1) := by decide +kernel
theorem dX12_text_74 : decode cX12_text 74 = .ok (.iadd, 1) := by decide +kernel
theorem dX12_text_75 : decode cX12_text 75 = .ok (.aload_n 0, 1) := by decide +kernel
theorem dX12_text_76 : decode cX12_text 76 = .ok (.getfield 9, 3) := by decide +kernel
theorem dX12_text_79 : decode cX12_text 79 = .ok (.iload_n 3, 1) := by decide +kernel
theorem dX12_text_80 : decode cX12_text 80 = .ok (.baload, 1) := by decide +kernel
theorem dX12_text_81 : decode cX12_text 81 = .ok (.bastore, 1) := by decide +kernel
theorem dX12_text_82 : decode cX12_text 82 = .ok (.iinc 3 1, 3) := by decide +kernel
theorem dX12_text_85 : decode cX12_text 85 = .ok (.goto (-29), 3) := by decide +kernel
theorem dX12_text_88 : decode cX12_text 88 = .ok (.aload_n 0, 1) := by decide +kernel
theorem dX12_text_89 : decode cX12_text 89 = .ok (.getfield 16, 3) := by decide +kernel
theorem dX12_text_92 : decode cX12_text 92 = .ok (.aload_n 0, 1) := by decide +kernel
theorem dX12_text_93 : decode cX12_text 93 = .ok (.getfield 279, 3) := by decide +kernel
theorem dX12_text_96 : decode cX12_text 96 = .ok (.iload_n 2, 1) := by decide +kernel
theorem dX12_text_97 : decode cX12_text 97 = .ok (.iastore, 1) := by decide +kernel
theorem dX12_text_98 : decode cX12_text 98 = .ok (.aload_n 0, 1) := by decide +kernel
theorem dX12_text_99 : decode cX12_text 99 = .ok (.dup, 1) := by decide +kernel
theorem dX12_text_100 : decode cX12_text 100 = .ok (.getfield 279, 3) := by decide +kernel
theorem dX12_text_103 : decode cX12_text 103 = .ok (.iconst 1, 1) := by decide +kernel
theorem dX12_text_104 : decode cX12_text 104 = .ok (.iadd, 1) := by decide +kernel
theorem dX12_text_105 : decode cX12_text 105 = .ok (.putfield 279, 3) := by decide +kernel
theorem dX12_text_108 : decode cX12_text 108 = .ok (.aload_n 0, 1) := by decide +kernel
theorem dX12_text_109 : decode cX12_text 109 = .ok (.getfield 279, 3) := by decide +kernel
theorem dX12_text_112 : decode cX12_text 112 = .ok (.iconst 1, 1) := by decide +kernel
theorem dX12_text_113 : decode cX12_text 113 = .ok (.isub, 1) := by decide +kernel
theorem dX12_text_114 : decode cX12_text 114 = .ok (.ireturn, 1) := by decide +kernel
theorem dX12_text_115 : decode cX12_text 115 = .ok (.aload_n 0, 1) := by decide +kernel
theorem dX12_text_116 : decode cX12_text 116 = .ok (.aload_n 0, 1) := by decide +kernel
theorem dX12_text_117 : decode cX12_text 117 = .ok (.getfield 239, 3) := by decide +kernel
theorem dX12_text_120 : decode cX12_text 120 = .ok (.putfield 284, 3) := by decide +kernel
theorem dX12_text_123 : decode cX12_text 123 = .ok (.aload_n 0, 1) := by decide +kernel
theorem dX12_text_124 : decode cX12_text 124 = .ok (.aload_n 0, 1) := by decide +kernel
theorem dX12_text_125 : decode cX12_text 125 = .ok (.getfield 242, 3) := by decide +kernel
theorem dX12_text_128 : decode cX12_text 128 = .ok (.putfield 287, 3) := by decide +kernel
theorem dX12_text_131 : decode cX12_text 131 = .ok (.iconst 0, 1) := by decide +kernel
theorem dX12_text_132 : decode cX12_text 132 = .ok (.istore_n 3, 1) := by decide +kernel
theorem dX12_text_133 : decode cX12_text 133 = .ok (.iload_n 3, 1) := by decide +kernel
theorem dX12_text_134 : decode cX12_text 134 = .ok (.iconst 3, 1) := by decide +kernel
theorem dX12_text_135 : decode cX12_text 135 = .ok (.if_icmp .ge 21, 3) := by decide +kernel
theorem dX12_text_138 : decode cX12_text 138 = .ok (.aload_n 0, 1) := by decide +kernel
theorem dX12_text_139 : decode cX12_text 139 = .ok (.getfield 37, 3) := by decide +kernel
theorem dX12_text_142 : decode cX12_text 142 = .ok (.iload_n 3, 1) := by decide +kernel
theorem dX12_text_143 : decode cX12_text 143 = .ok (.aload_n 0, 1) := by decide +kernel
theorem dX12_text_144 : decode cX12_text 144 = .ok (.getfield 40, 3) := by decide +kernel
theorem dX12_text_147 : decode cX12_text 147 = .ok (.iload_n 3, 1) := by decide +kernel
theorem dX12_text_148 : decode cX12_text 148 = .ok (.iaload, 1) := by decide +kernel
theorem dX12_text_149 : decode cX12_text 149 = .ok (.iastore, 1) := by decide +kernel
theorem dX12_text_150 : decode cX12_text 150 = .ok (.iinc 3 1, 3) := by decide +kernel
theorem dX12_text_153 : decode cX12_text 153 = .ok (.goto (-20), 3) := by decide +kernel
theorem dX12_text_156 : decode cX12_text 156 = .ok (.iconst 0, 1) := by decide +kernel
theorem dX12_text_157 : decode cX12_text 157 = .ok (.istore_n 3, 1) := by decide +kernel
theorem dX12_text_158 : decode cX12_text 158 = .ok (.iload_n 3, 1) := by decide +kernel
theorem dX12_text_159 : decode cX12_text 159 = .ok (.bipush 8, 2) := by decide +kernel
theorem dX12_text_161 : decode cX12_text 161 = .ok (.if_icmp .ge 21, 3) := by decide +kernel
theorem dX12_text_164 : decode cX12_text 164 = .ok (.aload_n 0, 1) := by decide +kernel
theorem dX12_text_165 : decode cX12_text 165 = .ok (.getfield 43, 3) := by decide +kernel
theorem dX12_text_168 : decode cX12_text 168 = .ok (.iload_n 3, 1) := by decide +kernel
theorem dX12_text_169 : decode cX12_text 169 = .ok (.aload_n 0, 1) := by decide +kernel
theorem dX12_text_170 : decode cX12_text 170 = .ok (.getfield 46, 3) := by decide +kernel
theorem dX12_text_173 : decode cX12_text 173 = .ok (.iload_n 3, 1) := by decide +kernel
theorem dX12_text_174 : decode cX12_text 174 = .ok (.iaload, 1) := by decide +kernel
theorem dX12_text_175 : decode cX12_text 175 = .ok (.iastore, 1) := by decide +kernel
theorem dX12_text_176 : decode cX12_text 176 = .ok (.iinc 3 1, 3) := by decide +kernel
theorem dX12_text_179 : decode cX12_text 179 = .ok (.goto (-21), 3) := by decide +kernel
theorem dX12_text_182 : decode cX12_text 182 = .ok (.iconst 0, 1) := by decide +kernel
theorem dX12_text_183 : decode cX12_text 183 = .ok (.istore_n 3, 1) := by decide +kernel
theorem dX12_text_184 : decode cX12_text 184 = .ok (.iload_n 3, 1) := by decide +kernel
theorem dX12_text_185 : decode cX12_text 185 = .ok (.bipush 8, 2) := by decide +kernel
theorem dX12_text_187 : decode cX12_text 187 = .ok (.if_icmp .ge 21, 3) := by decide +kernel
theorem dX12_text_190 : decode cX12_text 190 = .ok (.aload_n 0, 1) := by decide +kernel
theorem dX12_text_191 : decode cX12_text 191 = .ok (.getfield 49, 3) := by decide +kernel
theorem dX12_text_194 : decode cX12_text 194 = .ok (.iload_n 3, 1) := by decide +kernel
theorem dX12_text_195 : decode cX12_text 195 = .ok (.aload_n 0, 1) := by decide +kernel
theorem dX12_text_196 : decode cX12_text 196 = .ok (.getfield 52, 3) := by decide +kernel
theorem dX12_text_199 : decode cX12_text 199 = .ok (.iload_n 3, 1) := by decide +kernel
theorem dX12_text_200 : decode cX12_text 200 = .ok (.iaload, 1) := by decide +kernel
theorem dX12_text_201 : decode cX12_text 201 = .ok (.iastore, 1) := by decide +kernel
theorem dX12_text_202 : decode cX12_text 202 = .ok (.iinc 3 1, 3) := by decide +kernel
theorem dX12_text_205 : decode cX12_text 205 = .ok (.goto (-21), 3) := by decide +kernel
theorem dX12_text_208 : decode cX12_text 208 = .ok (.aload_n 0, 1) := by decide +kernel
theorem dX12_text_209 : decode cX12_text 209 = .ok (.aload_n 0, 1) := by decide +kernel
theorem dX12_text_210 : decode cX12_text 210 = .ok (.getfield 37, 3) := by decide +kernel
theorem dX12_text_213 : decode cX12_text 213 = .ok (.iconst 0, 1) := by decide +kernel
theorem dX12_text_214 : decode cX12_text 214 = .ok (.iaload, 1) := by decide +kernel
theorem dX12_text_215 : decode cX12_text 215 = .ok (.putfield 290, 3) := by decide +kernel
theorem dX12_text_218 : decode cX12_text 218 = .ok (.iconst 0, 1) := by decide +kernel
theorem dX12_text_219 : decode cX12_text 219 = .ok (.istore_n 3, 1) := by decide +kernel
theorem dX12_text_220 : decode cX12_text 220 = .ok (.iload_n 3, 1) := by decide +kernel
theorem dX12_text_221 : decode cX12_text 221 = .ok (.bipush 20, 2) := by decide +kernel
theorem dX12_text_223 : decode cX12_text 223 = .ok (.if_icmp .ge 36, 3) := by decide +kernel
theorem dX12_text_226 : decode cX12_text 226 = .ok (.aload_n 0, 1) := by decide +kernel
theorem dX12_text_227 : decode cX12_text 227 = .ok (.getfield 55, 3) := by decide +kernel
theorem dX12_text_230 : decode cX12_text 230 = .ok (.iload_n 3, 1) := by decide +kernel
theorem dX12_text_231 : decode cX12_text 231 = .ok (.aload_n 0, 1) := by decide +kernel
theorem dX12_text_232 : decode cX12_text 232 = .ok (.iload_n 3, 1) := by decide +kernel
theorem dX12_text_233 : decode cX12_text 233 = .ok (.invokevirtual 293, 3) := by decide +kernel
theorem dX12_text_236 : decode cX12_text 236 = .ok (.ifCond .eq 8, 3) := by decide +kernel
theorem dX12_text_239 : decode cX12_text 239 = .ok (.bipush (-2), 2) := by decide +kernel
theorem dX12_text_241 : decode cX12_text 241 = .ok (.goto 4, 3) := by decide +kernel
theorem dX12_text_244 : decode cX12_text 244 = .ok (.iconst (-1), 1) := by decide +kernel
theorem dX12_text_245 : decode cX12_text 245 = .ok (.iastore, 1) := by decide +kernel
theorem dX12_text_246 : decode cX12_text 246 = .ok (.aload_n 0, 1) := by decide +kernel
theorem dX12_text_247 : decode cX12_text 247 = .ok (.getfield 58, 3) := by decide +kernel
theorem dX12_text_250 : decode cX12_text 250 = .ok (.iload_n 3, 1) := by decide +kernel
theorem dX12_text_251 : decode cX12_text 251 = .ok (.iconst (-1), 1) := by decide +kernel
theorem dX12_text_252 : decode cX12_text 252 = .ok (.iastore, 1) := by decide +kernel
theorem dX12_text_253 : decode cX12_text 253 = .ok (.iinc 3 1, 3) := by decide +kernel
theorem dX12_text_256 : decode cX12_text 256 = .ok (.goto (-36), 3) := by decide +kernel
theorem dX12_text_259 : decode cX12_text 259 = .ok (.aload_n 0, 1) := by decide +kernel
theorem dX12_text_260 : decode cX12_text 260 = .ok (.iconst (-1), 1) := by decide +kernel
theorem dX12_text_261 : decode cX12_text 261 = .ok (.putfield 64, 3) := by decide +kernel
theorem dX12_text_264 : decode cX12_text 264 = .ok (.aload_n 0, 1) := by decide +kernel
theorem dX12_text_265 : decode cX12_text 265 = .ok (.iconst 0, 1) := by decide +kernel
theorem dX12_text_266 : decode cX12_text 266 = .ok (.putfield 296, 3) := by decide +kernel
theorem dX12_text_269 : decode cX12_text 269 = .ok (.iconst 0, 1) := by decide +kernel
theorem dX12_text_270 : decode cX12_text 270 = .ok (.istore_n 3, 1) := by decide +kernel
theorem dX12_text_271 : decode cX12_text 271 = .ok (.iload_n 3, 1) := by decide +kernel
theorem dX12_text_272 : decode cX12_text 272 = .ok (.iconst 3, 1) := by decide +kernel
theorem dX12_text_273 : decode cX12_text 273 = .ok (.if_icmp .ge 16, 3) := by decide +kernel
theorem dX12_text_276 : decode cX12_text 276 = .ok (.aload_n 0, 1) := by decide +kernel
theorem dX12_text_277 : decode cX12_text 277 = .ok (.getfield 61, 3) := by decide +kernel
theorem dX12_text_280 : decode cX12_text 280 = .ok (.iload_n 3, 1) := by decide +kernel
theorem dX12_text_281 : decode cX12_text 281 = .ok (.iconst 0, 1) := by decide +kernel
theorem dX12_text_282 : decode cX12_text 282 = .ok (.iastore, 1) := by decide +kernel
theorem dX12_text_283 : decode cX12_text 283 = .ok (.iinc 3 1, 3) := by decide +kernel
theorem dX12_text_286 : decode cX12_text 286 = .ok (.goto (-15), 3) := by decide +kernel
theorem dX12_text_289 : decode cX12_text 289 = .ok (.aload_n 0, 1) := by decide +kernel
theorem dX12_text_290 : decode cX12_text 290 = .ok (.iconst 0, 1) := by decide +kernel
theorem dX12_text_291 : decode cX12_text 291 = .ok (.putfield 299, 3) := by decide +kernel
theorem dX12_text_294 : decode cX12_text 294 = .ok (.aload_n 0, 1) := by decide +kernel
theorem dX12_text_295 : decode cX12_text 295 = .ok (.getfield 284, 3) := by decide +kernel
theorem dX12_text_298 : decode cX12_text 298 = .ok (.ireturn, 1) := by decide +kernel
theorem dX12_isGated_0 : decode cX12_isGated 0 = .ok (.iconst 0, 1) := by decide +kernel
theorem dX12_isGated_1 : decode cX12_isGated 1 = .ok (.istore_n 2, 1) := by decide +kernel
theorem dX12_isGated_2 : decode cX12_isGated 2 = .ok (.iload_n 2, 1) := by decide +kernel
theorem dX12_isGated_3 : decode cX12_isGated 3 = .ok (.aload_n 0, 1) := by decide +kernel
theorem dX12_isGated_4 : decode cX12_isGated 4 = .ok (.getfield 287, 3) := by decide +kernel
theorem dX12_isGated_7 : decode cX12_isGated 7 = .ok (.if_icmp .ge 50, 3) := by decide +kernel
theorem dX12_isGated_10 : decode cX12_isGated 10 = .ok (.iload_n 1, 1) := by decide +kernel
theorem dX12_isGated_11 : decode cX12_isGated 11 = .ok (.i2l, 1) := by decide +kernel
theorem dX12_isGated_12 : decode cX12_isGated 12 = .ok (.aload_n 0, 1) := by decide +kernel
theorem dX12_isGated_13 : decode cX12_isGated 13 = .ok (.getfield 49, 3) := by decide +kernel
theorem dX12_isGated_16 : decode cX12_isGated 16 = .ok (.iconst 2, 1) := by decide +kernel
theorem dX12_isGated_17 : decode cX12_isGated 17 = .ok (.iload_n 2, 1) := by decide +kernel
theorem dX12_isGated_18 : decode cX12_isGated 18 = .ok (.imul, 1) := by decide +kernel
theorem dX12_isGated_19 : decode cX12_isGated 19 = .ok (.iaload, 1) := by decide +kernel
theorem dX12_isGated_20 : decode cX12_isGated 20 = .ok (.i2l, 1) := by decide +kernel
theorem dX12_isGated_21 : decode cX12_isGated 21 = .ok (.aload_n 0, 1) := by decide +kernel
theorem dX12_isGated_22 : decode cX12_isGated 22 = .ok (.getfield 49, 3) := by decide +kernel
theorem dX12_isGated_25 : decode cX12_isGated 25 = .ok (.iconst 2, 1) := by decide +kernel
theorem dX12_isGated_26 : decode cX12_isGated 26 = .ok (.iload_n 2, 1) := by decide +kernel
theorem dX12_isGated_27 : decode cX12_isGated 27 = .ok (.imul, 1) := by decide +kernel
theorem dX12_isGated_28 : decode cX12_isGated 28 = .ok (.iaload, 1) := by decide +kernel
theorem dX12_isGated_29 : decode cX12_isGated 29 = .ok (.aload_n 0, 1) := by decide +kernel
theorem dX12_isGated_30 : decode cX12_isGated 30 = .ok (.getfield 49, 3) := by decide +kernel
theorem dX12_isGated_33 : decode cX12_isGated 33 = .ok (.iconst 2, 1) := by decide +kernel
theorem dX12_isGated_34 : decode cX12_isGated 34 = .ok (.iload_n 2, 1) := by decide +kernel
theorem dX12_isGated_35 : decode cX12_isGated 35 = .ok (.imul, 1) := by decide +kernel
theorem dX12_isGated_36 : decode cX12_isGated 36 = .ok (.iconst 1, 1) := by decide +kernel
theorem dX12_isGated_37 : decode cX12_isGated 37 = .ok (.iadd, 1) := by decide +kernel
theorem dX12_isGated_38 : decode cX12_isGated 38 = .ok (.iaload, 1) := by decide +kernel
theorem dX12_isGated_39 : decode cX12_isGated 39 = .ok (.iadd, 1) := by decide +kernel
theorem dX12_isGated_40 : decode cX12_isGated 40 = .ok (.iconst 1, 1) := by decide +kernel
theorem dX12_isGated_41 : decode cX12_isGated 41 = .ok (.isub, 1) := by decide +kernel
theorem dX12_isGated_42 : decode cX12_isGated 42 = .ok (.i2l, 1) := by decide +kernel
theorem dX12_isGated_43 : decode cX12_isGated 43 = .ok (.invokestatic 232, 3) := by decide +kernel
theorem dX12_isGated_46 : decode cX12_isGated 46 = .ok (.ifCond .eq 5, 3) := by decide +kernel
theorem dX12_isGated_49 : decode cX12_isGated 49 = .ok (.iconst 1, 1) := by decide +kernel
theorem dX12_isGated_50 : decode cX12_isGated 50 = .ok (.ireturn, 1) := by decide +kernel
theorem dX12_isGated_51 : decode cX12_isGated 51 = .ok (.iinc 2 1, 3) := by decide +kernel
theorem dX12_isGated_54 : decode cX12_isGated 54 = .ok (.goto (-52), 3) := by decide +kernel
theorem dX12_isGated_57 : decode cX12_isGated 57 = .ok (.iconst 0, 1) := by decide +kernel
theorem dX12_isGated_58 : decode cX12_isGated 58 = .ok (.ireturn, 1) := by decide +kernel
theorem dX12_isSort_0 : decode cX12_isSort 0 = .ok (.iload_n 1, 1) := by decide +kernel
theorem dX12_isSort_1 : decode cX12_isSort 1 = .ok (.ifCond .lt 15, 3) := by decide +kernel
theorem dX12_isSort_4 : decode cX12_isSort 4 = .ok (.iload_n 1, 1) := by decide +kernel
theorem dX12_isSort_5 : decode cX12_isSort 5 = .ok (.aload_n 0, 1) := by decide +kernel
theorem dX12_isSort_6 : decode cX12_isSort 6 = .ok (.getfield 284, 3) := by decide +kernel
theorem dX12_isSort_9 : decode cX12_isSort 9 = .ok (.if_icmp .ge 7, 3) := by decide +kernel
theorem dX12_isSort_12 : decode cX12_isSort 12 = .ok (.iconst 1, 1) := by decide +kernel
theorem dX12_isSort_13 : decode cX12_isSort 13 = .ok (.goto 4, 3) := by decide +kernel
theorem dX12_isSort_16 : decode cX12_isSort 16 = .ok (.iconst 0, 1) := by decide +kernel
theorem dX12_isSort_17 : decode cX12_isSort 17 = .ok (.ireturn, 1) := by decide +kernel
theorem dX12_isYard_0 : decode cX12_isYard 0 = .ok (.iload_n 1, 1) := by decide +kernel
theorem dX12_isYard_1 : decode cX12_isYard 1 = .ok (.ifCond .lt 15, 3) := by decide +kernel
theorem dX12_isYard_4 : decode cX12_isYard 4 = .ok (.iload_n 1, 1) := by decide +kernel
theorem dX12_isYard_5 : decode cX12_isYard 5 = .ok (.aload_n 0, 1) := by decide +kernel
theorem dX12_isYard_6 : decode cX12_isYard 6 = .ok (.getfield 290, 3) := by decide +kernel
theorem dX12_isYard_9 : decode cX12_isYard 9 = .ok (.if_icmp .ge 7, 3) := by decide +kernel
theorem dX12_isYard_12 : decode cX12_isYard 12 = .ok (.iconst 1, 1) := by decide +kernel
theorem dX12_isYard_13 : decode cX12_isYard 13 = .ok (.goto 4, 3) := by decide +kernel
theorem dX12_isYard_16 : decode cX12_isYard 16 = .ok (.iconst 0, 1) := by decide +kernel
theorem dX12_isYard_17 : decode cX12_isYard 17 = .ok (.ireturn, 1) := by decide +kernel
theorem dX12_isFree_0 : decode cX12_isFree 0 = .ok (.aload_n 0, 1) := by decide +kernel
theorem dX12_isFree_1 : decode cX12_isFree 1 = .ok (.iload_n 1, 1) := by decide +kernel
theorem dX12_isFree_2 : decode cX12_isFree 2 = .ok (.invokevirtual 302, 3) := by decide +kernel
theorem dX12_isFree_5 : decode cX12_isFree 5 = .ok (.ifCond .eq 17, 3) := by decide +kernel
theorem dX12_isFree_8 : decode cX12_isFree 8 = .ok (.aload_n 0, 1) := by decide +kernel
theorem dX12_isFree_9 : decode cX12_isFree 9 = .ok (.getfield 55, 3) := by decide +kernel
theorem dX12_isFree_12 : decode cX12_isFree 12 = .ok (.iload_n 1, 1) := by decide +kernel
theorem dX12_isFree_13 : decode cX12_isFree 13 = .ok (.iaload, 1) := by decide +kernel
theorem dX12_isFree_14 : decode cX12_isFree 14 = .ok (.iconst (-1), 1) := by decide +kernel
theorem dX12_isFree_15 : decode cX12_isFree 15 = .ok (.if_icmp .ne 7, 3) := by decide +kernel
theorem dX12_isFree_18 : decode cX12_isFree 18 = .ok (.iconst 1, 1) := by decide +kernel
theorem dX12_isFree_19 : decode cX12_isFree 19 = .ok (.goto 4, 3) := by decide +kernel
theorem dX12_isFree_22 : decode cX12_isFree 22 = .ok (.iconst 0, 1) := by decide +kernel
theorem dX12_isFree_23 : decode cX12_isFree 23 = .ok (.ireturn, 1) := by decide +kernel
theorem dX12_lengthOf_0 : decode cX12_lengthOf 0 = .ok (.aload_n 0, 1) := by decide +kernel
theorem dX12_lengthOf_1 : decode cX12_lengthOf 1 = .ok (.getfield 43, 3) := by decide +kernel
theorem dX12_lengthOf_4 : decode cX12_lengthOf 4 = .ok (.iconst 2, 1) := by decide +kernel
theorem dX12_lengthOf_5 : decode cX12_lengthOf 5 = .ok (.iload_n 1, 1) := by decide +kernel
theorem dX12_lengthOf_6 : decode cX12_lengthOf 6 = .ok (.imul, 1) := by decide +kernel
theorem dX12_lengthOf_7 : decode cX12_lengthOf 7 = .ok (.iaload, 1) := by decide +kernel
theorem dX12_lengthOf_8 : decode cX12_lengthOf 8 = .ok (.ireturn, 1) := by decide +kernel
theorem dX12_yard_0 : decode cX12_yard 0 = .ok (.aload_n 0, 1) := by decide +kernel
theorem dX12_yard_1 : decode cX12_yard 1 = .ok (.aload_n 0, 1) := by decide +kernel
theorem dX12_yard_2 : decode cX12_yard 2 = .ok (.iload_n 1, 1) := by decide +kernel
theorem dX12_yard_3 : decode cX12_yard 3 = .ok (.invokevirtual 302, 3) := by decide +kernel
theorem dX12_yard_6 : decode cX12_yard 6 = .ok (.ifCond .eq 19, 3) := by decide +kernel
theorem dX12_yard_9 : decode cX12_yard 9 = .ok (.iload_n 2, 1) := by decide +kernel
theorem dX12_yard_10 : decode cX12_yard 10 = .ok (.i2l, 1) := by decide +kernel
theorem dX12_yard_11 : decode cX12_yard 11 = .ok (.lconst 0, 1) := by decide +kernel
theorem dX12_yard_12 : decode cX12_yard 12 = .ok (.ldc2_w 305, 3) := by decide +kernel
theorem dX12_yard_15 : decode cX12_yard 15 = .ok (.invokestatic 232, 3) := by decide +kernel
theorem dX12_yard_18 : decode cX12_yard 18 = .ok (.ifCond .eq 7, 3) := by decide +kernel
theorem dX12_yard_21 : decode cX12_yard 21 = .ok (.iconst 0, 1) := by decide +kernel
theorem dX12_yard_22 : decode cX12_yard 22 = .ok (.goto 4, 3) := by decide +kernel
theorem dX12_yard_25 : decode cX12_yard 25 = .ok (.iconst 1, 1) := by decide +kernel
theorem dX12_yard_26 : decode cX12_yard 26 = .ok (.putfield 111, 3) := by decide +kernel
theorem dX12_yard_29 : decode cX12_yard 29 = .ok (.aload_n 0, 1) := by decide +kernel
theorem dX12_yard_30 : decode cX12_yard 30 = .ok (.getfield 111, 3) := by decide +kernel
theorem dX12_yard_33 : decode cX12_yard 33 = .ok (.ifCond .le 5, 3) := by decide +kernel
theorem dX12_yard_36 : decode cX12_yard 36 = .ok (.iconst 0, 1) := by decide +kernel
theorem dX12_yard_37 : decode cX12_yard 37 = .ok (.ireturn, 1) := by decide +kernel
theorem dX12_yard_38 : decode cX12_yard 38 = .ok (.iload_n 2, 1) := by decide +kernel
theorem dX12_yard_39 : decode cX12_yard 39 = .ok (.ifCond .ne 34, 3) := by decide +kernel
theorem dX12_yard_42 : decode cX12_yard 42 = .ok (.aload_n 0, 1) := by decide +kernel
theorem dX12_yard_43 : decode cX12_yard 43 = .ok (.getfield 55, 3) := by decide +kernel
theorem dX12_yard_46 : decode cX12_yard 46 = .ok (.iload_n 1, 1) := by decide +kernel
theorem dX12_yard_47 : decode cX12_yard 47 = .ok (.iaload, 1) := by decide +kernel
theorem dX12_yard_48 : decode cX12_yard 48 = .ok (.iconst (-1), 1) := by decide +kernel
theorem dX12_yard_49 : decode cX12_yard 49 = .ok (.if_icmp .ne 7, 3) := by decide +kernel
theorem dX12_yard_52 : decode cX12_yard 52 = .ok (.iconst 0, 1) := by decide +kernel
theorem dX12_yard_53 : decode cX12_yard 53 = .ok (.goto 19, 3) := by decide +kernel
theorem dX12_yard_56 : decode cX12_yard 56 = .ok (.aload_n 0, 1) := by decide +kernel
theorem dX12_yard_57 : decode cX12_yard 57 = .ok (.getfield 55, 3) := by decide +kernel
theorem dX12_yard_60 : decode cX12_yard 60 = .ok (.iload_n 1, 1) := by decide +kernel
theorem dX12_yard_61 : decode cX12_yard 61 = .ok (.iaload, 1) := by decide +kernel
theorem dX12_yard_62 : decode cX12_yard 62 = .ok (.bipush (-2), 2) := by decide +kernel
theorem dX12_yard_64 : decode cX12_yard 64 = .ok (.if_icmp .ne 7, 3) := by decide +kernel
theorem dX12_yard_67 : decode cX12_yard 67 = .ok (.iconst 1, 1) := by decide +kernel
theorem dX12_yard_68 : decode cX12_yard 68 = .ok (.goto 4, 3) := by decide +kernel
theorem dX12_yard_71 : decode cX12_yard 71 = .ok (.iconst 2, 1) := by decide +kernel
theorem dX12_yard_72 : decode cX12_yard 72 = .ok (.ireturn, 1) := by decide +kernel
theorem dX12_yard_73 : decode cX12_yard 73 = .ok (.aload_n 0, 1) := by decide +kernel
theorem dX12_yard_74 : decode cX12_yard 74 = .ok (.getfield 55, 3) := by decide +kernel
theorem dX12_yard_77 : decode cX12_yard 77 = .ok (.iload_n 1, 1) := by decide +kernel
theorem dX12_yard_78 : decode cX12_yard 78 = .ok (.iaload, 1) := by decide +kernel
theorem dX12_yard_79 : decode cX12_yard 79 = .ok (.ifCond .ge 7, 3) := by decide +kernel
theorem dX12_yard_82 : decode cX12_yard 82 = .ok (.iconst (-1), 1) := by decide +kernel
theorem dX12_yard_83 : decode cX12_yard 83 = .ok (.goto 28, 3) := by decide +kernel
theorem dX12_yard_86 : decode cX12_yard 86 = .ok (.iload_n 2, 1) := by decide +kernel
theorem dX12_yard_87 : decode cX12_yard 87 = .ok (.iconst 1, 1) := by decide +kernel
theorem dX12_yard_88 : decode cX12_yard 88 = .ok (.if_icmp .ne 12, 3) := by decide +kernel
theorem dX12_yard_91 : decode cX12_yard 91 = .ok (.aload_n 0, 1) := by decide +kernel
theorem dX12_yard_92 : decode cX12_yard 92 = .ok (.getfield 55, 3) := by decide +kernel
theorem dX12_yard_95 : decode cX12_yard 95 = .ok (.iload_n 1, 1) := by decide +kernel
theorem dX12_yard_96 : decode cX12_yard 96 = .ok (.iaload, 1) := by decide +kernel
theorem dX12_yard_97 : decode cX12_yard 97 = .ok (.goto 14, 3) := by decide +kernel
theorem dX12_yard_100 : decode cX12_yard 100 = .ok (.aload_n 0, 1) := by decide +kernel
theorem dX12_yard_101 : decode cX12_yard 101 = .ok (.getfield 58, 3) := by decide +kernel
theorem dX12_yard_104 : decode cX12_yard 104 = .ok (.aload_n 0, 1) := by decide +kernel
theorem dX12_yard_105 : decode cX12_yard 105 = .ok (.getfield 55, 3) := by decide +kernel
theorem dX12_yard_108 : decode cX12_yard 108 = .ok (.iload_n 1, 1) := by decide +kernel
theorem dX12_yard_109 : decode cX12_yard 109 = .ok (.iaload, 1) := by decide +kernel
theorem dX12_yard_110 : decode cX12_yard 110 = .ok (.iaload, 1) := by decide +kernel
theorem dX12_yard_111 : decode cX12_yard 111 = .ok (.ireturn, 1) := by decide +kernel
theorem dX12_sort_0 : decode cX12_sort 0 = .ok (.aload_n 0, 1) := by decide +kernel
theorem dX12_sort_1 : decode cX12_sort 1 = .ok (.iconst 0, 1) := by decide +kernel
theorem dX12_sort_2 : decode cX12_sort 2 = .ok (.putfield 111, 3) := by decide +kernel
theorem dX12_sort_5 : decode cX12_sort 5 = .ok (.aload_n 0, 1) := by decide +kernel
theorem dX12_sort_6 : decode cX12_sort 6 = .ok (.iload_n 1, 1) := by decide +kernel
theorem dX12_sort_7 : decode cX12_sort 7 = .ok (.invokevirtual 307, 3) := by decide +kernel
theorem dX12_sort_10 : decode cX12_sort 10 = .ok (.ifCond .eq 26, 3) := by decide +kernel
theorem dX12_sort_13 : decode cX12_sort 13 = .ok (.iload_n 2, 1) := by decide +kernel
theorem dX12_sort_14 : decode cX12_sort 14 = .ok (.i2l, 1) := by decide +kernel
theorem dX12_sort_15 : decode cX12_sort 15 = .ok (.lconst 0, 1) := by decide +kernel
theorem dX12_sort_16 : decode cX12_sort 16 = .ok (.lconst 1, 1) := by decide +kernel
theorem dX12_sort_17 : decode cX12_sort 17 = .ok (.invokestatic 232, 3) := by decide +kernel
theorem dX12_sort_20 : decode cX12_sort 20 = .ok (.ifCond .eq 16, 3) := by decide +kernel
theorem dX12_sort_23 : decode cX12_sort 23 = .ok (.aload_n 0, 1) := by decide +kernel
theorem dX12_sort_24 : decode cX12_sort 24 = .ok (.getfield 43, 3) := by decide +kernel
theorem dX12_sort_27 : decode cX12_sort 27 = .ok (.iconst 2, 1) := by decide +kernel
theorem dX12_sort_28 : decode cX12_sort 28 = .ok (.iload_n 1, 1) := by decide +kernel
theorem dX12_sort_29 : decode cX12_sort 29 = .ok (.imul, 1) := by decide +kernel
theorem dX12_sort_30 : decode cX12_sort 30 = .ok (.iload_n 2, 1) := by decide +kernel
theorem dX12_sort_31 : decode cX12_sort 31 = .ok (.iadd, 1) := by decide +kernel
theorem dX12_sort_32 : decode cX12_sort 32 = .ok (.iaload, 1) := by decide +kernel
theorem dX12_sort_33 : decode cX12_sort 33 = .ok (.goto 4, 3) := by decide +kernel
theorem dX12_sort_36 : decode cX12_sort 36 = .ok (.iconst (-1), 1) := by decide +kernel
theorem dX12_sort_37 : decode cX12_sort 37 = .ok (.ireturn, 1) := by decide +kernel
theorem dX12_rule_0 : decode cX12_rule 0 = .ok (.aload_n 0, 1) := by decide +kernel
theorem dX12_rule_1 : decode cX12_rule 1 = .ok (.iconst 0, 1) := by decide +kernel
theorem dX12_rule_2 : decode cX12_rule 2 = .ok (.putfield 111, 3) := by decide +kernel
theorem dX12_rule_5 : decode cX12_rule 5 = .ok (.aload_n 0, 1) := by decide +kernel
theorem dX12_rule_6 : decode cX12_rule 6 = .ok (.getfield 284, 3) := by decide +kernel
theorem dX12_rule_9 : decode cX12_rule 9 = .ok (.ifCond .eq 24, 3) := by decide +kernel
theorem dX12_rule_12 : decode cX12_rule 12 = .ok (.iload_n 1, 1) := by decide +kernel
theorem dX12_rule_13 : decode cX12_rule 13 = .ok (.iconst (-1), 1) := by decide +kernel
theorem dX12_rule_14 : decode cX12_rule 14 = .ok (.if_icmp .eq 21, 3) := by decide +kernel
theorem dX12_rule_17 : decode cX12_rule 17 = .ok (.iload_n 1, 1) := by decide +kernel
theorem dX12_rule_18 : decode cX12_rule 18 = .ok (.i2l, 1) := by decide +kernel
theorem dX12_rule_19 : decode cX12_rule 19 = .ok (.lconst 0, 1) := by decide +kernel
theorem dX12_rule_20 : decode cX12_rule 20 = .ok (.aload_n 0, 1) := by decide +kernel
theorem dX12_rule_21 : decode cX12_rule 21 = .ok (.getfield 279, 3) := by decide +kernel
theorem dX12_rule_24 : decode cX12_rule 24 = .ok (.iconst 1, 1) := by decide +kernel
theorem dX12_rule_25 : decode cX12_rule 25 = .ok (.isub, 1) := by decide +kernel
theorem dX12_rule_26 : decode cX12_rule 26 = .ok (.i2l, 1) := by decide +kernel
theorem dX12_rule_27 : decode cX12_rule 27 = .ok (.invokestatic 232, 3) := by decide +kernel
theorem dX12_rule_30 : decode cX12_rule 30 = .ok (.ifCond .ne 5, 3) := by decide +kernel
theorem dX12_rule_33 : decode cX12_rule 33 = .ok (.iconst 0, 1) := by decide +kernel
theorem dX12_rule_34 : decode cX12_rule 34 = .ok (.ireturn, 1) := by decide +kernel
theorem dX12_rule_35 : decode cX12_rule 35 = .ok (.aload_n 0, 1) := by decide +kernel
theorem dX12_rule_36 : decode cX12_rule 36 = .ok (.iload_n 1, 1) := by decide +kernel
theorem dX12_rule_37 : decode cX12_rule 37 = .ok (.putfield 64, 3) := by decide +kernel
theorem dX12_rule_40 : decode cX12_rule 40 = .ok (.iconst 1, 1) := by decide +kernel
theorem dX12_rule_41 : decode cX12_rule 41 = .ok (.ireturn, 1) := by decide +kernel
theorem dX12_obey_0 : decode cX12_obey 0 = .ok (.aload_n 0, 1) := by decide +kernel
theorem dX12_obey_1 : decode cX12_obey 1 = .ok (.iconst 0, 1) := by decide +kernel
theorem dX12_obey_2 : decode cX12_obey 2 = .ok (.putfield 111, 3) := by decide +kernel
theorem dX12_obey_5 : decode cX12_obey 5 = .ok (.aload_n 0, 1) := by decide +kernel
theorem dX12_obey_6 : decode cX12_obey 6 = .ok (.getfield 284, 3) := by decide +kernel
theorem dX12_obey_9 : decode cX12_obey 9 = .ok (.ifCond .eq 15, 3) := by decide +kernel
theorem dX12_obey_12 : decode cX12_obey 12 = .ok (.iload_n 1, 1) := by decide +kernel
theorem dX12_obey_13 : decode cX12_obey 13 = .ok (.i2l, 1) := by decide +kernel
theorem dX12_obey_14 : decode cX12_obey 14 = .ok (.lconst 0, 1) := by decide +kernel
theorem dX12_obey_15 : decode cX12_obey 15 = .ok (.ldc2_w 310, 3) := by decide +kernel
theorem dX12_obey_18 : decode cX12_obey 18 = .ok (.invokestatic 232, 3) := by decide +kernel
theorem dX12_obey_21 : decode cX12_obey 21 = .ok (.ifCond .ne 5, 3) := by decide +kernel
theorem dX12_obey_24 : decode cX12_obey 24 = .ok (.iconst 0, 1) := by decide +kernel
theorem dX12_obey_25 : decode cX12_obey 25 = .ok (.ireturn, 1) := by decide +kernel
theorem dX12_obey_26 : decode cX12_obey 26 = .ok (.aload_n 0, 1) := by decide +kernel
theorem dX12_obey_27 : decode cX12_obey 27 = .ok (.getfield 37, 3) := by decide +kernel
theorem dX12_obey_30 : decode cX12_obey 30 = .ok (.iconst 1, 1) := by decide +kernel
theorem dX12_obey_31 : decode cX12_obey 31 = .ok (.iload_n 1, 1) := by decide +kernel
theorem dX12_obey_32 : decode cX12_obey 32 = .ok (.iastore, 1) := by decide +kernel
theorem dX12_obey_33 : decode cX12_obey 33 = .ok (.iconst 1, 1) := by decide +kernel
theorem dX12_obey_34 : decode cX12_obey 34 = .ok (.ireturn, 1) := by decide +kernel
theorem dX12_canStop_0 : decode cX12_canStop 0 = .ok (.iload_n 2, 1) := by decide +kernel
theorem dX12_canStop_1 : decode cX12_canStop 1 = .ok (.istore_n 3, 1) := by decide +kernel
theorem dX12_canStop_2 : decode cX12_canStop 2 = .ok (.iload_n 3, 1) := by decide +kernel
theorem dX12_canStop_3 : decode cX12_canStop 3 = .ok (.iload_n 2, 1) := by decide +kernel
theorem dX12_canStop_4 : decode cX12_canStop 4 = .ok (.aload_n 0, 1) := by decide +kernel
theorem dX12_canStop_5 : decode cX12_canStop 5 = .ok (.iload_n 1, 1) := by decide +kernel
theorem dX12_canStop_6 : decode cX12_canStop 6 = .ok (.invokevirtual 312, 3) := by decide +kernel
theorem dX12_canStop_9 : decode cX12_canStop 9 = .ok (.iadd, 1) := by decide +kernel
theorem dX12_canStop_10 : decode cX12_canStop 10 = .ok (.if_icmp .ge 19, 3) := by decide +kernel
theorem dX12_canStop_13 : decode cX12_canStop 13 = .ok (.aload_n 0, 1) := by decide +kernel
theorem dX12_canStop_14 : decode cX12_canStop 14 = .ok (.iload_n 3, 1) := by decide +kernel
theorem dX12_canStop_15 : decode cX12_canStop 15 = .ok (.invokevirtual 315, 3) := by decide +kernel
theorem dX12_canStop_18 : decode cX12_canStop 18 = .ok (.ifCond .ne 5, 3) := by decide +kernel
theorem dX12_canStop_21 : decode cX12_canStop 21 = .ok (.iconst 0, 1) := by decide +kernel
theorem dX12_canStop_22 : decode cX12_canStop 22 = .ok (.ireturn, 1) := by decide +kernel
theorem dX12_canStop_23 : decode cX12_canStop 23 = .ok (.iinc 3 1, 3) := by decide +kernel
theorem dX12_canStop_26 : decode cX12_canStop 26 = .ok (.goto (-24), 3) := by decide +kernel
theorem dX12_canStop_29 : decode cX12_canStop 29 = .ok (.iconst 1, 1) := by decide +kernel
theorem dX12_canStop_30 : decode cX12_canStop 30 = .ok (.ireturn, 1) := by decide +kernel
theorem dX12_fitMany_0 : decode cX12_fitMany 0 = .ok (.iconst 0, 1) := by decide +kernel
theorem dX12_fitMany_1 : decode cX12_fitMany 1 = .ok (.istore_n 2, 1) := by decide +kernel
theorem dX12_fitMany_2 : decode cX12_fitMany 2 = .ok (.iconst 0, 1) := by decide +kernel
theorem dX12_fitMany_3 : decode cX12_fitMany 3 = .ok (.istore_n 3, 1) := by decide +kernel
theorem dX12_fitMany_4 : decode cX12_fitMany 4 = .ok (.iload_n 3, 1) := by decide +kernel
theorem dX12_fitMany_5 : decode cX12_fitMany 5 = .ok (.aload_n 0, 1) := by decide +kernel
theorem dX12_fitMany_6 : decode cX12_fitMany 6 = .ok (.getfield 290, 3) := by decide +kernel
theorem dX12_fitMany_9 : decode cX12_fitMany 9 = .ok (.if_icmp .ge 26, 3) := by decide +kernel
theorem dX12_fitMany_12 : decode cX12_fitMany 12 = .ok (.iload_n 2, 1) := by decide +kernel
theorem dX12_fitMany_13 : decode cX12_fitMany 13 = .ok (.aload_n 0, 1) := by decide +kernel
theorem dX12_fitMany_14 : decode cX12_fitMany 14 = .ok (.iload_n 1, 1) := by decide +kernel
theorem dX12_fitMany_15 : decode cX12_fitMany 15 = .ok (.iload_n 3, 1) := by decide +kernel
theorem dX12_fitMany_16 : decode cX12_fitMany 16 = .ok (.invokevirtual 318, 3) := by decide +kernel
theorem dX12_fitMany_19 : decode cX12_fitMany 19 = .ok (.ifCond .eq 7, 3) := by decide +kernel
theorem dX12_fitMany_22 : decode cX12_fitMany 22 = .ok (.iconst 1, 1) := by decide +kernel
theorem dX12_fitMany_23 : decode cX12_fitMany 23 = .ok (.goto 4, 3) := by decide +kernel
theorem dX12_fitMany_26 : decode cX12_fitMany 26 = .ok (.iconst 0, 1) := by decide +kernel
theorem dX12_fitMany_27 : decode cX12_fitMany 27 = .ok (.iadd, 1) := by decide +kernel
theorem dX12_fitMany_28 : decode cX12_fitMany 28 = .ok (.istore_n 2, 1) := by decide +kernel
theorem dX12_fitMany_29 : decode cX12_fitMany 29 = .ok (.iinc 3 1, 3) := by decide +kernel
theorem dX12_fitMany_32 : decode cX12_fitMany 32 = .ok (.goto (-28), 3) := by decide +kernel
theorem dX12_fitMany_35 : decode cX12_fitMany 35 = .ok (.iload_n 2, 1) := by decide +kernel
theorem dX12_fitMany_36 : decode cX12_fitMany 36 = .ok (.ireturn, 1) := by decide +kernel
theorem dX12_fits_0 : decode cX12_fits 0 = .ok (.aload_n 0, 1) := by decide +kernel
theorem dX12_fits_1 : decode cX12_fits 1 = .ok (.iconst 0, 1) := by decide +kernel
theorem dX12_fits_2 : decode cX12_fits 2 = .ok (.putfield 111, 3) := by decide +kernel
theorem dX12_fits_5 : decode cX12_fits 5 = .ok (.aload_n 0, 1) := by decide +kernel
theorem dX12_fits_6 : decode cX12_fits 6 = .ok (.iload_n 1, 1) := by decide +kernel
theorem dX12_fits_7 : decode cX12_fits 7 = .ok (.invokevirtual 307, 3) := by decide +kernel
theorem dX12_fits_10 : decode cX12_fits 10 = .ok (.ifCond .eq 8, 3) := by decide +kernel
theorem dX12_fits_13 : decode cX12_fits 13 = .ok (.iload_n 2, 1) := by decide +kernel
theorem dX12_fits_14 : decode cX12_fits 14 = .ok (.iconst (-1), 1) := by decide +kernel
theorem dX12_fits_15 : decode cX12_fits 15 = .ok (.if_icmp .ge 5, 3) := by decide +kernel
theorem dX12_fits_18 : decode cX12_fits 18 = .ok (.iconst (-1), 1) := by decide +kernel
theorem dX12_fits_19 : decode cX12_fits 19 = .ok (.ireturn, 1) := by decide +kernel
theorem dX12_fits_20 : decode cX12_fits 20 = .ok (.iconst 0, 1) := by decide +kernel
theorem dX12_fits_21 : decode cX12_fits 21 = .ok (.istore_n 3, 1) := by decide +kernel
theorem dX12_fits_22 : decode cX12_fits 22 = .ok (.iconst 0, 1) := by decide +kernel
theorem dX12_fits_23 : decode cX12_fits 23 = .ok (.istore 4, 2) := by decide +kernel
theorem dX12_fits_25 : decode cX12_fits 25 = .ok (.iload 4, 2) := by decide +kernel
theorem dX12_fits_27 : decode cX12_fits 27 = .ok (.aload_n 0, 1) := by decide +kernel
theorem dX12_fits_28 : decode cX12_fits 28 = .ok (.getfield 290, 3) := by decide +kernel
theorem dX12_fits_31 : decode cX12_fits 31 = .ok (.if_icmp .ge 33, 3) := by decide +kernel
theorem dX12_fits_34 : decode cX12_fits 34 = .ok (.aload_n 0, 1) := by decide +kernel
theorem dX12_fits_35 : decode cX12_fits 35 = .ok (.iload_n 1, 1) := by decide +kernel
theorem dX12_fits_36 : decode cX12_fits 36 = .ok (.iload 4, 2) := by decide +kernel
theorem dX12_fits_38 : decode cX12_fits 38 = .ok (.invokevirtual 318, 3) := by decide +kernel
theorem dX12_fits_41 : decode cX12_fits 41 = .ok (.ifCond .ne 6, 3) := by decide +kernel
theorem dX12_fits_44 : decode cX12_fits 44 = .ok (.goto 14, 3) := by decide +kernel
theorem dX12_fits_47 : decode cX12_fits 47 = .ok (.iload_n 3, 1) := by decide +kernel
theorem dX12_fits_48 : decode cX12_fits 48 = .ok (.iload_n 2, 1) := by decide +kernel
theorem dX12_fits_49 : decode cX12_fits 49 = .ok (.if_icmp .ne 6, 3) := by decide +kernel
theorem dX12_fits_52 : decode cX12_fits 52 = .ok (.iload 4, 2) := by decide +kernel
theorem dX12_fits_54 : decode cX12_fits 54 = .ok (.ireturn, 1) := by decide +kernel
theorem dX12_fits_55 : decode cX12_fits 55 = .ok (.iinc 3 1, 3) := by decide +kernel
theorem dX12_fits_58 : decode cX12_fits 58 = .ok (.iinc 4 1, 3) := by decide +kernel
theorem dX12_fits_61 : decode cX12_fits 61 = .ok (.goto (-36), 3) := by decide +kernel
theorem dX12_fits_64 : decode cX12_fits 64 = .ok (.iload_n 2, 1) := by decide +kernel
theorem dX12_fits_65 : decode cX12_fits 65 = .ok (.iconst (-1), 1) := by decide +kernel
theorem dX12_fits_66 : decode cX12_fits 66 = .ok (.if_icmp .ne 7, 3) := by decide +kernel
theorem dX12_fits_69 : decode cX12_fits 69 = .ok (.iload_n 3, 1) := by decide +kernel
theorem dX12_fits_70 : decode cX12_fits 70 = .ok (.goto 4, 3) := by decide +kernel
theorem dX12_fits_73 : decode cX12_fits 73 = .ok (.iconst (-1), 1) := by decide +kernel
theorem dX12_fits_74 : decode cX12_fits 74 = .ok (.ireturn, 1) := by decide +kernel
theorem dX12_carMany_0 : decode cX12_carMany 0 = .ok (.iconst 0, 1) := by decide +kernel
theorem dX12_carMany_1 : decode cX12_carMany 1 = .ok (.istore_n 1, 1) := by decide +kernel
theorem dX12_carMany_2 : decode cX12_carMany 2 = .ok (.iconst 0, 1) := by decide +kernel
theorem dX12_carMany_3 : decode cX12_carMany 3 = .ok (.istore_n 2, 1) := by decide +kernel
theorem dX12_carMany_4 : decode cX12_carMany 4 = .ok (.iload_n 2, 1) := by decide +kernel
theorem dX12_carMany_5 : decode cX12_carMany 5 = .ok (.aload_n 0, 1) := by decide +kernel
theorem dX12_carMany_6 : decode cX12_carMany 6 = .ok (.getfield 290, 3) := by decide +kernel
theorem dX12_carMany_9 : decode cX12_carMany 9 = .ok (.if_icmp .ge 27, 3) := by decide +kernel
theorem dX12_carMany_12 : decode cX12_carMany 12 = .ok (.iload_n 1, 1) := by decide +kernel
theorem dX12_carMany_13 : decode cX12_carMany 13 = .ok (.aload_n 0, 1) := by decide +kernel
theorem dX12_carMany_14 : decode cX12_carMany 14 = .ok (.getfield 55, 3) := by decide +kernel
theorem dX12_carMany_17 : decode cX12_carMany 17 = .ok (.iload_n 2, 1) := by decide +kernel
theorem dX12_carMany_18 : decode cX12_carMany 18 = .ok (.iaload, 1) := by decide +kernel
theorem dX12_carMany_19 : decode cX12_carMany 19 = .ok (.iload_n 2, 1) := by decide +kernel
theorem dX12_carMany_20 : decode cX12_carMany 20 = .ok (.if_icmp .ne 7, 3) := by decide +kernel
theorem dX12_carMany_23 : decode cX12_carMany 23 = .ok (.iconst 1, 1) := by decide +kernel
theorem dX12_carMany_24 : decode cX12_carMany 24 = .ok (.goto 4, 3) := by decide +kernel
theorem dX12_carMany_27 : decode cX12_carMany 27 = .ok (.iconst 0, 1) := by decide +kernel
theorem dX12_carMany_28 : decode cX12_carMany 28 = .ok (.iadd, 1) := by decide +kernel
theorem dX12_carMany_29 : decode cX12_carMany 29 = .ok (.istore_n 1, 1) := by decide +kernel
theorem dX12_carMany_30 : decode cX12_carMany 30 = .ok (.iinc 2 1, 3) := by decide +kernel
theorem dX12_carMany_33 : decode cX12_carMany 33 = .ok (.goto (-29), 3) := by decide +kernel
theorem dX12_carMany_36 : decode cX12_carMany 36 = .ok (.iload_n 1, 1) := by decide +kernel
theorem dX12_carMany_37 : decode cX12_carMany 37 = .ok (.ireturn, 1) := by decide +kernel
theorem dX12_stand_0 : decode cX12_stand 0 = .ok (.iload_n 2, 1) := by decide +kernel
theorem dX12_stand_1 : decode cX12_stand 1 = .ok (.istore_n 3, 1) := by decide +kernel
theorem dX12_stand_2 : decode cX12_stand 2 = .ok (.iload_n 3, 1) := by decide +kernel
theorem dX12_stand_3 : decode cX12_stand 3 = .ok (.iload_n 2, 1) := by decide +kernel
theorem dX12_stand_4 : decode cX12_stand 4 = .ok (.aload_n 0, 1) := by decide +kernel
theorem dX12_stand_5 : decode cX12_stand 5 = .ok (.iload_n 1, 1) := by decide +kernel
theorem dX12_stand_6 : decode cX12_stand 6 = .ok (.invokevirtual 312, 3) := by decide +kernel
theorem dX12_stand_9 : decode cX12_stand 9 = .ok (.iadd, 1) := by decide +kernel
theorem dX12_stand_10 : decode cX12_stand 10 = .ok (.if_icmp .ge 16, 3) := by decide +kernel
theorem dX12_stand_13 : decode cX12_stand 13 = .ok (.aload_n 0, 1) := by decide +kernel
theorem dX12_stand_14 : decode cX12_stand 14 = .ok (.getfield 55, 3) := by decide +kernel
theorem dX12_stand_17 : decode cX12_stand 17 = .ok (.iload_n 3, 1) := by decide +kernel
theorem dX12_stand_18 : decode cX12_stand 18 = .ok (.iload_n 2, 1) := by decide +kernel
theorem dX12_stand_19 : decode cX12_stand 19 = .ok (.iastore, 1) := by decide +kernel
theorem dX12_stand_20 : decode cX12_stand 20 = .ok (.iinc 3 1, 3) := by decide +kernel
theorem dX12_stand_23 : decode cX12_stand 23 = .ok (.goto (-21), 3) := by decide +kernel
theorem dX12_stand_26 : decode cX12_stand 26 = .ok (.aload_n 0, 1) := by decide +kernel
theorem dX12_stand_27 : decode cX12_stand 27 = .ok (.getfield 58, 3) := by decide +kernel
theorem dX12_stand_30 : decode cX12_stand 30 = .ok (.iload_n 2, 1) := by decide +kernel
theorem dX12_stand_31 : decode cX12_stand 31 = .ok (.iload_n 1, 1) := by decide +kernel
theorem dX12_stand_32 : decode cX12_stand 32 = .ok (.iastore, 1) := by decide +kernel
theorem dX12_stand_33 : decode cX12_stand 33 = .ok (.return_, 1) := by decide +kernel
theorem dX12_goAway_0 : decode cX12_goAway 0 = .ok (.iconst 0, 1) := by decide +kernel
theorem dX12_goAway_1 : decode cX12_goAway 1 = .ok (.istore_n 2, 1) := by decide +kernel
theorem dX12_goAway_2 : decode cX12_goAway 2 = .ok (.iload_n 2, 1) := by decide +kernel
theorem dX12_goAway_3 : decode cX12_goAway 3 = .ok (.aload_n 0, 1) := by decide +kernel
theorem dX12_goAway_4 : decode cX12_goAway 4 = .ok (.getfield 290, 3) := by decide +kernel
theorem dX12_goAway_7 : decode cX12_goAway 7 = .ok (.if_icmp .ge 26, 3) := by decide +kernel
theorem dX12_goAway_10 : decode cX12_goAway 10 = .ok (.aload_n 0, 1) := by decide +kernel
theorem dX12_goAway_11 : decode cX12_goAway 11 = .ok (.getfield 55, 3) := by decide +kernel
theorem dX12_goAway_14 : decode cX12_goAway 14 = .ok (.iload_n 2, 1) := by decide +kernel
theorem dX12_goAway_15 : decode cX12_goAway 15 = .ok (.iaload, 1) := by decide +kernel
theorem dX12_goAway_16 : decode cX12_goAway 16 = .ok (.iload_n 1, 1) := by decide +kernel
theorem dX12_goAway_17 : decode cX12_goAway 17 = .ok (.if_icmp .ne 10, 3) := by decide +kernel
theorem dX12_goAway_20 : decode cX12_goAway 20 = .ok (.aload_n 0, 1) := by decide +kernel
theorem dX12_goAway_21 : decode cX12_goAway 21 = .ok (.getfield 55, 3) := by decide +kernel
theorem dX12_goAway_24 : decode cX12_goAway 24 = .ok (.iload_n 2, 1) := by decide +kernel
theorem dX12_goAway_25 : decode cX12_goAway 25 = .ok (.iconst (-1), 1) := by decide +kernel
theorem dX12_goAway_26 : decode cX12_goAway 26 = .ok (.iastore, 1) := by decide +kernel
theorem dX12_goAway_27 : decode cX12_goAway 27 = .ok (.iinc 2 1, 3) := by decide +kernel
theorem dX12_goAway_30 : decode cX12_goAway 30 = .ok (.goto (-28), 3) := by decide +kernel
theorem dX12_goAway_33 : decode cX12_goAway 33 = .ok (.aload_n 0, 1) := by decide +kernel
theorem dX12_goAway_34 : decode cX12_goAway 34 = .ok (.getfield 58, 3) := by decide +kernel
theorem dX12_goAway_37 : decode cX12_goAway 37 = .ok (.iload_n 1, 1) := by decide +kernel
theorem dX12_goAway_38 : decode cX12_goAway 38 = .ok (.iconst (-1), 1) := by decide +kernel
theorem dX12_goAway_39 : decode cX12_goAway 39 = .ok (.iastore, 1) := by decide +kernel
theorem dX12_goAway_40 : decode cX12_goAway 40 = .ok (.return_, 1) := by decide +kernel
theorem dX12_freeAhead_0 : decode cX12_freeAhead 0 = .ok (.iconst 0, 1) := by decide +kernel
theorem dX12_freeAhead_1 : decode cX12_freeAhead 1 = .ok (.istore_n 2, 1) := by decide +kernel
theorem dX12_freeAhead_2 : decode cX12_freeAhead 2 = .ok (.aload_n 0, 1) := by decide +kernel
theorem dX12_freeAhead_3 : decode cX12_freeAhead 3 = .ok (.iload_n 1, 1) := by decide +kernel
theorem dX12_freeAhead_4 : decode cX12_freeAhead 4 = .ok (.iconst 1, 1) := by decide +kernel
theorem dX12_freeAhead_5 : decode cX12_freeAhead 5 = .ok (.isub, 1) := by decide +kernel
theorem dX12_freeAhead_6 : decode cX12_freeAhead 6 = .ok (.iload_n 2, 1) := by decide +kernel
theorem dX12_freeAhead_7 : decode cX12_freeAhead 7 = .ok (.isub, 1) := by decide +kernel
theorem dX12_freeAhead_8 : decode cX12_freeAhead 8 = .ok (.invokevirtual 315, 3) := by decide +kernel
theorem dX12_freeAhead_11 : decode cX12_freeAhead 11 = .ok (.ifCond .eq 9, 3) := by decide +kernel
theorem dX12_freeAhead_14 : decode cX12_freeAhead 14 = .ok (.iinc 2 1, 3) := by decide +kernel
theorem dX12_freeAhead_17 : decode cX12_freeAhead 17 = .ok (.goto (-15), 3) := by decide +kernel
theorem dX12_freeAhead_20 : decode cX12_freeAhead 20 = .ok (.iload_n 2, 1) := by decide +kernel
theorem dX12_freeAhead_21 : decode cX12_freeAhead 21 = .ok (.ireturn, 1) := by decide +kernel
theorem dX12_freeBehind_0 : decode cX12_freeBehind 0 = .ok (.iconst 0, 1) := by decide +kernel
theorem dX12_freeBehind_1 : decode cX12_freeBehind 1 = .ok (.istore_n 2, 1) := by decide +kernel
theorem dX12_freeBehind_2 : decode cX12_freeBehind 2 = .ok (.aload_n 0, 1) := by decide +kernel
theorem dX12_freeBehind_3 : decode cX12_freeBehind 3 = .ok (.iload_n 1, 1) := by decide +kernel
theorem dX12_freeBehind_4 : decode cX12_freeBehind 4 = .ok (.iload_n 2, 1) := by decide +kernel
theorem dX12_freeBehind_5 : decode cX12_freeBehind 5 = .ok (.iadd, 1) := by decide +kernel
theorem dX12_freeBehind_6 : decode cX12_freeBehind 6 = .ok (.invokevirtual 315, 3) := by decide +kernel
theorem dX12_freeBehind_9 : decode cX12_freeBehind 9 = .ok (.ifCond .eq 9, 3) := by decide +kernel
theorem dX12_freeBehind_12 : decode cX12_freeBehind 12 = .ok (.iinc 2 1, 3) := by decide +kernel
theorem dX12_freeBehind_15 : decode cX12_freeBehind 15 = .ok (.goto (-13), 3) := by decide +kernel
theorem dX12_freeBehind_18 : decode cX12_freeBehind 18 = .ok (.iload_n 2, 1) := by decide +kernel
theorem dX12_freeBehind_19 : decode cX12_freeBehind 19 = .ok (.ireturn, 1) := by decide +kernel
theorem dX12_worthOf_0 : decode cX12_worthOf 0 = .ok (.aload_n 0, 1) := by decide +kernel
theorem dX12_worthOf_1 : decode cX12_worthOf 1 = .ok (.iload_n 3, 1) := by decide +kernel
theorem dX12_worthOf_2 : decode cX12_worthOf 2 = .ok (.invokevirtual 321, 3) := by decide +kernel
theorem dX12_worthOf_5 : decode cX12_worthOf 5 = .ok (.istore 4, 2) := by decide +kernel
theorem dX12_worthOf_7 : decode cX12_worthOf 7 = .ok (.aload_n 0, 1) := by decide +kernel
theorem dX12_worthOf_8 : decode cX12_worthOf 8 = .ok (.iload_n 3, 1) := by decide +kernel
theorem dX12_worthOf_9 : decode cX12_worthOf 9 = .ok (.aload_n 0, 1) := by decide +kernel
theorem dX12_worthOf_10 : decode cX12_worthOf 10 = .ok (.iload_n 1, 1) := by decide +kernel
theorem dX12_worthOf_11 : decode cX12_worthOf 11 = .ok (.invokevirtual 312, 3) := by decide +kernel
theorem dX12_worthOf_14 : decode cX12_worthOf 14 = .ok (.iadd, 1) := by decide +kernel
theorem dX12_worthOf_15 : decode cX12_worthOf 15 = .ok (.invokevirtual 324, 3) := by decide +kernel
theorem dX12_worthOf_18 : decode cX12_worthOf 18 = .ok (.istore 5, 2) := by decide +kernel
theorem dX12_worthOf_20 : decode cX12_worthOf 20 = .ok (.iload_n 2, 1) := by decide +kernel
theorem dX12_worthOf_21 : decode cX12_worthOf 21 = .ok (.iconst 1, 1) := by decide +kernel
theorem dX12_worthOf_22 : decode cX12_worthOf 22 = .ok (.if_icmp .ne 12, 3) := by decide +kernel
theorem dX12_worthOf_25 : decode cX12_worthOf 25 = .ok (.iload 4, 2) := by decide +kernel
theorem dX12_worthOf_27 : decode cX12_worthOf 27 = .ok (.iload 5, 2) := by decide +kernel
theorem dX12_worthOf_29 : decode cX12_worthOf 29 = .ok (.invokestatic 327, 3) := by decide +kernel
theorem dX12_worthOf_32 : decode cX12_worthOf 32 = .ok (.ineg, 1) := by decide +kernel
theorem dX12_worthOf_33 : decode cX12_worthOf 33 = .ok (.ireturn, 1) := by decide +kernel
theorem dX12_worthOf_34 : decode cX12_worthOf 34 = .ok (.iload_n 2, 1) := by decide +kernel
theorem dX12_worthOf_35 : decode cX12_worthOf 35 = .ok (.iconst 4, 1) := by decide +kernel
theorem dX12_worthOf_36 : decode cX12_worthOf 36 = .ok (.if_icmp .ne 25, 3) := by decide +kernel
theorem dX12_worthOf_39 : decode cX12_worthOf 39 = .ok (.aload_n 0, 1) := by decide +kernel
theorem dX12_worthOf_40 : decode cX12_worthOf 40 = .ok (.iload_n 1, 1) := by decide +kernel
theorem dX12_worthOf_41 : decode cX12_worthOf 41 = .ok (.iload_n 3, 1) := by decide +kernel
theorem dX12_worthOf_42 : decode cX12_worthOf 42 = .ok (.invokevirtual 329, 3) := by decide +kernel
theorem dX12_worthOf_45 : decode cX12_worthOf 45 = .ok (.aload_n 0, 1) := by decide +kernel
theorem dX12_worthOf_46 : decode cX12_worthOf 46 = .ok (.iload_n 1, 1) := by decide +kernel
theorem dX12_worthOf_47 : decode cX12_worthOf 47 = .ok (.invokevirtual 333, 3) := by decide +kernel
theorem dX12_worthOf_50 : decode cX12_worthOf 50 = .ok (.ineg, 1) := by decide +kernel
theorem dX12_worthOf_51 : decode cX12_worthOf 51 = .ok (.istore 6, 2) := by decide +kernel
theorem dX12_worthOf_53 : decode cX12_worthOf 53 = .ok (.aload_n 0, 1) := by decide +kernel
theorem dX12_worthOf_54 : decode cX12_worthOf 54 = .ok (.iload_n 3, 1) := by decide +kernel
theorem dX12_worthOf_55 : decode cX12_worthOf 55 = .ok (.invokevirtual 336, 3) := by decide +kernel
theorem dX12_worthOf_58 : decode cX12_worthOf 58 = .ok (.iload 6, 2) := by decide +kernel
theorem dX12_worthOf_60 : decode cX12_worthOf 60 = .ok (.ireturn, 1) := by decide +kernel
theorem dX12_worthOf_61 : decode cX12_worthOf 61 = .ok (.iload_n 2, 1) := by decide +kernel
theorem dX12_worthOf_62 : decode cX12_worthOf 62 = .ok (.iconst 3, 1) := by decide +kernel
theorem dX12_worthOf_63 : decode cX12_worthOf 63 = .ok (.if_icmp .eq 11, 3) := by decide +kernel
theorem dX12_worthOf_66 : decode cX12_worthOf 66 = .ok (.aload_n 0, 1) := by decide +kernel
theorem dX12_worthOf_67 : decode cX12_worthOf 67 = .ok (.getfield 64, 3) := by decide +kernel
theorem dX12_worthOf_70 : decode cX12_worthOf 70 = .ok (.iconst (-1), 1) := by decide +kernel
theorem dX12_worthOf_71 : decode cX12_worthOf 71 = .ok (.if_icmp .ne 6, 3) := by decide +kernel
theorem dX12_worthOf_74 : decode cX12_worthOf 74 = .ok (.iload_n 3, 1) := by decide +kernel
theorem dX12_worthOf_75 : decode cX12_worthOf 75 = .ok (.ineg, 1) := by decide +kernel
theorem dX12_worthOf_76 : decode cX12_worthOf 76 = .ok (.ireturn, 1) := by decide +kernel
theorem dX12_worthOf_77 : decode cX12_worthOf 77 = .ok (.aload_n 0, 1) := by decide +kernel
theorem dX12_worthOf_78 : decode cX12_worthOf 78 = .ok (.getfield 20, 3) := by decide +kernel
theorem dX12_worthOf_81 : decode cX12_worthOf 81 = .ok (.bipush 112, 2) := by decide +kernel
theorem dX12_worthOf_83 : decode cX12_worthOf 83 = .ok (.iload_n 3, 1) := by decide +kernel
theorem dX12_worthOf_84 : decode cX12_worthOf 84 = .ok (.iastore, 1) := by decide +kernel
theorem dX12_worthOf_85 : decode cX12_worthOf 85 = .ok (.aload_n 0, 1) := by decide +kernel
theorem dX12_worthOf_86 : decode cX12_worthOf 86 = .ok (.getfield 20, 3) := by decide +kernel
theorem dX12_worthOf_89 : decode cX12_worthOf 89 = .ok (.bipush 108, 2) := by decide +kernel
theorem dX12_worthOf_91 : decode cX12_worthOf 91 = .ok (.aload_n 0, 1) := by decide +kernel
theorem dX12_worthOf_92 : decode cX12_worthOf 92 = .ok (.iload_n 1, 1) := by decide +kernel
theorem dX12_worthOf_93 : decode cX12_worthOf 93 = .ok (.invokevirtual 312, 3) := by decide +kernel
theorem dX12_worthOf_96 : decode cX12_worthOf 96 = .ok (.iastore, 1) := by decide +kernel
theorem dX12_worthOf_97 : decode cX12_worthOf 97 = .ok (.aload_n 0, 1) := by decide +kernel
theorem dX12_worthOf_98 : decode cX12_worthOf 98 = .ok (.getfield 20, 3) := by decide +kernel
theorem dX12_worthOf_101 : decode cX12_worthOf 101 = .ok (.bipush 98, 2) := by decide +kernel
theorem dX12_worthOf_103 : decode cX12_worthOf 103 = .ok (.iload 4, 2) := by decide +kernel
theorem dX12_worthOf_105 : decode cX12_worthOf 105 = .ok (.iastore, 1) := by decide +kernel
theorem dX12_worthOf_106 : decode cX12_worthOf 106 = .ok (.aload_n 0, 1) := by decide +kernel
theorem dX12_worthOf_107 : decode cX12_worthOf 107 = .ok (.getfield 20, 3) := by decide +kernel
theorem dX12_worthOf_110 : decode cX12_worthOf 110 = .ok (.bipush 97, 2) := by decide +kernel
theorem dX12_worthOf_112 : decode cX12_worthOf 112 = .ok (.iload 5, 2) := by decide +kernel
theorem dX12_worthOf_114 : decode cX12_worthOf 114 = .ok (.iastore, 1) := by decide +kernel
theorem dX12_worthOf_115 : decode cX12_worthOf 115 = .ok (.aload_n 0, 1) := by decide +kernel
theorem dX12_worthOf_116 : decode cX12_worthOf 116 = .ok (.getfield 20, 3) := by decide +kernel
theorem dX12_worthOf_119 : decode cX12_worthOf 119 = .ok (.bipush 110, 2) := by decide +kernel
theorem dX12_worthOf_121 : decode cX12_worthOf 121 = .ok (.aload_n 0, 1) := by decide +kernel
theorem dX12_worthOf_122 : decode cX12_worthOf 122 = .ok (.invokevirtual 339, 3) := by decide +kernel
theorem dX12_worthOf_125 : decode cX12_worthOf 125 = .ok (.iastore, 1) := by decide +kernel
theorem dX12_worthOf_126 : decode cX12_worthOf 126 = .ok (.aload_n 0, 1) := by decide +kernel
theorem dX12_worthOf_127 : decode cX12_worthOf 127 = .ok (.aload_n 0, 1) := by decide +kernel
theorem dX12_worthOf_128 : decode cX12_worthOf 128 = .ok (.getfield 13, 3) := by decide +kernel
theorem dX12_worthOf_131 : decode cX12_worthOf 131 = .ok (.sipush 160, 3) := by decide +kernel
theorem dX12_worthOf_134 : decode cX12_worthOf 134 = .ok (.aload_n 0, 1) := by decide +kernel
theorem dX12_worthOf_135 : decode cX12_worthOf 135 = .ok (.getfield 64, 3) := by decide +kernel
theorem dX12_worthOf_138 : decode cX12_worthOf 138 = .ok (.imul, 1) := by decide +kernel
theorem dX12_worthOf_139 : decode cX12_worthOf 139 = .ok (.aload_n 0, 1) := by decide +kernel
theorem dX12_worthOf_140 : decode cX12_worthOf 140 = .ok (.getfield 16, 3) := by decide +kernel
theorem dX12_worthOf_143 : decode cX12_worthOf 143 = .ok (.aload_n 0, 1) := by decide +kernel
theorem dX12_worthOf_144 : decode cX12_worthOf 144 = .ok (.getfield 64, 3) := by decide +kernel
theorem dX12_worthOf_147 : decode cX12_worthOf 147 = .ok (.iaload, 1) := by decide +kernel
theorem dX12_worthOf_148 : decode cX12_worthOf 148 = .ok (.invokevirtual 276, 3) := by decide +kernel
theorem dX12_worthOf_151 : decode cX12_worthOf 151 = .ok (.aload_n 0, 1) := by decide +kernel
theorem dX12_worthOf_152 : decode cX12_worthOf 152 = .ok (.getfield 219, 3) := by decide +kernel
theorem dX12_worthOf_155 : decode cX12_worthOf 155 = .ok (.ireturn, 1) := by decide +kernel
theorem dX12_choice_0 : decode cX12_choice 0 = .ok (.iconst (-1), 1) := by decide +kernel
theorem dX12_choice_1 : decode cX12_choice 1 = .ok (.istore_n 3, 1) := by decide +kernel
theorem dX12_choice_2 : decode cX12_choice 2 = .ok (.iconst 0, 1) := by decide +kernel
theorem dX12_choice_3 : decode cX12_choice 3 = .ok (.istore 4, 2) := by decide +kernel
theorem dX12_choice_5 : decode cX12_choice 5 = .ok (.iconst 0, 1) := by decide +kernel

theorem dX11_init_0 : decode cX11_init 0 = .ok (.aload_n 0, 1) := by decide +kernel
theorem dX11_init_1 : decode cX11_init 1 = .ok (.invokespecial 1, 3) := by decide +kernel
theorem dX11_init_4 : decode cX11_init 4 = .ok (.aload_n 0, 1) := by decide +kernel
theorem dX11_init_5 : decode cX11_init 5 = .ok (.new 7, 3) := by decide +kernel
theorem dX11_init_8 : decode cX11_init 8 = .ok (.dup, 1) := by decide +kernel
theorem dX11_init_9 : decode cX11_init 9 = .ok (.invokespecial 9, 3) := by decide +kernel
theorem dX11_init_12 : decode cX11_init 12 = .ok (.putfield 10, 3) := by decide +kernel
theorem dX11_init_15 : decode cX11_init 15 = .ok (.aload_n 0, 1) := by decide +kernel
theorem dX11_init_16 : decode cX11_init 16 = .ok (.new 16, 3) := by decide +kernel
theorem dX11_init_19 : decode cX11_init 19 = .ok (.dup, 1) := by decide +kernel
theorem dX11_init_20 : decode cX11_init 20 = .ok (.aload_n 0, 1) := by decide +kernel
theorem dX11_init_21 : decode cX11_init 21 = .ok (.getfield 10, 3) := by decide +kernel
theorem dX11_init_24 : decode cX11_init 24 = .ok (.invokespecial 18, 3) := by decide +kernel
theorem dX11_init_27 : decode cX11_init 27 = .ok (.putfield 21, 3) := by decide +kernel
theorem dX11_init_30 : decode cX11_init 30 = .ok (.aload_n 0, 1) := by decide +kernel
theorem dX11_init_31 : decode cX11_init 31 = .ok (.new 25, 3) := by decide +kernel
theorem dX11_init_34 : decode cX11_init 34 = .ok (.dup, 1) := by decide +kernel
theorem dX11_init_35 : decode cX11_init 35 = .ok (.aload_n 0, 1) := by decide +kernel
theorem dX11_init_36 : decode cX11_init 36 = .ok (.getfield 10, 3) := by decide +kernel
theorem dX11_init_39 : decode cX11_init 39 = .ok (.invokespecial 27, 3) := by decide +kernel
theorem dX11_init_42 : decode cX11_init 42 = .ok (.putfield 28, 3) := by decide +kernel
theorem dX11_init_45 : decode cX11_init 45 = .ok (.aload_n 0, 1) := by decide +kernel
theorem dX11_init_46 : decode cX11_init 46 = .ok (.new 32, 3) := by decide +kernel
theorem dX11_init_49 : decode cX11_init 49 = .ok (.dup, 1) := by decide +kernel
theorem dX11_init_50 : decode cX11_init 50 = .ok (.invokespecial 34, 3) := by decide +kernel
theorem dX11_init_53 : decode cX11_init 53 = .ok (.putfield 35, 3) := by decide +kernel
theorem dX11_init_56 : decode cX11_init 56 = .ok (.aload_n 0, 1) := by decide +kernel
theorem dX11_init_57 : decode cX11_init 57 = .ok (.iconst 4, 1) := by decide +kernel
theorem dX11_init_58 : decode cX11_init 58 = .ok (.anewarray 39, 3) := by decide +kernel
theorem dX11_init_61 : decode cX11_init 61 = .ok (.putfield 41, 3) := by decide +kernel
theorem dX11_init_64 : decode cX11_init 64 = .ok (.iconst 0, 1) := by decide +kernel
theorem dX11_init_65 : decode cX11_init 65 = .ok (.istore_n 1, 1) := by decide +kernel
theorem dX11_init_66 : decode cX11_init 66 = .ok (.iload_n 1, 1) := by decide +kernel
theorem dX11_init_67 : decode cX11_init 67 = .ok (.iconst 4, 1) := by decide +kernel
theorem dX11_init_68 : decode cX11_init 68 = .ok (.if_icmp .ge 22, 3) := by decide +kernel
theorem dX11_init_71 : decode cX11_init 71 = .ok (.aload_n 0, 1) := by decide +kernel
theorem dX11_init_72 : decode cX11_init 72 = .ok (.getfield 41, 3) := by decide +kernel
theorem dX11_init_75 : decode cX11_init 75 = .ok (.iload_n 1, 1) := by decide +kernel
theorem dX11_init_76 : decode cX11_init 76 = .ok (.new 39, 3) := by decide +kernel
theorem dX11_init_79 : decode cX11_init 79 = .ok (.dup, 1) := by decide +kernel
theorem dX11_init_80 : decode cX11_init 80 = .ok (.invokespecial 45, 3) := by decide +kernel
theorem dX11_init_83 : decode cX11_init 83 = .ok (.aastore, 1) := by decide +kernel
theorem dX11_init_84 : decode cX11_init 84 = .ok (.iinc 1 1, 3) := by decide +kernel
theorem dX11_init_87 : decode cX11_init 87 = .ok (.goto (-21), 3) := by decide +kernel
theorem dX11_init_90 : decode cX11_init 90 = .ok (.aload_n 0, 1) := by decide +kernel
theorem dX11_init_91 : decode cX11_init 91 = .ok (.iconst (-1), 1) := by decide +kernel
theorem dX11_init_92 : decode cX11_init 92 = .ok (.putfield 46, 3) := by decide +kernel
theorem dX11_init_95 : decode cX11_init 95 = .ok (.aload_n 0, 1) := by decide +kernel
theorem dX11_init_96 : decode cX11_init 96 = .ok (.new 50, 3) := by decide +kernel
theorem dX11_init_99 : decode cX11_init 99 = .ok (.dup, 1) := by decide +kernel
theorem dX11_init_100 : decode cX11_init 100 = .ok (.invokespecial 52, 3) := by decide +kernel
theorem dX11_init_103 : decode cX11_init 103 = .ok (.putfield 53, 3) := by decide +kernel
theorem dX11_init_106 : decode cX11_init 106 = .ok (.aload_n 0, 1) := by decide +kernel
theorem dX11_init_107 : decode cX11_init 107 = .ok (.new 50, 3) := by decide +kernel
theorem dX11_init_110 : decode cX11_init 110 = .ok (.dup, 1) := by decide +kernel
theorem dX11_init_111 : decode cX11_init 111 = .ok (.invokespecial 52, 3) := by decide +kernel
theorem dX11_init_114 : decode cX11_init 114 = .ok (.putfield 57, 3) := by decide +kernel
theorem dX11_init_117 : decode cX11_init 117 = .ok (.aload_n 0, 1) := by decide +kernel
theorem dX11_init_118 : decode cX11_init 118 = .ok (.new 50, 3) := by decide +kernel
theorem dX11_init_121 : decode cX11_init 121 = .ok (.dup, 1) := by decide +kernel
theorem dX11_init_122 : decode cX11_init 122 = .ok (.invokespecial 52, 3) := by decide +kernel
theorem dX11_init_125 : decode cX11_init 125 = .ok (.putfield 60, 3) := by decide +kernel
theorem dX11_init_128 : decode cX11_init 128 = .ok (.aload_n 0, 1) := by decide +kernel
theorem dX11_init_129 : decode cX11_init 129 = .ok (.new 63, 3) := by decide +kernel
theorem dX11_init_132 : decode cX11_init 132 = .ok (.dup, 1) := by decide +kernel
theorem dX11_init_133 : decode cX11_init 133 = .ok (.invokespecial 65, 3) := by decide +kernel
theorem dX11_init_136 : decode cX11_init 136 = .ok (.putfield 66, 3) := by decide +kernel
theorem dX11_init_139 : decode cX11_init 139 = .ok (.aload_n 0, 1) := by decide +kernel
theorem dX11_init_140 : decode cX11_init 140 = .ok (.new 70, 3) := by decide +kernel
theorem dX11_init_143 : decode cX11_init 143 = .ok (.dup, 1) := by decide +kernel
theorem dX11_init_144 : decode cX11_init 144 = .ok (.invokespecial 72, 3) := by decide +kernel
theorem dX11_init_147 : decode cX11_init 147 = .ok (.putfield 73, 3) := by decide +kernel
theorem dX11_init_150 : decode cX11_init 150 = .ok (.aload_n 0, 1) := by decide +kernel
theorem dX11_init_151 : decode cX11_init 151 = .ok (.new 77, 3) := by decide +kernel
theorem dX11_init_154 : decode cX11_init 154 = .ok (.dup, 1) := by decide +kernel
theorem dX11_init_155 : decode cX11_init 155 = .ok (.invokespecial 79, 3) := by decide +kernel
theorem dX11_init_158 : decode cX11_init 158 = .ok (.putfield 80, 3) := by decide +kernel
theorem dX11_init_161 : decode cX11_init 161 = .ok (.aload_n 0, 1) := by decide +kernel
theorem dX11_init_162 : decode cX11_init 162 = .ok (.new 84, 3) := by decide +kernel
theorem dX11_init_165 : decode cX11_init 165 = .ok (.dup, 1) := by decide +kernel
theorem dX11_init_166 : decode cX11_init 166 = .ok (.aload_n 0, 1) := by decide +kernel
theorem dX11_init_167 : decode cX11_init 167 = .ok (.getfield 35, 3) := by decide +kernel
theorem dX11_init_170 : decode cX11_init 170 = .ok (.aload_n 0, 1) := by decide +kernel
theorem dX11_init_171 : decode cX11_init 171 = .ok (.getfield 53, 3) := by decide +kernel
theorem dX11_init_174 : decode cX11_init 174 = .ok (.invokespecial 86, 3) := by decide +kernel
theorem dX11_init_177 : decode cX11_init 177 = .ok (.putfield 89, 3) := by decide +kernel
theorem dX11_init_180 : decode cX11_init 180 = .ok (.aload_n 0, 1) := by decide +kernel
theorem dX11_init_181 : decode cX11_init 181 = .ok (.new 93, 3) := by decide +kernel
theorem dX11_init_184 : decode cX11_init 184 = .ok (.dup, 1) := by decide +kernel
theorem dX11_init_185 : decode cX11_init 185 = .ok (.aload_n 0, 1) := by decide +kernel
theorem dX11_init_186 : decode cX11_init 186 = .ok (.getfield 35, 3) := by decide +kernel
theorem dX11_init_189 : decode cX11_init 189 = .ok (.aload_n 0, 1) := by decide +kernel
theorem dX11_init_190 : decode cX11_init 190 = .ok (.getfield 53, 3) := by decide +kernel
theorem dX11_init_193 : decode cX11_init 193 = .ok (.invokespecial 95, 3) := by decide +kernel
theorem dX11_init_196 : decode cX11_init 196 = .ok (.putfield 96, 3) := by decide +kernel
theorem dX11_init_199 : decode cX11_init 199 = .ok (.aload_n 0, 1) := by decide +kernel
theorem dX11_init_200 : decode cX11_init 200 = .ok (.iconst 5, 1) := by decide +kernel
theorem dX11_init_201 : decode cX11_init 201 = .ok (.newarray .int, 2) := by decide +kernel
theorem dX11_init_203 : decode cX11_init 203 = .ok (.putfield 100, 3) := by decide +kernel
theorem dX11_init_206 : decode cX11_init 206 = .ok (.return_, 1) := by decide +kernel
theorem dX11_feed_0 : decode cX11_feed 0 = .ok (.iload_n 1, 1) := by decide +kernel
theorem dX11_feed_1 : decode cX11_feed 1 = .ok (.invokestatic 104, 3) := by decide +kernel
theorem dX11_feed_4 : decode cX11_feed 4 = .ok (.iload_n 2, 1) := by decide +kernel
theorem dX11_feed_5 : decode cX11_feed 5 = .ok (.invokestatic 104, 3) := by decide +kernel
theorem dX11_feed_8 : decode cX11_feed 8 = .ok (.iadd, 1) := by decide +kernel
theorem dX11_feed_9 : decode cX11_feed 9 = .ok (.iload_n 3, 1) := by decide +kernel
theorem dX11_feed_10 : decode cX11_feed 10 = .ok (.invokestatic 104, 3) := by decide +kernel
theorem dX11_feed_13 : decode cX11_feed 13 = .ok (.iadd, 1) := by decide +kernel
theorem dX11_feed_14 : decode cX11_feed 14 = .ok (.iload 4, 2) := by decide +kernel
theorem dX11_feed_16 : decode cX11_feed 16 = .ok (.invokestatic 104, 3) := by decide +kernel
theorem dX11_feed_19 : decode cX11_feed 19 = .ok (.iadd, 1) := by decide +kernel
theorem dX11_feed_20 : decode cX11_feed 20 = .ok (.iload 5, 2) := by decide +kernel
theorem dX11_feed_22 : decode cX11_feed 22 = .ok (.invokestatic 104, 3) := by decide +kernel
theorem dX11_feed_25 : decode cX11_feed 25 = .ok (.iadd, 1) := by decide +kernel
theorem dX11_feed_26 : decode cX11_feed 26 = .ok (.istore 6, 2) := by decide +kernel
theorem dX11_feed_28 : decode cX11_feed 28 = .ok (.aload_n 0, 1) := by decide +kernel
theorem dX11_feed_29 : decode cX11_feed 29 = .ok (.getfield 10, 3) := by decide +kernel
theorem dX11_feed_32 : decode cX11_feed 32 = .ok (.getfield 108, 3) := by decide +kernel
theorem dX11_feed_35 : decode cX11_feed 35 = .ok (.iload 6, 2) := by decide +kernel
theorem dX11_feed_37 : decode cX11_feed 37 = .ok (.iadd, 1) := by decide +kernel
theorem dX11_feed_38 : decode cX11_feed 38 = .ok (.sipush 160, 3) := by decide +kernel
theorem dX11_feed_41 : decode cX11_feed 41 = .ok (.if_icmp .le 5, 3) := by decide +kernel
theorem dX11_feed_44 : decode cX11_feed 44 = .ok (.iconst (-1), 1) := by decide +kernel
theorem dX11_feed_45 : decode cX11_feed 45 = .ok (.ireturn, 1) := by decide +kernel
theorem dX11_feed_46 : decode cX11_feed 46 = .ok (.aload_n 0, 1) := by decide +kernel
theorem dX11_feed_47 : decode cX11_feed 47 = .ok (.getfield 10, 3) := by decide +kernel
theorem dX11_feed_50 : decode cX11_feed 50 = .ok (.iload_n 1, 1) := by decide +kernel
theorem dX11_feed_51 : decode cX11_feed 51 = .ok (.invokevirtual 111, 3) := by decide +kernel
theorem dX11_feed_54 : decode cX11_feed 54 = .ok (.aload_n 0, 1) := by decide +kernel
theorem dX11_feed_55 : decode cX11_feed 55 = .ok (.getfield 10, 3) := by decide +kernel
theorem dX11_feed_58 : decode cX11_feed 58 = .ok (.iload_n 2, 1) := by decide +kernel
theorem dX11_feed_59 : decode cX11_feed 59 = .ok (.invokevirtual 111, 3) := by decide +kernel
theorem dX11_feed_62 : decode cX11_feed 62 = .ok (.aload_n 0, 1) := by decide +kernel
theorem dX11_feed_63 : decode cX11_feed 63 = .ok (.getfield 10, 3) := by decide +kernel
theorem dX11_feed_66 : decode cX11_feed 66 = .ok (.iload_n 3, 1) := by decide +kernel
theorem dX11_feed_67 : decode cX11_feed 67 = .ok (.invokevirtual 111, 3) := by decide +kernel
theorem dX11_feed_70 : decode cX11_feed 70 = .ok (.aload_n 0, 1) := by decide +kernel
theorem dX11_feed_71 : decode cX11_feed 71 = .ok (.getfield 10, 3) := by decide +kernel
theorem dX11_feed_74 : decode cX11_feed 74 = .ok (.iload 4, 2) := by decide +kernel
theorem dX11_feed_76 : decode cX11_feed 76 = .ok (.invokevirtual 111, 3) := by decide +kernel
theorem dX11_feed_79 : decode cX11_feed 79 = .ok (.aload_n 0, 1) := by decide +kernel
theorem dX11_feed_80 : decode cX11_feed 80 = .ok (.getfield 10, 3) := by decide +kernel
theorem dX11_feed_83 : decode cX11_feed 83 = .ok (.iload 5, 2) := by decide +kernel
theorem dX11_feed_85 : decode cX11_feed 85 = .ok (.invokevirtual 111, 3) := by decide +kernel
theorem dX11_feed_88 : decode cX11_feed 88 = .ok (.aload_n 0, 1) := by decide +kernel
theorem dX11_feed_89 : decode cX11_feed 89 = .ok (.getfield 10, 3) := by decide +kernel
theorem dX11_feed_92 : decode cX11_feed 92 = .ok (.getfield 108, 3) := by decide +kernel
theorem dX11_feed_95 : decode cX11_feed 95 = .ok (.ireturn, 1) := by decide +kernel
theorem dX11_end_0 : decode cX11_end 0 = .ok (.iload_n 1, 1) := by decide +kernel
theorem dX11_end_1 : decode cX11_end 1 = .ok (.ifCond .lt 14, 3) := by decide +kernel
theorem dX11_end_4 : decode cX11_end 4 = .ok (.iload_n 1, 1) := by decide +kernel
theorem dX11_end_5 : decode cX11_end 5 = .ok (.aload_n 0, 1) := by decide +kernel
theorem dX11_end_6 : decode cX11_end 6 = .ok (.getfield 10, 3) := by decide +kernel
theorem dX11_end_9 : decode cX11_end 9 = .ok (.getfield 108, 3) := by decide +kernel
theorem dX11_end_12 : decode cX11_end 12 = .ok (.if_icmp .le 5, 3) := by decide +kernel
theorem dX11_end_15 : decode cX11_end 15 = .ok (.iconst 0, 1) := by decide +kernel
theorem dX11_end_16 : decode cX11_end 16 = .ok (.ireturn, 1) := by decide +kernel
theorem dX11_end_17 : decode cX11_end 17 = .ok (.aload_n 0, 1) := by decide +kernel
theorem dX11_end_18 : decode cX11_end 18 = .ok (.getfield 10, 3) := by decide +kernel
theorem dX11_end_21 : decode cX11_end 21 = .ok (.iload_n 1, 1) := by decide +kernel
theorem dX11_end_22 : decode cX11_end 22 = .ok (.putfield 108, 3) := by decide +kernel
theorem dX11_end_25 : decode cX11_end 25 = .ok (.iconst 1, 1) := by decide +kernel
theorem dX11_end_26 : decode cX11_end 26 = .ok (.ireturn, 1) := by decide +kernel
theorem dX11_fault_0 : decode cX11_fault 0 = .ok (.iload_n 1, 1) := by decide +kernel
theorem dX11_fault_1 : decode cX11_fault 1 = .ok (.ifCond .ne 11, 3) := by decide +kernel
theorem dX11_fault_4 : decode cX11_fault 4 = .ok (.aload_n 0, 1) := by decide +kernel
theorem dX11_fault_5 : decode cX11_fault 5 = .ok (.getfield 21, 3) := by decide +kernel
theorem dX11_fault_8 : decode cX11_fault 8 = .ok (.invokevirtual 115, 3) := by decide +kernel
theorem dX11_fault_11 : decode cX11_fault 11 = .ok (.ireturn, 1) := by decide +kernel
theorem dX11_fault_12 : decode cX11_fault 12 = .ok (.iload_n 1, 1) := by decide +kernel
theorem dX11_fault_13 : decode cX11_fault 13 = .ok (.iconst 1, 1) := by decide +kernel
theorem dX11_fault_14 : decode cX11_fault 14 = .ok (.if_icmp .ne 11, 3) := by decide +kernel
theorem dX11_fault_17 : decode cX11_fault 17 = .ok (.aload_n 0, 1) := by decide +kernel
theorem dX11_fault_18 : decode cX11_fault 18 = .ok (.getfield 28, 3) := by decide +kernel
theorem dX11_fault_21 : decode cX11_fault 21 = .ok (.invokevirtual 119, 3) := by decide +kernel
theorem dX11_fault_24 : decode cX11_fault 24 = .ok (.ireturn, 1) := by decide +kernel
theorem dX11_fault_25 : decode cX11_fault 25 = .ok (.bipush (-2), 2) := by decide +kernel
theorem dX11_fault_27 : decode cX11_fault 27 = .ok (.ireturn, 1) := by decide +kernel
theorem dX11_text_0 : decode cX11_text 0 = .ok (.iload_n 1, 1) := by decide +kernel
theorem dX11_text_1 : decode cX11_text 1 = .ok (.ifCond .ne 8, 3) := by decide +kernel
theorem dX11_text_4 : decode cX11_text 4 = .ok (.aload_n 0, 1) := by decide +kernel
theorem dX11_text_5 : decode cX11_text 5 = .ok (.invokevirtual 120, 3) := by decide +kernel
theorem dX11_text_8 : decode cX11_text 8 = .ok (.ireturn, 1) := by decide +kernel
theorem dX11_text_9 : decode cX11_text 9 = .ok (.iload_n 1, 1) := by decide +kernel
theorem dX11_text_10 : decode cX11_text 10 = .ok (.iconst 1, 1) := by decide +kernel
theorem dX11_text_11 : decode cX11_text 11 = .ok (.if_icmp .ne 8, 3) := by decide +kernel
theorem dX11_text_14 : decode cX11_text 14 = .ok (.aload_n 0, 1) := by decide +kernel
theorem dX11_text_15 : decode cX11_text 15 = .ok (.invokevirtual 123, 3) := by decide +kernel
theorem dX11_text_18 : decode cX11_text 18 = .ok (.ireturn, 1) := by decide +kernel
theorem dX11_text_19 : decode cX11_text 19 = .ok (.iconst (-1), 1) := by decide +kernel
theorem dX11_text_20 : decode cX11_text 20 = .ok (.ireturn, 1) := by decide +kernel
theorem dX11_beginKerb_0 : decode cX11_beginKerb 0 = .ok (.aload_n 0, 1) := by decide +kernel
theorem dX11_beginKerb_1 : decode cX11_beginKerb 1 = .ok (.getfield 21, 3) := by decide +kernel
theorem dX11_beginKerb_4 : decode cX11_beginKerb 4 = .ok (.invokevirtual 115, 3) := by decide +kernel
theorem dX11_beginKerb_7 : decode cX11_beginKerb 7 = .ok (.iconst (-1), 1) := by decide +kernel
theorem dX11_beginKerb_8 : decode cX11_beginKerb 8 = .ok (.if_icmp .eq 5, 3) := by decide +kernel
theorem dX11_beginKerb_11 : decode cX11_beginKerb 11 = .ok (.iconst (-1), 1) := by decide +kernel
theorem dX11_beginKerb_12 : decode cX11_beginKerb 12 = .ok (.ireturn, 1) := by decide +kernel
theorem dX11_beginKerb_13 : decode cX11_beginKerb 13 = .ok (.aload_n 0, 1) := by decide +kernel
theorem dX11_beginKerb_14 : decode cX11_beginKerb 14 = .ok (.getfield 35, 3) := by decide +kernel
theorem dX11_beginKerb_17 : decode cX11_beginKerb 17 = .ok (.aload_n 0, 1) := by decide +kernel
theorem dX11_beginKerb_18 : decode cX11_beginKerb 18 = .ok (.getfield 21, 3) := by decide +kernel
theorem dX11_beginKerb_21 : decode cX11_beginKerb 21 = .ok (.getfield 126, 3) := by decide +kernel
theorem dX11_beginKerb_24 : decode cX11_beginKerb 24 = .ok (.invokevirtual 129, 3) := by decide +kernel
theorem dX11_beginKerb_27 : decode cX11_beginKerb 27 = .ok (.aload_n 0, 1) := by decide +kernel
theorem dX11_beginKerb_28 : decode cX11_beginKerb 28 = .ok (.getfield 53, 3) := by decide +kernel
theorem dX11_beginKerb_31 : decode cX11_beginKerb 31 = .ok (.aload_n 0, 1) := by decide +kernel
theorem dX11_beginKerb_32 : decode cX11_beginKerb 32 = .ok (.getfield 57, 3) := by decide +kernel
theorem dX11_beginKerb_35 : decode cX11_beginKerb 35 = .ok (.invokevirtual 133, 3) := by decide +kernel
theorem dX11_beginKerb_38 : decode cX11_beginKerb 38 = .ok (.aload_n 0, 1) := by decide +kernel
theorem dX11_beginKerb_39 : decode cX11_beginKerb 39 = .ok (.getfield 66, 3) := by decide +kernel
theorem dX11_beginKerb_42 : decode cX11_beginKerb 42 = .ok (.invokevirtual 136, 3) := by decide +kernel
theorem dX11_beginKerb_45 : decode cX11_beginKerb 45 = .ok (.aload_n 0, 1) := by decide +kernel
theorem dX11_beginKerb_46 : decode cX11_beginKerb 46 = .ok (.iconst 0, 1) := by decide +kernel
theorem dX11_beginKerb_47 : decode cX11_beginKerb 47 = .ok (.putfield 139, 3) := by decide +kernel
theorem dX11_beginKerb_50 : decode cX11_beginKerb 50 = .ok (.aload_n 0, 1) := by decide +kernel
theorem dX11_beginKerb_51 : decode cX11_beginKerb 51 = .ok (.iconst (-1), 1) := by decide +kernel
theorem dX11_beginKerb_52 : decode cX11_beginKerb 52 = .ok (.putfield 46, 3) := by decide +kernel
theorem dX11_beginKerb_55 : decode cX11_beginKerb 55 = .ok (.aload_n 0, 1) := by decide +kernel
theorem dX11_beginKerb_56 : decode cX11_beginKerb 56 = .ok (.getfield 10, 3) := by decide +kernel
theorem dX11_beginKerb_59 : decode cX11_beginKerb 59 = .ok (.iconst 0, 1) := by decide +kernel
theorem dX11_beginKerb_60 : decode cX11_beginKerb 60 = .ok (.putfield 108, 3) := by decide +kernel
theorem dX11_beginKerb_63 : decode cX11_beginKerb 63 = .ok (.aload_n 0, 1) := by decide +kernel
theorem dX11_beginKerb_64 : decode cX11_beginKerb 64 = .ok (.getfield 35, 3) := by decide +kernel
theorem dX11_beginKerb_67 : decode cX11_beginKerb 67 = .ok (.getfield 143, 3) := by decide +kernel
theorem dX11_beginKerb_70 : decode cX11_beginKerb 70 = .ok (.ireturn, 1) := by decide +kernel
theorem dX11_addRule_0 : decode cX11_addRule 0 = .ok (.aload_n 0, 1) := by decide +kernel
theorem dX11_addRule_1 : decode cX11_addRule 1 = .ok (.getfield 146, 3) := by decide +kernel
theorem dX11_addRule_4 : decode cX11_addRule 4 = .ok (.iconst 4, 1) := by decide +kernel
theorem dX11_addRule_5 : decode cX11_addRule 5 = .ok (.if_icmp .ge 14, 3) := by decide +kernel
theorem dX11_addRule_8 : decode cX11_addRule 8 = .ok (.aload_n 0, 1) := by decide +kernel
theorem dX11_addRule_9 : decode cX11_addRule 9 = .ok (.getfield 28, 3) := by decide +kernel
theorem dX11_addRule_12 : decode cX11_addRule 12 = .ok (.invokevirtual 119, 3) := by decide +kernel
theorem dX11_addRule_15 : decode cX11_addRule 15 = .ok (.iconst (-1), 1) := by decide +kernel
theorem dX11_addRule_16 : decode cX11_addRule 16 = .ok (.if_icmp .eq 5, 3) := by decide +kernel
theorem dX11_addRule_19 : decode cX11_addRule 19 = .ok (.iconst (-1), 1) := by decide +kernel
theorem dX11_addRule_20 : decode cX11_addRule 20 = .ok (.ireturn, 1) := by decide +kernel
theorem dX11_addRule_21 : decode cX11_addRule 21 = .ok (.aload_n 0, 1) := by decide +kernel
theorem dX11_addRule_22 : decode cX11_addRule 22 = .ok (.getfield 41, 3) := by decide +kernel
theorem dX11_addRule_25 : decode cX11_addRule 25 = .ok (.aload_n 0, 1) := by decide +kernel
theorem dX11_addRule_26 : decode cX11_addRule 26 = .ok (.getfield 146, 3) := by decide +kernel
theorem dX11_addRule_29 : decode cX11_addRule 29 = .ok (.aaload, 1) := by decide +kernel
theorem dX11_addRule_30 : decode cX11_addRule 30 = .ok (.aload_n 0, 1) := by decide +kernel
theorem dX11_addRule_31 : decode cX11_addRule 31 = .ok (.getfield 28, 3) := by decide +kernel
theorem dX11_addRule_34 : decode cX11_addRule 34 = .ok (.getfield 149, 3) := by decide +kernel
theorem dX11_addRule_37 : decode cX11_addRule 37 = .ok (.invokevirtual 152, 3) := by decide +kernel
theorem dX11_addRule_40 : decode cX11_addRule 40 = .ok (.aload_n 0, 1) := by decide +kernel
theorem dX11_addRule_41 : decode cX11_addRule 41 = .ok (.dup, 1) := by decide +kernel
theorem dX11_addRule_42 : decode cX11_addRule 42 = .ok (.getfield 146, 3) := by decide +kernel
theorem dX11_addRule_45 : decode cX11_addRule 45 = .ok (.iconst 1, 1) := by decide +kernel
theorem dX11_addRule_46 : decode cX11_addRule 46 = .ok (.iadd, 1) := by decide +kernel
theorem dX11_addRule_47 : decode cX11_addRule 47 = .ok (.putfield 146, 3) := by decide +kernel
theorem dX11_addRule_50 : decode cX11_addRule 50 = .ok (.aload_n 0, 1) := by decide +kernel
theorem dX11_addRule_51 : decode cX11_addRule 51 = .ok (.getfield 10, 3) := by decide +kernel
theorem dX11_addRule_54 : decode cX11_addRule 54 = .ok (.iconst 0, 1) := by decide +kernel
theorem dX11_addRule_55 : decode cX11_addRule 55 = .ok (.putfield 108, 3) := by decide +kernel
theorem dX11_addRule_58 : decode cX11_addRule 58 = .ok (.aload_n 0, 1) := by decide +kernel
theorem dX11_addRule_59 : decode cX11_addRule 59 = .ok (.getfield 146, 3) := by decide +kernel
theorem dX11_addRule_62 : decode cX11_addRule 62 = .ok (.iconst 1, 1) := by decide +kernel
theorem dX11_addRule_63 : decode cX11_addRule 63 = .ok (.isub, 1) := by decide +kernel
theorem dX11_addRule_64 : decode cX11_addRule 64 = .ok (.ireturn, 1) := by decide +kernel
theorem dX11_yard_0 : decode cX11_yard 0 = .ok (.aload_n 0, 1) := by decide +kernel
theorem dX11_yard_1 : decode cX11_yard 1 = .ok (.getfield 35, 3) := by decide +kernel
theorem dX11_yard_4 : decode cX11_yard 4 = .ok (.iload_n 1, 1) := by decide +kernel
theorem dX11_yard_5 : decode cX11_yard 5 = .ok (.invokevirtual 155, 3) := by decide +kernel
theorem dX11_yard_8 : decode cX11_yard 8 = .ok (.ifCond .eq 12, 3) := by decide +kernel
theorem dX11_yard_11 : decode cX11_yard 11 = .ok (.iload_n 2, 1) := by decide +kernel
theorem dX11_yard_12 : decode cX11_yard 12 = .ok (.ifCond .lt 8, 3) := by decide +kernel
theorem dX11_yard_15 : decode cX11_yard 15 = .ok (.iload_n 2, 1) := by decide +kernel
theorem dX11_yard_16 : decode cX11_yard 16 = .ok (.iconst 2, 1) := by decide +kernel
theorem dX11_yard_17 : decode cX11_yard 17 = .ok (.if_icmp .le 11, 3) := by decide +kernel
theorem dX11_yard_20 : decode cX11_yard 20 = .ok (.new 159, 3) := by decide +kernel
theorem dX11_yard_23 : decode cX11_yard 23 = .ok (.dup, 1) := by decide +kernel
theorem dX11_yard_24 : decode cX11_yard 24 = .ok (.invokespecial 161, 3) := by decide +kernel
theorem dX11_yard_27 : decode cX11_yard 27 = .ok (.athrow, 1) := by decide +kernel
theorem dX11_yard_28 : decode cX11_yard 28 = .ok (.iload_n 2, 1) := by decide +kernel
theorem dX11_yard_29 : decode cX11_yard 29 = .ok (.iconst 1, 1) := by decide +kernel
theorem dX11_yard_30 : decode cX11_yard 30 = .ok (.if_icmp .ne 12, 3) := by decide +kernel
theorem dX11_yard_33 : decode cX11_yard 33 = .ok (.aload_n 0, 1) := by decide +kernel
theorem dX11_yard_34 : decode cX11_yard 34 = .ok (.getfield 53, 3) := by decide +kernel
theorem dX11_yard_37 : decode cX11_yard 37 = .ok (.iload_n 1, 1) := by decide +kernel
theorem dX11_yard_38 : decode cX11_yard 38 = .ok (.invokevirtual 162, 3) := by decide +kernel
theorem dX11_yard_41 : decode cX11_yard 41 = .ok (.ireturn, 1) := by decide +kernel
theorem dX11_yard_42 : decode cX11_yard 42 = .ok (.iload_n 2, 1) := by decide +kernel
theorem dX11_yard_43 : decode cX11_yard 43 = .ok (.iconst 2, 1) := by decide +kernel
theorem dX11_yard_44 : decode cX11_yard 44 = .ok (.if_icmp .ne 12, 3) := by decide +kernel
theorem dX11_yard_47 : decode cX11_yard 47 = .ok (.aload_n 0, 1) := by decide +kernel
theorem dX11_yard_48 : decode cX11_yard 48 = .ok (.getfield 53, 3) := by decide +kernel
theorem dX11_yard_51 : decode cX11_yard 51 = .ok (.iload_n 1, 1) := by decide +kernel
theorem dX11_yard_52 : decode cX11_yard 52 = .ok (.invokevirtual 165, 3) := by decide +kernel
theorem dX11_yard_55 : decode cX11_yard 55 = .ok (.ireturn, 1) := by decide +kernel
theorem dX11_yard_56 : decode cX11_yard 56 = .ok (.aload_n 0, 1) := by decide +kernel
theorem dX11_yard_57 : decode cX11_yard 57 = .ok (.getfield 35, 3) := by decide +kernel
theorem dX11_yard_60 : decode cX11_yard 60 = .ok (.iload_n 1, 1) := by decide +kernel
theorem dX11_yard_61 : decode cX11_yard 61 = .ok (.invokevirtual 168, 3) := by decide +kernel
theorem dX11_yard_64 : decode cX11_yard 64 = .ok (.ifCond .eq 5, 3) := by decide +kernel
theorem dX11_yard_67 : decode cX11_yard 67 = .ok (.iconst 1, 1) := by decide +kernel
theorem dX11_yard_68 : decode cX11_yard 68 = .ok (.ireturn, 1) := by decide +kernel
theorem dX11_yard_69 : decode cX11_yard 69 = .ok (.aload_n 0, 1) := by decide +kernel
theorem dX11_yard_70 : decode cX11_yard 70 = .ok (.getfield 53, 3) := by decide +kernel
theorem dX11_yard_73 : decode cX11_yard 73 = .ok (.iload_n 1, 1) := by decide +kernel
theorem dX11_yard_74 : decode cX11_yard 74 = .ok (.invokevirtual 162, 3) := by decide +kernel
theorem dX11_yard_77 : decode cX11_yard 77 = .ok (.iconst (-1), 1) := by decide +kernel
theorem dX11_yard_78 : decode cX11_yard 78 = .ok (.if_icmp .ne 7, 3) := by decide +kernel
theorem dX11_yard_81 : decode cX11_yard 81 = .ok (.iconst 0, 1) := by decide +kernel
theorem dX11_yard_82 : decode cX11_yard 82 = .ok (.goto 4, 3) := by decide +kernel
theorem dX11_yard_85 : decode cX11_yard 85 = .ok (.iconst 2, 1) := by decide +kernel
theorem dX11_yard_86 : decode cX11_yard 86 = .ok (.ireturn, 1) := by decide +kernel
theorem dX11_sort_0 : decode cX11_sort 0 = .ok (.aload_n 0, 1) := by decide +kernel
theorem dX11_sort_1 : decode cX11_sort 1 = .ok (.getfield 35, 3) := by decide +kernel
theorem dX11_sort_4 : decode cX11_sort 4 = .ok (.iload_n 1, 1) := by decide +kernel
theorem dX11_sort_5 : decode cX11_sort 5 = .ok (.invokevirtual 171, 3) := by decide +kernel
theorem dX11_sort_8 : decode cX11_sort 8 = .ok (.ifCond .ne 5, 3) := by decide +kernel
theorem dX11_sort_11 : decode cX11_sort 11 = .ok (.iconst (-1), 1) := by decide +kernel
theorem dX11_sort_12 : decode cX11_sort 12 = .ok (.ireturn, 1) := by decide +kernel
theorem dX11_sort_13 : decode cX11_sort 13 = .ok (.iload_n 2, 1) := by decide +kernel
theorem dX11_sort_14 : decode cX11_sort 14 = .ok (.ifCond .ne 12, 3) := by decide +kernel
theorem dX11_sort_17 : decode cX11_sort 17 = .ok (.aload_n 0, 1) := by decide +kernel
theorem dX11_sort_18 : decode cX11_sort 18 = .ok (.getfield 35, 3) := by decide +kernel
theorem dX11_sort_21 : decode cX11_sort 21 = .ok (.iload_n 1, 1) := by decide +kernel
theorem dX11_sort_22 : decode cX11_sort 22 = .ok (.invokevirtual 174, 3) := by decide +kernel
theorem dX11_sort_25 : decode cX11_sort 25 = .ok (.ireturn, 1) := by decide +kernel
theorem dX11_sort_26 : decode cX11_sort 26 = .ok (.iload_n 2, 1) := by decide +kernel
theorem dX11_sort_27 : decode cX11_sort 27 = .ok (.iconst 1, 1) := by decide +kernel
theorem dX11_sort_28 : decode cX11_sort 28 = .ok (.if_icmp .ne 14, 3) := by decide +kernel
theorem dX11_sort_31 : decode cX11_sort 31 = .ok (.aload_n 0, 1) := by decide +kernel
theorem dX11_sort_32 : decode cX11_sort 32 = .ok (.getfield 35, 3) := by decide +kernel
theorem dX11_sort_35 : decode cX11_sort 35 = .ok (.iload_n 1, 1) := by decide +kernel
theorem dX11_sort_36 : decode cX11_sort 36 = .ok (.invokevirtual 177, 3) := by decide +kernel
theorem dX11_sort_39 : decode cX11_sort 39 = .ok (.goto 4, 3) := by decide +kernel
theorem dX11_sort_42 : decode cX11_sort 42 = .ok (.iconst (-1), 1) := by decide +kernel
theorem dX11_sort_43 : decode cX11_sort 43 = .ok (.ireturn, 1) := by decide +kernel
theorem dX11_rule_0 : decode cX11_rule 0 = .ok (.aload_n 0, 1) := by decide +kernel
theorem dX11_rule_1 : decode cX11_rule 1 = .ok (.invokevirtual 180, 3) := by decide +kernel
theorem dX11_rule_4 : decode cX11_rule 4 = .ok (.ifCond .eq 16, 3) := by decide +kernel
theorem dX11_rule_7 : decode cX11_rule 7 = .ok (.iload_n 1, 1) := by decide +kernel
theorem dX11_rule_8 : decode cX11_rule 8 = .ok (.iconst (-1), 1) := by decide +kernel
theorem dX11_rule_9 : decode cX11_rule 9 = .ok (.if_icmp .lt 11, 3) := by decide +kernel
theorem dX11_rule_12 : decode cX11_rule 12 = .ok (.iload_n 1, 1) := by decide +kernel
theorem dX11_rule_13 : decode cX11_rule 13 = .ok (.aload_n 0, 1) := by decide +kernel
theorem dX11_rule_14 : decode cX11_rule 14 = .ok (.getfield 146, 3) := by decide +kernel
theorem dX11_rule_17 : decode cX11_rule 17 = .ok (.if_icmp .lt 5, 3) := by decide +kernel
theorem dX11_rule_20 : decode cX11_rule 20 = .ok (.iconst 0, 1) := by decide +kernel
theorem dX11_rule_21 : decode cX11_rule 21 = .ok (.ireturn, 1) := by decide +kernel
theorem dX11_rule_22 : decode cX11_rule 22 = .ok (.aload_n 0, 1) := by decide +kernel
theorem dX11_rule_23 : decode cX11_rule 23 = .ok (.iload_n 1, 1) := by decide +kernel
theorem dX11_rule_24 : decode cX11_rule 24 = .ok (.putfield 46, 3) := by decide +kernel
theorem dX11_rule_27 : decode cX11_rule 27 = .ok (.iconst 1, 1) := by decide +kernel
theorem dX11_rule_28 : decode cX11_rule 28 = .ok (.ireturn, 1) := by decide +kernel
theorem dX11_obey_0 : decode cX11_obey 0 = .ok (.aload_n 0, 1) := by decide +kernel
theorem dX11_obey_1 : decode cX11_obey 1 = .ok (.invokevirtual 180, 3) := by decide +kernel
theorem dX11_obey_4 : decode cX11_obey 4 = .ok (.ifCond .eq 13, 3) := by decide +kernel
theorem dX11_obey_7 : decode cX11_obey 7 = .ok (.iload_n 1, 1) := by decide +kernel
theorem dX11_obey_8 : decode cX11_obey 8 = .ok (.ifCond .lt 9, 3) := by decide +kernel
theorem dX11_obey_11 : decode cX11_obey 11 = .ok (.iload_n 1, 1) := by decide +kernel
theorem dX11_obey_12 : decode cX11_obey 12 = .ok (.bipush 100, 2) := by decide +kernel
theorem dX11_obey_14 : decode cX11_obey 14 = .ok (.if_icmp .le 5, 3) := by decide +kernel
theorem dX11_obey_17 : decode cX11_obey 17 = .ok (.iconst 0, 1) := by decide +kernel
theorem dX11_obey_18 : decode cX11_obey 18 = .ok (.ireturn, 1) := by decide +kernel
theorem dX11_obey_19 : decode cX11_obey 19 = .ok (.aload_n 0, 1) := by decide +kernel
theorem dX11_obey_20 : decode cX11_obey 20 = .ok (.getfield 35, 3) := by decide +kernel
theorem dX11_obey_23 : decode cX11_obey 23 = .ok (.iload_n 1, 1) := by decide +kernel
theorem dX11_obey_24 : decode cX11_obey 24 = .ok (.putfield 184, 3) := by decide +kernel
theorem dX11_obey_27 : decode cX11_obey 27 = .ok (.iconst 1, 1) := by decide +kernel
theorem dX11_obey_28 : decode cX11_obey 28 = .ok (.ireturn, 1) := by decide +kernel
theorem dX11_fits_0 : decode cX11_fits 0 = .ok (.aload_n 0, 1) := by decide +kernel
theorem dX11_fits_1 : decode cX11_fits 1 = .ok (.getfield 35, 3) := by decide +kernel
theorem dX11_fits_4 : decode cX11_fits 4 = .ok (.iload_n 1, 1) := by decide +kernel
theorem dX11_fits_5 : decode cX11_fits 5 = .ok (.invokevirtual 171, 3) := by decide +kernel
theorem dX11_fits_8 : decode cX11_fits 8 = .ok (.ifCond .eq 8, 3) := by decide +kernel
theorem dX11_fits_11 : decode cX11_fits 11 = .ok (.iload_n 2, 1) := by decide +kernel
theorem dX11_fits_12 : decode cX11_fits 12 = .ok (.iconst (-1), 1) := by decide +kernel
theorem dX11_fits_13 : decode cX11_fits 13 = .ok (.if_icmp .ge 5, 3) := by decide +kernel
theorem dX11_fits_16 : decode cX11_fits 16 = .ok (.iconst (-1), 1) := by decide +kernel
theorem dX11_fits_17 : decode cX11_fits 17 = .ok (.ireturn, 1) := by decide +kernel
theorem dX11_fits_18 : decode cX11_fits 18 = .ok (.aload_n 0, 1) := by decide +kernel
theorem dX11_fits_19 : decode cX11_fits 19 = .ok (.invokevirtual 187, 3) := by decide +kernel
theorem dX11_fits_22 : decode cX11_fits 22 = .ok (.aload_n 0, 1) := by decide +kernel
theorem dX11_fits_23 : decode cX11_fits 23 = .ok (.getfield 35, 3) := by decide +kernel
theorem dX11_fits_26 : decode cX11_fits 26 = .ok (.iload_n 1, 1) := by decide +kernel
theorem dX11_fits_27 : decode cX11_fits 27 = .ok (.invokevirtual 174, 3) := by decide +kernel
theorem dX11_fits_30 : decode cX11_fits 30 = .ok (.istore_n 3, 1) := by decide +kernel
theorem dX11_fits_31 : decode cX11_fits 31 = .ok (.iload_n 2, 1) := by decide +kernel
theorem dX11_fits_32 : decode cX11_fits 32 = .ok (.iconst (-1), 1) := by decide +kernel
theorem dX11_fits_33 : decode cX11_fits 33 = .ok (.if_icmp .ne 14, 3) := by decide +kernel
theorem dX11_fits_36 : decode cX11_fits 36 = .ok (.aload_n 0, 1) := by decide +kernel
theorem dX11_fits_37 : decode cX11_fits 37 = .ok (.getfield 73, 3) := by decide +kernel
theorem dX11_fits_40 : decode cX11_fits 40 = .ok (.iload_n 3, 1) := by decide +kernel
theorem dX11_fits_41 : decode cX11_fits 41 = .ok (.invokevirtual 190, 3) := by decide +kernel
theorem dX11_fits_44 : decode cX11_fits 44 = .ok (.goto 12, 3) := by decide +kernel
theorem dX11_fits_47 : decode cX11_fits 47 = .ok (.aload_n 0, 1) := by decide +kernel
theorem dX11_fits_48 : decode cX11_fits 48 = .ok (.getfield 73, 3) := by decide +kernel
theorem dX11_fits_51 : decode cX11_fits 51 = .ok (.iload_n 3, 1) := by decide +kernel
theorem dX11_fits_52 : decode cX11_fits 52 = .ok (.iload_n 2, 1) := by decide +kernel
theorem dX11_fits_53 : decode cX11_fits 53 = .ok (.invokevirtual 193, 3) := by decide +kernel
theorem dX11_fits_56 : decode cX11_fits 56 = .ok (.ireturn, 1) := by decide +kernel
theorem dX11_where_0 : decode cX11_where 0 = .ok (.aload_n 0, 1) := by decide +kernel
theorem dX11_where_1 : decode cX11_where 1 = .ok (.iload_n 1, 1) := by decide +kernel
theorem dX11_where_2 : decode cX11_where 2 = .ok (.iload_n 2, 1) := by decide +kernel
theorem dX11_where_3 : decode cX11_where 3 = .ok (.invokevirtual 197, 3) := by decide +kernel
theorem dX11_where_6 : decode cX11_where 6 = .ok (.ireturn, 1) := by decide +kernel
theorem dX11_park_0 : decode cX11_park 0 = .ok (.aload_n 0, 1) := by decide +kernel
theorem dX11_park_1 : decode cX11_park 1 = .ok (.iload_n 1, 1) := by decide +kernel
theorem dX11_park_2 : decode cX11_park 2 = .ok (.iload_n 2, 1) := by decide +kernel
theorem dX11_park_3 : decode cX11_park 3 = .ok (.invokevirtual 197, 3) := by decide +kernel
theorem dX11_park_6 : decode cX11_park 6 = .ok (.istore_n 3, 1) := by decide +kernel
theorem dX11_park_7 : decode cX11_park 7 = .ok (.iload_n 3, 1) := by decide +kernel
theorem dX11_park_8 : decode cX11_park 8 = .ok (.iconst (-1), 1) := by decide +kernel
theorem dX11_park_9 : decode cX11_park 9 = .ok (.if_icmp .ne 5, 3) := by decide +kernel
theorem dX11_park_12 : decode cX11_park 12 = .ok (.iconst (-1), 1) := by decide +kernel
theorem dX11_park_13 : decode cX11_park 13 = .ok (.ireturn, 1) := by decide +kernel
theorem dX11_park_14 : decode cX11_park 14 = .ok (.aload_n 0, 1) := by decide +kernel
theorem dX11_park_15 : decode cX11_park 15 = .ok (.getfield 66, 3) := by decide +kernel
theorem dX11_park_18 : decode cX11_park 18 = .ok (.aload_n 0, 1) := by decide +kernel
theorem dX11_park_19 : decode cX11_park 19 = .ok (.getfield 53, 3) := by decide +kernel
theorem dX11_park_22 : decode cX11_park 22 = .ok (.invokevirtual 200, 3) := by decide +kernel
theorem dX11_park_25 : decode cX11_park 25 = .ok (.aload_n 0, 1) := by decide +kernel
theorem dX11_park_26 : decode cX11_park 26 = .ok (.getfield 53, 3) := by decide +kernel
theorem dX11_park_29 : decode cX11_park 29 = .ok (.iload_n 3, 1) := by decide +kernel
theorem dX11_park_30 : decode cX11_park 30 = .ok (.aload_n 0, 1) := by decide +kernel
theorem dX11_park_31 : decode cX11_park 31 = .ok (.getfield 35, 3) := by decide +kernel
theorem dX11_park_34 : decode cX11_park 34 = .ok (.iload_n 1, 1) := by decide +kernel
theorem dX11_park_35 : decode cX11_park 35 = .ok (.invokevirtual 174, 3) := by decide +kernel
theorem dX11_park_38 : decode cX11_park 38 = .ok (.iload_n 1, 1) := by decide +kernel
theorem dX11_park_39 : decode cX11_park 39 = .ok (.invokevirtual 203, 3) := by decide +kernel
theorem dX11_park_42 : decode cX11_park 42 = .ok (.iload_n 3, 1) := by decide +kernel
theorem dX11_park_43 : decode cX11_park 43 = .ok (.ireturn, 1) := by decide +kernel
theorem dX11_stop_0 : decode cX11_stop 0 = .ok (.aload_n 0, 1) := by decide +kernel
theorem dX11_stop_1 : decode cX11_stop 1 = .ok (.getfield 35, 3) := by decide +kernel
theorem dX11_stop_4 : decode cX11_stop 4 = .ok (.iload_n 1, 1) := by decide +kernel
theorem dX11_stop_5 : decode cX11_stop 5 = .ok (.invokevirtual 171, 3) := by decide +kernel
theorem dX11_stop_8 : decode cX11_stop 8 = .ok (.ifCond .eq 19, 3) := by decide +kernel
theorem dX11_stop_11 : decode cX11_stop 11 = .ok (.aload_n 0, 1) := by decide +kernel
theorem dX11_stop_12 : decode cX11_stop 12 = .ok (.iload_n 2, 1) := by decide +kernel
theorem dX11_stop_13 : decode cX11_stop 13 = .ok (.aload_n 0, 1) := by decide +kernel
theorem dX11_stop_14 : decode cX11_stop 14 = .ok (.getfield 35, 3) := by decide +kernel
theorem dX11_stop_17 : decode cX11_stop 17 = .ok (.iload_n 1, 1) := by decide +kernel
theorem dX11_stop_18 : decode cX11_stop 18 = .ok (.invokevirtual 174, 3) := by decide +kernel
theorem dX11_stop_21 : decode cX11_stop 21 = .ok (.invokevirtual 207, 3) := by decide +kernel
theorem dX11_stop_24 : decode cX11_stop 24 = .ok (.ifCond .ne 5, 3) := by decide +kernel
theorem dX11_stop_27 : decode cX11_stop 27 = .ok (.iconst 0, 1) := by decide +kernel
theorem dX11_stop_28 : decode cX11_stop 28 = .ok (.ireturn, 1) := by decide +kernel
theorem dX11_stop_29 : decode cX11_stop 29 = .ok (.aload_n 0, 1) := by decide +kernel
theorem dX11_stop_30 : decode cX11_stop 30 = .ok (.getfield 66, 3) := by decide +kernel
theorem dX11_stop_33 : decode cX11_stop 33 = .ok (.aload_n 0, 1) := by decide +kernel
theorem dX11_stop_34 : decode cX11_stop 34 = .ok (.getfield 53, 3) := by decide +kernel
theorem dX11_stop_37 : decode cX11_stop 37 = .ok (.invokevirtual 200, 3) := by decide +kernel
theorem dX11_stop_40 : decode cX11_stop 40 = .ok (.aload_n 0, 1) := by decide +kernel
theorem dX11_stop_41 : decode cX11_stop 41 = .ok (.getfield 53, 3) := by decide +kernel
theorem dX11_stop_44 : decode cX11_stop 44 = .ok (.iload_n 2, 1) := by decide +kernel
theorem dX11_stop_45 : decode cX11_stop 45 = .ok (.aload_n 0, 1) := by decide +kernel
theorem dX11_stop_46 : decode cX11_stop 46 = .ok (.getfield 35, 3) := by decide +kernel
theorem dX11_stop_49 : decode cX11_stop 49 = .ok (.iload_n 1, 1) := by decide +kernel
theorem dX11_stop_50 : decode cX11_stop 50 = .ok (.invokevirtual 174, 3) := by decide +kernel
theorem dX11_stop_53 : decode cX11_stop 53 = .ok (.iload_n 1, 1) := by decide +kernel
theorem dX11_stop_54 : decode cX11_stop 54 = .ok (.invokevirtual 203, 3) := by decide +kernel
theorem dX11_stop_57 : decode cX11_stop 57 = .ok (.iconst 1, 1) := by decide +kernel
theorem dX11_stop_58 : decode cX11_stop 58 = .ok (.ireturn, 1) := by decide +kernel
theorem dX11_leave_0 : decode cX11_leave 0 = .ok (.aload_n 0, 1) := by decide +kernel
theorem dX11_leave_1 : decode cX11_leave 1 = .ok (.getfield 35, 3) := by decide +kernel
theorem dX11_leave_4 : decode cX11_leave 4 = .ok (.iload_n 1, 1) := by decide +kernel
theorem dX11_leave_5 : decode cX11_leave 5 = .ok (.invokevirtual 155, 3) := by decide +kernel
theorem dX11_leave_8 : decode cX11_leave 8 = .ok (.ifCond .ne 5, 3) := by decide +kernel
theorem dX11_leave_11 : decode cX11_leave 11 = .ok (.iconst (-1), 1) := by decide +kernel
theorem dX11_leave_12 : decode cX11_leave 12 = .ok (.ireturn, 1) := by decide +kernel
theorem dX11_leave_13 : decode cX11_leave 13 = .ok (.aload_n 0, 1) := by decide +kernel
theorem dX11_leave_14 : decode cX11_leave 14 = .ok (.getfield 53, 3) := by decide +kernel
theorem dX11_leave_17 : decode cX11_leave 17 = .ok (.iload_n 1, 1) := by decide +kernel
theorem dX11_leave_18 : decode cX11_leave 18 = .ok (.invokevirtual 162, 3) := by decide +kernel
theorem dX11_leave_21 : decode cX11_leave 21 = .ok (.istore_n 2, 1) := by decide +kernel
theorem dX11_leave_22 : decode cX11_leave 22 = .ok (.iload_n 2, 1) := by decide +kernel
theorem dX11_leave_23 : decode cX11_leave 23 = .ok (.iconst (-1), 1) := by decide +kernel
theorem dX11_leave_24 : decode cX11_leave 24 = .ok (.if_icmp .ne 5, 3) := by decide +kernel
theorem dX11_leave_27 : decode cX11_leave 27 = .ok (.iconst (-1), 1) := by decide +kernel
theorem dX11_leave_28 : decode cX11_leave 28 = .ok (.ireturn, 1) := by decide +kernel
theorem dX11_leave_29 : decode cX11_leave 29 = .ok (.aload_n 0, 1) := by decide +kernel
theorem dX11_leave_30 : decode cX11_leave 30 = .ok (.getfield 66, 3) := by decide +kernel
theorem dX11_leave_33 : decode cX11_leave 33 = .ok (.aload_n 0, 1) := by decide +kernel
theorem dX11_leave_34 : decode cX11_leave 34 = .ok (.getfield 53, 3) := by decide +kernel
theorem dX11_leave_37 : decode cX11_leave 37 = .ok (.invokevirtual 200, 3) := by decide +kernel
theorem dX11_leave_40 : decode cX11_leave 40 = .ok (.aload_n 0, 1) := by decide +kernel
theorem dX11_leave_41 : decode cX11_leave 41 = .ok (.getfield 53, 3) := by decide +kernel
theorem dX11_leave_44 : decode cX11_leave 44 = .ok (.iload_n 2, 1) := by decide +kernel
theorem dX11_leave_45 : decode cX11_leave 45 = .ok (.invokevirtual 211, 3) := by decide +kernel
theorem dX11_leave_48 : decode cX11_leave 48 = .ok (.iload_n 2, 1) := by decide +kernel
theorem dX11_leave_49 : decode cX11_leave 49 = .ok (.ireturn, 1) := by decide +kernel
theorem dX11_run_0 : decode cX11_run 0 = .ok (.aload_n 0, 1) := by decide +kernel
theorem dX11_run_1 : decode cX11_run 1 = .ok (.invokevirtual 180, 3) := by decide +kernel
theorem dX11_run_4 : decode cX11_run 4 = .ok (.ifCond .eq 14, 3) := by decide +kernel
theorem dX11_run_7 : decode cX11_run 7 = .ok (.iload_n 1, 1) := by decide +kernel
theorem dX11_run_8 : decode cX11_run 8 = .ok (.iconst 1, 1) := by decide +kernel
theorem dX11_run_9 : decode cX11_run 9 = .ok (.if_icmp .lt 9, 3) := by decide +kernel
theorem dX11_run_12 : decode cX11_run 12 = .ok (.iload_n 1, 1) := by decide +kernel
theorem dX11_run_13 : decode cX11_run 13 = .ok (.bipush 40, 2) := by decide +kernel
theorem dX11_run_15 : decode cX11_run 15 = .ok (.if_icmp .le 5, 3) := by decide +kernel
theorem dX11_run_18 : decode cX11_run 18 = .ok (.iconst (-1), 1) := by decide +kernel
theorem dX11_run_19 : decode cX11_run 19 = .ok (.ireturn, 1) := by decide +kernel
theorem dX11_run_20 : decode cX11_run 20 = .ok (.aload_n 0, 1) := by decide +kernel
theorem dX11_run_21 : decode cX11_run 21 = .ok (.lload_n 2, 1) := by decide +kernel
theorem dX11_run_22 : decode cX11_run 22 = .ok (.putfield 214, 3) := by decide +kernel
theorem dX11_run_25 : decode cX11_run 25 = .ok (.iconst 0, 1) := by decide +kernel
theorem dX11_run_26 : decode cX11_run 26 = .ok (.istore 4, 2) := by decide +kernel
theorem dX11_run_28 : decode cX11_run 28 = .ok (.iload 4, 2) := by decide +kernel
theorem dX11_run_30 : decode cX11_run 30 = .ok (.iload_n 1, 1) := by decide +kernel
theorem dX11_run_31 : decode cX11_run 31 = .ok (.if_icmp .ge 54, 3) := by decide +kernel
theorem dX11_run_34 : decode cX11_run 34 = .ok (.aload_n 0, 1) := by decide +kernel
theorem dX11_run_35 : decode cX11_run 35 = .ok (.getfield 66, 3) := by decide +kernel
theorem dX11_run_38 : decode cX11_run 38 = .ok (.aload_n 0, 1) := by decide +kernel
theorem dX11_run_39 : decode cX11_run 39 = .ok (.getfield 53, 3) := by decide +kernel
theorem dX11_run_42 : decode cX11_run 42 = .ok (.invokevirtual 200, 3) := by decide +kernel
theorem dX11_run_45 : decode cX11_run 45 = .ok (.aload_n 0, 1) := by decide +kernel
theorem dX11_run_46 : decode cX11_run 46 = .ok (.bipush 100, 2) := by decide +kernel
theorem dX11_run_48 : decode cX11_run 48 = .ok (.invokevirtual 218, 3) := by decide +kernel
theorem dX11_run_51 : decode cX11_run 51 = .ok (.aload_n 0, 1) := by decide +kernel
theorem dX11_run_52 : decode cX11_run 52 = .ok (.getfield 35, 3) := by decide +kernel
theorem dX11_run_55 : decode cX11_run 55 = .ok (.getfield 221, 3) := by decide +kernel
theorem dX11_run_58 : decode cX11_run 58 = .ok (.if_icmp .ge 17, 3) := by decide +kernel
theorem dX11_run_61 : decode cX11_run 61 = .ok (.aload_n 0, 1) := by decide +kernel
theorem dX11_run_62 : decode cX11_run 62 = .ok (.getfield 53, 3) := by decide +kernel
theorem dX11_run_65 : decode cX11_run 65 = .ok (.getfield 224, 3) := by decide +kernel
theorem dX11_run_68 : decode cX11_run 68 = .ok (.ifCond .le 7, 3) := by decide +kernel
theorem dX11_run_71 : decode cX11_run 71 = .ok (.aload_n 0, 1) := by decide +kernel
theorem dX11_run_72 : decode cX11_run 72 = .ok (.invokevirtual 227, 3) := by decide +kernel
theorem dX11_run_75 : decode cX11_run 75 = .ok (.aload_n 0, 1) := by decide +kernel
theorem dX11_run_76 : decode cX11_run 76 = .ok (.invokevirtual 230, 3) := by decide +kernel
theorem dX11_run_79 : decode cX11_run 79 = .ok (.iinc 4 1, 3) := by decide +kernel
theorem dX11_run_82 : decode cX11_run 82 = .ok (.goto (-54), 3) := by decide +kernel
theorem dX11_run_85 : decode cX11_run 85 = .ok (.aload_n 0, 1) := by decide +kernel
theorem dX11_run_86 : decode cX11_run 86 = .ok (.getfield 53, 3) := by decide +kernel
theorem dX11_run_89 : decode cX11_run 89 = .ok (.getfield 224, 3) := by decide +kernel
theorem dX11_run_92 : decode cX11_run 92 = .ok (.ireturn, 1) := by decide +kernel
theorem dX11_letOneGo_0 : decode cX11_letOneGo 0 = .ok (.aload_n 0, 1) := by decide +kernel
theorem dX11_letOneGo_1 : decode cX11_letOneGo 1 = .ok (.getfield 53, 3) := by decide +kernel
theorem dX11_letOneGo_4 : decode cX11_letOneGo 4 = .ok (.aload_n 0, 1) := by decide +kernel
theorem dX11_letOneGo_5 : decode cX11_letOneGo 5 = .ok (.getfield 53, 3) := by decide +kernel
theorem dX11_letOneGo_8 : decode cX11_letOneGo 8 = .ok (.aload_n 0, 1) := by decide +kernel
theorem dX11_letOneGo_9 : decode cX11_letOneGo 9 = .ok (.aload_n 0, 1) := by decide +kernel
theorem dX11_letOneGo_10 : decode cX11_letOneGo 10 = .ok (.getfield 53, 3) := by decide +kernel
theorem dX11_letOneGo_13 : decode cX11_letOneGo 13 = .ok (.getfield 224, 3) := by decide +kernel
theorem dX11_letOneGo_16 : decode cX11_letOneGo 16 = .ok (.invokevirtual 218, 3) := by decide +kernel
theorem dX11_letOneGo_19 : decode cX11_letOneGo 19 = .ok (.invokevirtual 233, 3) := by decide +kernel
theorem dX11_letOneGo_22 : decode cX11_letOneGo 22 = .ok (.invokevirtual 211, 3) := by decide +kernel
theorem dX11_letOneGo_25 : decode cX11_letOneGo 25 = .ok (.aload_n 0, 1) := by decide +kernel
theorem dX11_letOneGo_26 : decode cX11_letOneGo 26 = .ok (.getfield 53, 3) := by decide +kernel
theorem dX11_letOneGo_29 : decode cX11_letOneGo 29 = .ok (.dup, 1) := by decide +kernel
theorem dX11_letOneGo_30 : decode cX11_letOneGo 30 = .ok (.getfield 236, 3) := by decide +kernel
theorem dX11_letOneGo_33 : decode cX11_letOneGo 33 = .ok (.iconst 1, 1) := by decide +kernel
theorem dX11_letOneGo_34 : decode cX11_letOneGo 34 = .ok (.iadd, 1) := by decide +kernel
theorem dX11_letOneGo_35 : decode cX11_letOneGo 35 = .ok (.putfield 236, 3) := by decide +kernel
theorem dX11_letOneGo_38 : decode cX11_letOneGo 38 = .ok (.return_, 1) := by decide +kernel
theorem dX11_letOneCome_0 : decode cX11_letOneCome 0 = .ok (.aload_n 0, 1) := by decide +kernel
theorem dX11_letOneCome_1 : decode cX11_letOneCome 1 = .ok (.getfield 35, 3) := by decide +kernel
theorem dX11_letOneCome_4 : decode cX11_letOneCome 4 = .ok (.aload_n 0, 1) := by decide +kernel
theorem dX11_letOneCome_5 : decode cX11_letOneCome 5 = .ok (.aload_n 0, 1) := by decide +kernel
theorem dX11_letOneCome_6 : decode cX11_letOneCome 6 = .ok (.getfield 35, 3) := by decide +kernel
theorem dX11_letOneCome_9 : decode cX11_letOneCome 9 = .ok (.invokevirtual 239, 3) := by decide +kernel
theorem dX11_letOneCome_12 : decode cX11_letOneCome 12 = .ok (.invokevirtual 218, 3) := by decide +kernel
theorem dX11_letOneCome_15 : decode cX11_letOneCome 15 = .ok (.invokevirtual 242, 3) := by decide +kernel
theorem dX11_letOneCome_18 : decode cX11_letOneCome 18 = .ok (.istore_n 1, 1) := by decide +kernel
theorem dX11_letOneCome_19 : decode cX11_letOneCome 19 = .ok (.aload_n 0, 1) := by decide +kernel
theorem dX11_letOneCome_20 : decode cX11_letOneCome 20 = .ok (.getfield 35, 3) := by decide +kernel
theorem dX11_letOneCome_23 : decode cX11_letOneCome 23 = .ok (.iload_n 1, 1) := by decide +kernel
theorem dX11_letOneCome_24 : decode cX11_letOneCome 24 = .ok (.invokevirtual 174, 3) := by decide +kernel
theorem dX11_letOneCome_27 : decode cX11_letOneCome 27 = .ok (.istore_n 2, 1) := by decide +kernel
theorem dX11_letOneCome_28 : decode cX11_letOneCome 28 = .ok (.aload_n 0, 1) := by decide +kernel
theorem dX11_letOneCome_29 : decode cX11_letOneCome 29 = .ok (.invokevirtual 187, 3) := by decide +kernel
theorem dX11_letOneCome_32 : decode cX11_letOneCome 32 = .ok (.aload_n 0, 1) := by decide +kernel
theorem dX11_letOneCome_33 : decode cX11_letOneCome 33 = .ok (.getfield 73, 3) := by decide +kernel
theorem dX11_letOneCome_36 : decode cX11_letOneCome 36 = .ok (.iload_n 2, 1) := by decide +kernel
theorem dX11_letOneCome_37 : decode cX11_letOneCome 37 = .ok (.invokevirtual 190, 3) := by decide +kernel
theorem dX11_letOneCome_40 : decode cX11_letOneCome 40 = .ok (.istore_n 3, 1) := by decide +kernel
theorem dX11_letOneCome_41 : decode cX11_letOneCome 41 = .ok (.iload_n 3, 1) := by decide +kernel
theorem dX11_letOneCome_42 : decode cX11_letOneCome 42 = .ok (.ifCond .ne 17, 3) := by decide +kernel
theorem dX11_letOneCome_45 : decode cX11_letOneCome 45 = .ok (.aload_n 0, 1) := by decide +kernel
theorem dX11_letOneCome_46 : decode cX11_letOneCome 46 = .ok (.getfield 53, 3) := by decide +kernel
theorem dX11_letOneCome_49 : decode cX11_letOneCome 49 = .ok (.dup, 1) := by decide +kernel
theorem dX11_letOneCome_50 : decode cX11_letOneCome 50 = .ok (.getfield 245, 3) := by decide +kernel
theorem dX11_letOneCome_53 : decode cX11_letOneCome 53 = .ok (.iconst 1, 1) := by decide +kernel
theorem dX11_letOneCome_54 : decode cX11_letOneCome 54 = .ok (.iadd, 1) := by decide +kernel
theorem dX11_letOneCome_55 : decode cX11_letOneCome 55 = .ok (.putfield 245, 3) := by decide +kernel
theorem dX11_letOneCome_58 : decode cX11_letOneCome 58 = .ok (.return_, 1) := by decide +kernel
theorem dX11_letOneCome_59 : decode cX11_letOneCome 59 = .ok (.aload_n 0, 1) := by decide +kernel
theorem dX11_letOneCome_60 : decode cX11_letOneCome 60 = .ok (.getfield 53, 3) := by decide +kernel
theorem dX11_letOneCome_63 : decode cX11_letOneCome 63 = .ok (.aload_n 0, 1) := by decide +kernel
theorem dX11_letOneCome_64 : decode cX11_letOneCome 64 = .ok (.getfield 73, 3) := by decide +kernel
theorem dX11_letOneCome_67 : decode cX11_letOneCome 67 = .ok (.iload_n 2, 1) := by decide +kernel
theorem dX11_letOneCome_68 : decode cX11_letOneCome 68 = .ok (.aload_n 0, 1) := by decide +kernel
theorem dX11_letOneCome_69 : decode cX11_letOneCome 69 = .ok (.iload_n 3, 1) := by decide +kernel
theorem dX11_letOneCome_70 : decode cX11_letOneCome 70 = .ok (.invokevirtual 218, 3) := by decide +kernel
theorem dX11_letOneCome_73 : decode cX11_letOneCome 73 = .ok (.invokevirtual 193, 3) := by decide +kernel
theorem dX11_letOneCome_76 : decode cX11_letOneCome 76 = .ok (.iload_n 2, 1) := by decide +kernel
theorem dX11_letOneCome_77 : decode cX11_letOneCome 77 = .ok (.iload_n 1, 1) := by decide +kernel
theorem dX11_letOneCome_78 : decode cX11_letOneCome 78 = .ok (.invokevirtual 203, 3) := by decide +kernel
theorem dX11_letOneCome_81 : decode cX11_letOneCome 81 = .ok (.aload_n 0, 1) := by decide +kernel
theorem dX11_letOneCome_82 : decode cX11_letOneCome 82 = .ok (.getfield 53, 3) := by decide +kernel
theorem dX11_letOneCome_85 : decode cX11_letOneCome 85 = .ok (.dup, 1) := by decide +kernel
theorem dX11_letOneCome_86 : decode cX11_letOneCome 86 = .ok (.getfield 248, 3) := by decide +kernel
theorem dX11_letOneCome_89 : decode cX11_letOneCome 89 = .ok (.iconst 1, 1) := by decide +kernel
theorem dX11_letOneCome_90 : decode cX11_letOneCome 90 = .ok (.iadd, 1) := by decide +kernel
theorem dX11_letOneCome_91 : decode cX11_letOneCome 91 = .ok (.putfield 248, 3) := by decide +kernel
theorem dX11_letOneCome_94 : decode cX11_letOneCome 94 = .ok (.return_, 1) := by decide +kernel
theorem dX11_draw_0 : decode cX11_draw 0 = .ok (.aload_n 0, 1) := by decide +kernel
theorem dX11_draw_1 : decode cX11_draw 1 = .ok (.aload_n 0, 1) := by decide +kernel
theorem dX11_draw_2 : decode cX11_draw 2 = .ok (.getfield 214, 3) := by decide +kernel
theorem dX11_draw_5 : decode cX11_draw 5 = .ok (.ldc2_w 251, 3) := by decide +kernel
theorem dX11_draw_8 : decode cX11_draw 8 = .ok (.lmul, 1) := by decide +kernel
theorem dX11_draw_9 : decode cX11_draw 9 = .ok (.ldc2_w 253, 3) := by decide +kernel
theorem dX11_draw_12 : decode cX11_draw 12 = .ok (.ladd, 1) := by decide +kernel
theorem dX11_draw_13 : decode cX11_draw 13 = .ok (.putfield 214, 3) := by decide +kernel
theorem dX11_draw_16 : decode cX11_draw 16 = .ok (.iload_n 1, 1) := by decide +kernel
theorem dX11_draw_17 : decode cX11_draw 17 = .ok (.ifCond .gt 5, 3) := by decide +kernel
theorem dX11_draw_20 : decode cX11_draw 20 = .ok (.iconst 0, 1) := by decide +kernel
theorem dX11_draw_21 : decode cX11_draw 21 = .ok (.ireturn, 1) := by decide +kernel
theorem dX11_draw_22 : decode cX11_draw 22 = .ok (.aload_n 0, 1) := by decide +kernel
theorem dX11_draw_23 : decode cX11_draw 23 = .ok (.getfield 214, 3) := by decide +kernel
theorem dX11_draw_26 : decode cX11_draw 26 = .ok (.bipush 33, 2) := by decide +kernel
theorem dX11_draw_28 : decode cX11_draw 28 = .ok (.lushr, 1) := by decide +kernel
theorem dX11_draw_29 : decode cX11_draw 29 = .ok (.iload_n 1, 1) := by decide +kernel
theorem dX11_draw_30 : decode cX11_draw 30 = .ok (.i2l, 1) := by decide +kernel
theorem dX11_draw_31 : decode cX11_draw 31 = .ok (.lrem, 1) := by decide +kernel
theorem dX11_draw_32 : decode cX11_draw 32 = .ok (.l2i, 1) := by decide +kernel
theorem dX11_draw_33 : decode cX11_draw 33 = .ok (.ireturn, 1) := by decide +kernel
theorem dX11_undo_0 : decode cX11_undo 0 = .ok (.aload_n 0, 1) := by decide +kernel
theorem dX11_undo_1 : decode cX11_undo 1 = .ok (.getfield 66, 3) := by decide +kernel
theorem dX11_undo_4 : decode cX11_undo 4 = .ok (.getfield 255, 3) := by decide +kernel
theorem dX11_undo_7 : decode cX11_undo 7 = .ok (.ifCond .ne 5, 3) := by decide +kernel
theorem dX11_undo_10 : decode cX11_undo 10 = .ok (.iconst (-1), 1) := by decide +kernel
theorem dX11_undo_11 : decode cX11_undo 11 = .ok (.ireturn, 1) := by decide +kernel
theorem dX11_undo_12 : decode cX11_undo 12 = .ok (.aload_n 0, 1) := by decide +kernel
theorem dX11_undo_13 : decode cX11_undo 13 = .ok (.getfield 66, 3) := by decide +kernel
theorem dX11_undo_16 : decode cX11_undo 16 = .ok (.aload_n 0, 1) := by decide +kernel
theorem dX11_undo_17 : decode cX11_undo 17 = .ok (.getfield 53, 3) := by decide +kernel
theorem dX11_undo_20 : decode cX11_undo 20 = .ok (.invokevirtual 256, 3) := by decide +kernel
theorem dX11_undo_23 : decode cX11_undo 23 = .ok (.aload_n 0, 1) := by decide +kernel
theorem dX11_undo_24 : decode cX11_undo 24 = .ok (.getfield 66, 3) := by decide +kernel
theorem dX11_undo_27 : decode cX11_undo 27 = .ok (.getfield 255, 3) := by decide +kernel
theorem dX11_undo_30 : decode cX11_undo 30 = .ok (.ireturn, 1) := by decide +kernel
theorem dX11_mean_0 : decode cX11_mean 0 = .ok (.aload_n 0, 1) := by decide +kernel
theorem dX11_mean_1 : decode cX11_mean 1 = .ok (.getfield 35, 3) := by decide +kernel
theorem dX11_mean_4 : decode cX11_mean 4 = .ok (.iload_n 1, 1) := by decide +kernel
theorem dX11_mean_5 : decode cX11_mean 5 = .ok (.invokevirtual 171, 3) := by decide +kernel
theorem dX11_mean_8 : decode cX11_mean 8 = .ok (.ifCond .ne 7, 3) := by decide +kernel
theorem dX11_mean_11 : decode cX11_mean 11 = .ok (.ldc2_w 259, 3) := by decide +kernel
theorem dX11_mean_14 : decode cX11_mean 14 = .ok (.lreturn, 1) := by decide +kernel
theorem dX11_mean_15 : decode cX11_mean 15 = .ok (.aload_n 0, 1) := by decide +kernel
theorem dX11_mean_16 : decode cX11_mean 16 = .ok (.invokevirtual 187, 3) := by decide +kernel
theorem dX11_mean_19 : decode cX11_mean 19 = .ok (.aload_n 0, 1) := by decide +kernel
theorem dX11_mean_20 : decode cX11_mean 20 = .ok (.getfield 80, 3) := by decide +kernel
theorem dX11_mean_23 : decode cX11_mean 23 = .ok (.aload_n 0, 1) := by decide +kernel
theorem dX11_mean_24 : decode cX11_mean 24 = .ok (.getfield 35, 3) := by decide +kernel
theorem dX11_mean_27 : decode cX11_mean 27 = .ok (.iload_n 1, 1) := by decide +kernel
theorem dX11_mean_28 : decode cX11_mean 28 = .ok (.invokevirtual 174, 3) := by decide +kernel
theorem dX11_mean_31 : decode cX11_mean 31 = .ok (.iload_n 2, 1) := by decide +kernel
theorem dX11_mean_32 : decode cX11_mean 32 = .ok (.ifCond .eq 13, 3) := by decide +kernel
theorem dX11_mean_35 : decode cX11_mean 35 = .ok (.aload_n 0, 1) := by decide +kernel
theorem dX11_mean_36 : decode cX11_mean 36 = .ok (.getfield 35, 3) := by decide +kernel
theorem dX11_mean_39 : decode cX11_mean 39 = .ok (.getfield 184, 3) := by decide +kernel
theorem dX11_mean_42 : decode cX11_mean 42 = .ok (.goto 4, 3) := by decide +kernel
theorem dX11_mean_45 : decode cX11_mean 45 = .ok (.iconst 0, 1) := by decide +kernel
theorem dX11_mean_46 : decode cX11_mean 46 = .ok (.invokevirtual 261, 3) := by decide +kernel
theorem dX11_mean_49 : decode cX11_mean 49 = .ok (.aload_n 0, 1) := by decide +kernel
theorem dX11_mean_50 : decode cX11_mean 50 = .ok (.getfield 80, 3) := by decide +kernel
theorem dX11_mean_53 : decode cX11_mean 53 = .ok (.aload_n 0, 1) := by decide +kernel
theorem dX11_mean_54 : decode cX11_mean 54 = .ok (.getfield 73, 3) := by decide +kernel
theorem dX11_mean_57 : decode cX11_mean 57 = .ok (.invokevirtual 265, 3) := by decide +kernel
theorem dX11_mean_60 : decode cX11_mean 60 = .ok (.lreturn, 1) := by decide +kernel
theorem dX11_likely_0 : decode cX11_likely 0 = .ok (.aload_n 0, 1) := by decide +kernel
theorem dX11_likely_1 : decode cX11_likely 1 = .ok (.getfield 35, 3) := by decide +kernel
theorem dX11_likely_4 : decode cX11_likely 4 = .ok (.iload_n 1, 1) := by decide +kernel
theorem dX11_likely_5 : decode cX11_likely 5 = .ok (.invokevirtual 171, 3) := by decide +kernel
theorem dX11_likely_8 : decode cX11_likely 8 = .ok (.ifCond .eq 7, 3) := by decide +kernel
theorem dX11_likely_11 : decode cX11_likely 11 = .ok (.iload_n 2, 1) := by decide +kernel
theorem dX11_likely_12 : decode cX11_likely 12 = .ok (.ifCond .ge 7, 3) := by decide +kernel
theorem dX11_likely_15 : decode cX11_likely 15 = .ok (.ldc2_w 259, 3) := by decide +kernel
theorem dX11_likely_18 : decode cX11_likely 18 = .ok (.lreturn, 1) := by decide +kernel
theorem dX11_likely_19 : decode cX11_likely 19 = .ok (.aload_n 0, 1) := by decide +kernel
theorem dX11_likely_20 : decode cX11_likely 20 = .ok (.invokevirtual 187, 3) := by decide +kernel
theorem dX11_likely_23 : decode cX11_likely 23 = .ok (.aload_n 0, 1) := by decide +kernel
theorem dX11_likely_24 : decode cX11_likely 24 = .ok (.getfield 80, 3) := by decide +kernel
theorem dX11_likely_27 : decode cX11_likely 27 = .ok (.aload_n 0, 1) := by decide +kernel
theorem dX11_likely_28 : decode cX11_likely 28 = .ok (.getfield 35, 3) := by decide +kernel
theorem dX11_likely_31 : decode cX11_likely 31 = .ok (.iload_n 1, 1) := by decide +kernel
theorem dX11_likely_32 : decode cX11_likely 32 = .ok (.invokevirtual 174, 3) := by decide +kernel
theorem dX11_likely_35 : decode cX11_likely 35 = .ok (.aload_n 0, 1) := by decide +kernel
theorem dX11_likely_36 : decode cX11_likely 36 = .ok (.getfield 73, 3) := by decide +kernel
theorem dX11_likely_39 : decode cX11_likely 39 = .ok (.invokevirtual 269, 3) := by decide +kernel
theorem dX11_likely_42 : decode cX11_likely 42 = .ok (.invokevirtual 272, 3) := by decide +kernel
theorem dX11_likely_45 : decode cX11_likely 45 = .ok (.aload_n 0, 1) := by decide +kernel
theorem dX11_likely_46 : decode cX11_likely 46 = .ok (.getfield 80, 3) := by decide +kernel
theorem dX11_likely_49 : decode cX11_likely 49 = .ok (.aload_n 0, 1) := by decide +kernel
theorem dX11_likely_50 : decode cX11_likely 50 = .ok (.getfield 73, 3) := by decide +kernel
theorem dX11_likely_53 : decode cX11_likely 53 = .ok (.iload_n 2, 1) := by decide +kernel
theorem dX11_likely_54 : decode cX11_likely 54 = .ok (.invokevirtual 275, 3) := by decide +kernel
theorem dX11_likely_57 : decode cX11_likely 57 = .ok (.lreturn, 1) := by decide +kernel
theorem dX11_ends_0 : decode cX11_ends 0 = .ok (.aload_n 0, 1) := by decide +kernel
theorem dX11_ends_1 : decode cX11_ends 1 = .ok (.getfield 35, 3) := by decide +kernel
theorem dX11_ends_4 : decode cX11_ends 4 = .ok (.iload_n 1, 1) := by decide +kernel
theorem dX11_ends_5 : decode cX11_ends 5 = .ok (.invokevirtual 171, 3) := by decide +kernel
theorem dX11_ends_8 : decode cX11_ends 8 = .ok (.ifCond .eq 12, 3) := by decide +kernel
theorem dX11_ends_11 : decode cX11_ends 11 = .ok (.iload_n 2, 1) := by decide +kernel
theorem dX11_ends_12 : decode cX11_ends 12 = .ok (.ifCond .lt 8, 3) := by decide +kernel
theorem dX11_ends_15 : decode cX11_ends 15 = .ok (.iload_n 2, 1) := by decide +kernel
theorem dX11_ends_16 : decode cX11_ends 16 = .ok (.iconst 1, 1) := by decide +kernel
theorem dX11_ends_17 : decode cX11_ends 17 = .ok (.if_icmp .le 5, 3) := by decide +kernel
theorem dX11_ends_20 : decode cX11_ends 20 = .ok (.iconst (-1), 1) := by decide +kernel
theorem dX11_ends_21 : decode cX11_ends 21 = .ok (.ireturn, 1) := by decide +kernel
theorem dX11_ends_22 : decode cX11_ends 22 = .ok (.aload_n 0, 1) := by decide +kernel
theorem dX11_ends_23 : decode cX11_ends 23 = .ok (.invokevirtual 187, 3) := by decide +kernel
theorem dX11_ends_26 : decode cX11_ends 26 = .ok (.aload_n 0, 1) := by decide +kernel
theorem dX11_ends_27 : decode cX11_ends 27 = .ok (.getfield 35, 3) := by decide +kernel
theorem dX11_ends_30 : decode cX11_ends 30 = .ok (.iload_n 1, 1) := by decide +kernel
theorem dX11_ends_31 : decode cX11_ends 31 = .ok (.invokevirtual 174, 3) := by decide +kernel
theorem dX11_ends_34 : decode cX11_ends 34 = .ok (.istore_n 3, 1) := by decide +kernel
theorem dX11_ends_35 : decode cX11_ends 35 = .ok (.iload_n 2, 1) := by decide +kernel
theorem dX11_ends_36 : decode cX11_ends 36 = .ok (.ifCond .ne 18, 3) := by decide +kernel
theorem dX11_ends_39 : decode cX11_ends 39 = .ok (.aload_n 0, 1) := by decide +kernel
theorem dX11_ends_40 : decode cX11_ends 40 = .ok (.getfield 80, 3) := by decide +kernel
theorem dX11_ends_43 : decode cX11_ends 43 = .ok (.aload_n 0, 1) := by decide +kernel
theorem dX11_ends_44 : decode cX11_ends 44 = .ok (.getfield 73, 3) := by decide +kernel
theorem dX11_ends_47 : decode cX11_ends 47 = .ok (.iload_n 3, 1) := by decide +kernel
theorem dX11_ends_48 : decode cX11_ends 48 = .ok (.invokevirtual 279, 3) := by decide +kernel
theorem dX11_ends_51 : decode cX11_ends 51 = .ok (.goto 11, 3) := by decide +kernel
theorem dX11_ends_54 : decode cX11_ends 54 = .ok (.aload_n 0, 1) := by decide +kernel
theorem dX11_ends_55 : decode cX11_ends 55 = .ok (.getfield 73, 3) := by decide +kernel
theorem dX11_ends_58 : decode cX11_ends 58 = .ok (.iload_n 3, 1) := by decide +kernel
theorem dX11_ends_59 : decode cX11_ends 59 = .ok (.invokevirtual 283, 3) := by decide +kernel
theorem dX11_ends_62 : decode cX11_ends 62 = .ok (.ireturn, 1) := by decide +kernel
theorem dX11_bays_0 : decode cX11_bays 0 = .ok (.aload_n 0, 1) := by decide +kernel
theorem dX11_bays_1 : decode cX11_bays 1 = .ok (.getfield 35, 3) := by decide +kernel
theorem dX11_bays_4 : decode cX11_bays 4 = .ok (.iload_n 1, 1) := by decide +kernel
theorem dX11_bays_5 : decode cX11_bays 5 = .ok (.invokevirtual 171, 3) := by decide +kernel
theorem dX11_bays_8 : decode cX11_bays 8 = .ok (.ifCond .eq 14, 3) := by decide +kernel
theorem dX11_bays_11 : decode cX11_bays 11 = .ok (.iload_n 2, 1) := by decide +kernel
theorem dX11_bays_12 : decode cX11_bays 12 = .ok (.iconst 1, 1) := by decide +kernel
theorem dX11_bays_13 : decode cX11_bays 13 = .ok (.if_icmp .lt 9, 3) := by decide +kernel
theorem dX11_bays_16 : decode cX11_bays 16 = .ok (.iload_n 2, 1) := by decide +kernel
theorem dX11_bays_17 : decode cX11_bays 17 = .ok (.bipush 9, 2) := by decide +kernel
theorem dX11_bays_19 : decode cX11_bays 19 = .ok (.if_icmp .le 5, 3) := by decide +kernel
theorem dX11_bays_22 : decode cX11_bays 22 = .ok (.iconst (-1), 1) := by decide +kernel
theorem dX11_bays_23 : decode cX11_bays 23 = .ok (.ireturn, 1) := by decide +kernel
theorem dX11_bays_24 : decode cX11_bays 24 = .ok (.aload_n 0, 1) := by decide +kernel
theorem dX11_bays_25 : decode cX11_bays 25 = .ok (.getfield 35, 3) := by decide +kernel
theorem dX11_bays_28 : decode cX11_bays 28 = .ok (.iload_n 1, 1) := by decide +kernel
theorem dX11_bays_29 : decode cX11_bays 29 = .ok (.invokevirtual 174, 3) := by decide +kernel
theorem dX11_bays_32 : decode cX11_bays 32 = .ok (.istore_n 3, 1) := by decide +kernel
theorem dX11_bays_33 : decode cX11_bays 33 = .ok (.iload_n 2, 1) := by decide +kernel
theorem dX11_bays_34 : decode cX11_bays 34 = .ok (.iload_n 3, 1) := by decide +kernel
theorem dX11_bays_35 : decode cX11_bays 35 = .ok (.if_icmp .ge 5, 3) := by decide +kernel
theorem dX11_bays_38 : decode cX11_bays 38 = .ok (.iconst 0, 1) := by decide +kernel
theorem dX11_bays_39 : decode cX11_bays 39 = .ok (.ireturn, 1) := by decide +kernel
theorem dX11_bays_40 : decode cX11_bays 40 = .ok (.iconst 0, 1) := by decide +kernel
theorem dX11_bays_41 : decode cX11_bays 41 = .ok (.istore 4, 2) := by decide +kernel
theorem dX11_bays_43 : decode cX11_bays 43 = .ok (.iconst 0, 1) := by decide +kernel
theorem dX11_bays_44 : decode cX11_bays 44 = .ok (.istore 5, 2) := by decide +kernel
theorem dX11_bays_46 : decode cX11_bays 46 = .ok (.iload 5, 2) := by decide +kernel
theorem dX11_bays_48 : decode cX11_bays 48 = .ok (.aload_n 0, 1) := by decide +kernel
theorem dX11_bays_49 : decode cX11_bays 49 = .ok (.getfield 35, 3) := by decide +kernel
theorem dX11_bays_52 : decode cX11_bays 52 = .ok (.getfield 286, 3) := by decide +kernel
theorem dX11_bays_55 : decode cX11_bays 55 = .ok (.if_icmp .ge 25, 3) := by decide +kernel
theorem dX11_bays_58 : decode cX11_bays 58 = .ok (.aload_n 0, 1) := by decide +kernel
theorem dX11_bays_59 : decode cX11_bays 59 = .ok (.iload 5, 2) := by decide +kernel
theorem dX11_bays_61 : decode cX11_bays 61 = .ok (.iload_n 3, 1) := by decide +kernel
theorem dX11_bays_62 : decode cX11_bays 62 = .ok (.invokevirtual 207, 3) := by decide +kernel
theorem dX11_bays_65 : decode cX11_bays 65 = .ok (.ifCond .eq 6, 3) := by decide +kernel
theorem dX11_bays_68 : decode cX11_bays 68 = .ok (.iinc 4 1, 3) := by decide +kernel
theorem dX11_bays_71 : decode cX11_bays 71 = .ok (.iload 5, 2) := by decide +kernel
theorem dX11_bays_73 : decode cX11_bays 73 = .ok (.iload_n 2, 1) := by decide +kernel
theorem dX11_bays_74 : decode cX11_bays 74 = .ok (.iadd, 1) := by decide +kernel
theorem dX11_bays_75 : decode cX11_bays 75 = .ok (.istore 5, 2) := by decide +kernel
theorem dX11_bays_77 : decode cX11_bays 77 = .ok (.goto (-31), 3) := by decide +kernel
theorem dX11_bays_80 : decode cX11_bays 80 = .ok (.iload 4, 2) := by decide +kernel
theorem dX11_bays_82 : decode cX11_bays 82 = .ok (.ireturn, 1) := by decide +kernel
theorem dX11_hearse_0 : decode cX11_hearse 0 = .ok (.aload_n 0, 1) := by decide +kernel
theorem dX11_hearse_1 : decode cX11_hearse 1 = .ok (.getfield 35, 3) := by decide +kernel
theorem dX11_hearse_4 : decode cX11_hearse 4 = .ok (.iload_n 1, 1) := by decide +kernel
theorem dX11_hearse_5 : decode cX11_hearse 5 = .ok (.invokevirtual 171, 3) := by decide +kernel
theorem dX11_hearse_8 : decode cX11_hearse 8 = .ok (.ifCond .eq 12, 3) := by decide +kernel
theorem dX11_hearse_11 : decode cX11_hearse 11 = .ok (.iload_n 2, 1) := by decide +kernel
theorem dX11_hearse_12 : decode cX11_hearse 12 = .ok (.ifCond .lt 8, 3) := by decide +kernel
theorem dX11_hearse_15 : decode cX11_hearse 15 = .ok (.iload_n 2, 1) := by decide +kernel
theorem dX11_hearse_16 : decode cX11_hearse 16 = .ok (.iconst 2, 1) := by decide +kernel
theorem dX11_hearse_17 : decode cX11_hearse 17 = .ok (.if_icmp .le 5, 3) := by decide +kernel
theorem dX11_hearse_20 : decode cX11_hearse 20 = .ok (.iconst (-1), 1) := by decide +kernel
theorem dX11_hearse_21 : decode cX11_hearse 21 = .ok (.ireturn, 1) := by decide +kernel
theorem dX11_hearse_22 : decode cX11_hearse 22 = .ok (.aload_n 0, 1) := by decide +kernel
theorem dX11_hearse_23 : decode cX11_hearse 23 = .ok (.getfield 89, 3) := by decide +kernel
theorem dX11_hearse_26 : decode cX11_hearse 26 = .ok (.aload_n 0, 1) := by decide +kernel
theorem dX11_hearse_27 : decode cX11_hearse 27 = .ok (.getfield 35, 3) := by decide +kernel
theorem dX11_hearse_30 : decode cX11_hearse 30 = .ok (.iload_n 1, 1) := by decide +kernel
theorem dX11_hearse_31 : decode cX11_hearse 31 = .ok (.invokevirtual 174, 3) := by decide +kernel
theorem dX11_hearse_34 : decode cX11_hearse 34 = .ok (.invokevirtual 289, 3) := by decide +kernel
theorem dX11_hearse_37 : decode cX11_hearse 37 = .ok (.iload_n 2, 1) := by decide +kernel
theorem dX11_hearse_38 : decode cX11_hearse 38 = .ok (.ifCond .ne 11, 3) := by decide +kernel
theorem dX11_hearse_41 : decode cX11_hearse 41 = .ok (.aload_n 0, 1) := by decide +kernel
theorem dX11_hearse_42 : decode cX11_hearse 42 = .ok (.getfield 89, 3) := by decide +kernel
theorem dX11_hearse_45 : decode cX11_hearse 45 = .ok (.getfield 292, 3) := by decide +kernel
theorem dX11_hearse_48 : decode cX11_hearse 48 = .ok (.ireturn, 1) := by decide +kernel
theorem dX11_hearse_49 : decode cX11_hearse 49 = .ok (.iload_n 2, 1) := by decide +kernel
theorem dX11_hearse_50 : decode cX11_hearse 50 = .ok (.iconst 1, 1) := by decide +kernel
theorem dX11_hearse_51 : decode cX11_hearse 51 = .ok (.if_icmp .ne 13, 3) := by decide +kernel
theorem dX11_hearse_54 : decode cX11_hearse 54 = .ok (.aload_n 0, 1) := by decide +kernel
theorem dX11_hearse_55 : decode cX11_hearse 55 = .ok (.getfield 89, 3) := by decide +kernel
theorem dX11_hearse_58 : decode cX11_hearse 58 = .ok (.getfield 295, 3) := by decide +kernel
theorem dX11_hearse_61 : decode cX11_hearse 61 = .ok (.goto 10, 3) := by decide +kernel
theorem dX11_hearse_64 : decode cX11_hearse 64 = .ok (.aload_n 0, 1) := by decide +kernel
theorem dX11_hearse_65 : decode cX11_hearse 65 = .ok (.getfield 89, 3) := by decide +kernel
theorem dX11_hearse_68 : decode cX11_hearse 68 = .ok (.getfield 298, 3) := by decide +kernel
theorem dX11_hearse_71 : decode cX11_hearse 71 = .ok (.ireturn, 1) := by decide +kernel
theorem dX11_gate_0 : decode cX11_gate 0 = .ok (.aload_n 0, 1) := by decide +kernel
theorem dX11_gate_1 : decode cX11_gate 1 = .ok (.getfield 35, 3) := by decide +kernel
theorem dX11_gate_4 : decode cX11_gate 4 = .ok (.iload_n 1, 1) := by decide +kernel
theorem dX11_gate_5 : decode cX11_gate 5 = .ok (.invokevirtual 171, 3) := by decide +kernel
theorem dX11_gate_8 : decode cX11_gate 8 = .ok (.ifCond .eq 12, 3) := by decide +kernel
theorem dX11_gate_11 : decode cX11_gate 11 = .ok (.iload_n 2, 1) := by decide +kernel
theorem dX11_gate_12 : decode cX11_gate 12 = .ok (.ifCond .lt 8, 3) := by decide +kernel
theorem dX11_gate_15 : decode cX11_gate 15 = .ok (.iload_n 2, 1) := by decide +kernel
theorem dX11_gate_16 : decode cX11_gate 16 = .ok (.iconst 1, 1) := by decide +kernel
theorem dX11_gate_17 : decode cX11_gate 17 = .ok (.if_icmp .le 7, 3) := by decide +kernel
theorem dX11_gate_20 : decode cX11_gate 20 = .ok (.ldc2_w 259, 3) := by decide +kernel
theorem dX11_gate_23 : decode cX11_gate 23 = .ok (.lreturn, 1) := by decide +kernel
theorem dX11_gate_24 : decode cX11_gate 24 = .ok (.aload_n 0, 1) := by decide +kernel
theorem dX11_gate_25 : decode cX11_gate 25 = .ok (.getfield 80, 3) := by decide +kernel
theorem dX11_gate_28 : decode cX11_gate 28 = .ok (.aload_n 0, 1) := by decide +kernel
theorem dX11_gate_29 : decode cX11_gate 29 = .ok (.getfield 35, 3) := by decide +kernel
theorem dX11_gate_32 : decode cX11_gate 32 = .ok (.iload_n 1, 1) := by decide +kernel
theorem dX11_gate_33 : decode cX11_gate 33 = .ok (.invokevirtual 174, 3) := by decide +kernel
theorem dX11_gate_36 : decode cX11_gate 36 = .ok (.iconst 0, 1) := by decide +kernel
theorem dX11_gate_37 : decode cX11_gate 37 = .ok (.invokevirtual 261, 3) := by decide +kernel
theorem dX11_gate_40 : decode cX11_gate 40 = .ok (.iconst (-1), 1) := by decide +kernel
theorem dX11_gate_41 : decode cX11_gate 41 = .ok (.istore_n 3, 1) := by decide +kernel
theorem dX11_gate_42 : decode cX11_gate 42 = .ok (.ldc2_w 259, 3) := by decide +kernel
theorem dX11_gate_45 : decode cX11_gate 45 = .ok (.lstore 4, 2) := by decide +kernel
theorem dX11_gate_47 : decode cX11_gate 47 = .ok (.iconst 0, 1) := by decide +kernel
theorem dX11_gate_48 : decode cX11_gate 48 = .ok (.istore 6, 2) := by decide +kernel
theorem dX11_gate_50 : decode cX11_gate 50 = .ok (.iload 6, 2) := by decide +kernel
theorem dX11_gate_52 : decode cX11_gate 52 = .ok (.aload_n 0, 1) := by decide +kernel
theorem dX11_gate_53 : decode cX11_gate 53 = .ok (.getfield 35, 3) := by decide +kernel
theorem dX11_gate_56 : decode cX11_gate 56 = .ok (.getfield 286, 3) := by decide +kernel
theorem dX11_gate_59 : decode cX11_gate 59 = .ok (.if_icmp .ge 66, 3) := by decide +kernel
theorem dX11_gate_62 : decode cX11_gate 62 = .ok (.aload_n 0, 1) := by decide +kernel
theorem dX11_gate_63 : decode cX11_gate 63 = .ok (.getfield 35, 3) := by decide +kernel
theorem dX11_gate_66 : decode cX11_gate 66 = .ok (.iload 6, 2) := by decide +kernel
theorem dX11_gate_68 : decode cX11_gate 68 = .ok (.invokevirtual 168, 3) := by decide +kernel
theorem dX11_gate_71 : decode cX11_gate 71 = .ok (.ifCond .ne 48, 3) := by decide +kernel
theorem dX11_gate_74 : decode cX11_gate 74 = .ok (.aload_n 0, 1) := by decide +kernel
theorem dX11_gate_75 : decode cX11_gate 75 = .ok (.getfield 73, 3) := by decide +kernel
theorem dX11_gate_78 : decode cX11_gate 78 = .ok (.aload_n 0, 1) := by decide +kernel
theorem dX11_gate_79 : decode cX11_gate 79 = .ok (.getfield 35, 3) := by decide +kernel
theorem dX11_gate_82 : decode cX11_gate 82 = .ok (.aload_n 0, 1) := by decide +kernel
theorem dX11_gate_83 : decode cX11_gate 83 = .ok (.getfield 57, 3) := by decide +kernel
theorem dX11_gate_86 : decode cX11_gate 86 = .ok (.iload 6, 2) := by decide +kernel
theorem dX11_gate_88 : decode cX11_gate 88 = .ok (.invokevirtual 301, 3) := by decide +kernel
theorem dX11_gate_91 : decode cX11_gate 91 = .ok (.aload_n 0, 1) := by decide +kernel
theorem dX11_gate_92 : decode cX11_gate 92 = .ok (.getfield 80, 3) := by decide +kernel
theorem dX11_gate_95 : decode cX11_gate 95 = .ok (.aload_n 0, 1) := by decide +kernel
theorem dX11_gate_96 : decode cX11_gate 96 = .ok (.getfield 73, 3) := by decide +kernel
theorem dX11_gate_99 : decode cX11_gate 99 = .ok (.invokevirtual 265, 3) := by decide +kernel
theorem dX11_gate_102 : decode cX11_gate 102 = .ok (.lstore 7, 2) := by decide +kernel
theorem dX11_gate_104 : decode cX11_gate 104 = .ok (.lload 7, 2) := by decide +kernel
theorem dX11_gate_106 : decode cX11_gate 106 = .ok (.lload 4, 2) := by decide +kernel
theorem dX11_gate_108 : decode cX11_gate 108 = .ok (.lcmp, 1) := by decide +kernel
theorem dX11_gate_109 : decode cX11_gate 109 = .ok (.ifCond .le 10, 3) := by decide +kernel
theorem dX11_gate_112 : decode cX11_gate 112 = .ok (.iload 6, 2) := by decide +kernel
theorem dX11_gate_114 : decode cX11_gate 114 = .ok (.istore_n 3, 1) := by decide +kernel
theorem dX11_gate_115 : decode cX11_gate 115 = .ok (.lload 7, 2) := by decide +kernel
theorem dX11_gate_117 : decode cX11_gate 117 = .ok (.lstore 4, 2) := by decide +kernel
theorem dX11_gate_119 : decode cX11_gate 119 = .ok (.iinc 6 1, 3) := by decide +kernel
theorem dX11_gate_122 : decode cX11_gate 122 = .ok (.goto (-72), 3) := by decide +kernel
theorem dX11_gate_125 : decode cX11_gate 125 = .ok (.iload_n 2, 1) := by decide +kernel
theorem dX11_gate_126 : decode cX11_gate 126 = .ok (.ifCond .ne 8, 3) := by decide +kernel
theorem dX11_gate_129 : decode cX11_gate 129 = .ok (.iload_n 3, 1) := by decide +kernel
theorem dX11_gate_130 : decode cX11_gate 130 = .ok (.i2l, 1) := by decide +kernel
theorem dX11_gate_131 : decode cX11_gate 131 = .ok (.goto 5, 3) := by decide +kernel
theorem dX11_gate_134 : decode cX11_gate 134 = .ok (.lload 4, 2) := by decide +kernel
theorem dX11_gate_136 : decode cX11_gate 136 = .ok (.lreturn, 1) := by decide +kernel
theorem dX11_came_0 : decode cX11_came 0 = .ok (.aload_n 0, 1) := by decide +kernel
theorem dX11_came_1 : decode cX11_came 1 = .ok (.invokevirtual 180, 3) := by decide +kernel
theorem dX11_came_4 : decode cX11_came 4 = .ok (.ifCond .eq 15, 3) := by decide +kernel
theorem dX11_came_7 : decode cX11_came 7 = .ok (.aload_n 0, 1) := by decide +kernel
theorem dX11_came_8 : decode cX11_came 8 = .ok (.getfield 53, 3) := by decide +kernel
theorem dX11_came_11 : decode cX11_came 11 = .ok (.getfield 224, 3) := by decide +kernel
theorem dX11_came_14 : decode cX11_came 14 = .ok (.bipush 12, 2) := by decide +kernel
theorem dX11_came_16 : decode cX11_came 16 = .ok (.if_icmp .le 7, 3) := by decide +kernel
theorem dX11_came_19 : decode cX11_came 19 = .ok (.ldc2_w 259, 3) := by decide +kernel
theorem dX11_came_22 : decode cX11_came 22 = .ok (.lreturn, 1) := by decide +kernel
theorem dX11_came_23 : decode cX11_came 23 = .ok (.aload_n 0, 1) := by decide +kernel
theorem dX11_came_24 : decode cX11_came 24 = .ok (.getfield 96, 3) := by decide +kernel
theorem dX11_came_27 : decode cX11_came 27 = .ok (.invokevirtual 305, 3) := by decide +kernel
theorem dX11_came_30 : decode cX11_came 30 = .ok (.aload_n 0, 1) := by decide +kernel
theorem dX11_came_31 : decode cX11_came 31 = .ok (.getfield 96, 3) := by decide +kernel
theorem dX11_came_34 : decode cX11_came 34 = .ok (.getfield 308, 3) := by decide +kernel
theorem dX11_came_37 : decode cX11_came 37 = .ok (.lreturn, 1) := by decide +kernel
theorem dX11_last_0 : decode cX11_last 0 = .ok (.aload_n 0, 1) := by decide +kernel
theorem dX11_last_1 : decode cX11_last 1 = .ok (.invokevirtual 180, 3) := by decide +kernel
theorem dX11_last_4 : decode cX11_last 4 = .ok (.ifCond .eq 15, 3) := by decide +kernel
theorem dX11_last_7 : decode cX11_last 7 = .ok (.aload_n 0, 1) := by decide +kernel
theorem dX11_last_8 : decode cX11_last 8 = .ok (.getfield 53, 3) := by decide +kernel
theorem dX11_last_11 : decode cX11_last 11 = .ok (.getfield 224, 3) := by decide +kernel
theorem dX11_last_14 : decode cX11_last 14 = .ok (.bipush 12, 2) := by decide +kernel
theorem dX11_last_16 : decode cX11_last 16 = .ok (.if_icmp .le 5, 3) := by decide +kernel
theorem dX11_last_19 : decode cX11_last 19 = .ok (.iconst (-1), 1) := by decide +kernel
theorem dX11_last_20 : decode cX11_last 20 = .ok (.ireturn, 1) := by decide +kernel
theorem dX11_last_21 : decode cX11_last 21 = .ok (.aload_n 0, 1) := by decide +kernel
theorem dX11_last_22 : decode cX11_last 22 = .ok (.getfield 96, 3) := by decide +kernel
theorem dX11_last_25 : decode cX11_last 25 = .ok (.invokevirtual 305, 3) := by decide +kernel
theorem dX11_last_28 : decode cX11_last 28 = .ok (.aload_n 0, 1) := by decide +kernel
theorem dX11_last_29 : decode cX11_last 29 = .ok (.getfield 96, 3) := by decide +kernel
theorem dX11_last_32 : decode cX11_last 32 = .ok (.getfield 308, 3) := by decide +kernel
theorem dX11_last_35 : decode cX11_last 35 = .ok (.lconst 0, 1) := by decide +kernel
theorem dX11_last_36 : decode cX11_last 36 = .ok (.lcmp, 1) := by decide +kernel
theorem dX11_last_37 : decode cX11_last 37 = .ok (.ifCond .ne 7, 3) := by decide +kernel
theorem dX11_last_40 : decode cX11_last 40 = .ok (.iconst 0, 1) := by decide +kernel
theorem dX11_last_41 : decode cX11_last 41 = .ok (.goto 10, 3) := by decide +kernel
theorem dX11_last_44 : decode cX11_last 44 = .ok (.aload_n 0, 1) := by decide +kernel
theorem dX11_last_45 : decode cX11_last 45 = .ok (.getfield 96, 3) := by decide +kernel
theorem dX11_last_48 : decode cX11_last 48 = .ok (.getfield 311, 3) := by decide +kernel
theorem dX11_last_51 : decode cX11_last 51 = .ok (.ireturn, 1) := by decide +kernel
theorem dX11_seek_0 : decode cX11_seek 0 = .ok (.iload_n 1, 1) := by decide +kernel
theorem dX11_seek_1 : decode cX11_seek 1 = .ok (.iload_n 2, 1) := by decide +kernel
theorem dX11_seek_2 : decode cX11_seek 2 = .ok (.iload_n 3, 1) := by decide +kernel
theorem dX11_seek_3 : decode cX11_seek 3 = .ok (.iload 4, 2) := by decide +kernel
theorem dX11_seek_5 : decode cX11_seek 5 = .ok (.iload 5, 2) := by decide +kernel
theorem dX11_seek_7 : decode cX11_seek 7 = .ok (.invokestatic 314, 3) := by decide +kernel
theorem dX11_seek_10 : decode cX11_seek 10 = .ok (.ifCond .eq 17, 3) := by decide +kernel
theorem dX11_seek_13 : decode cX11_seek 13 = .ok (.iconst 0, 1) := by decide +kernel
theorem dX11_seek_14 : decode cX11_seek 14 = .ok (.iload_n 1, 1) := by decide +kernel
theorem dX11_seek_15 : decode cX11_seek 15 = .ok (.iload_n 2, 1) := by decide +kernel
theorem dX11_seek_16 : decode cX11_seek 16 = .ok (.iload_n 3, 1) := by decide +kernel
theorem dX11_seek_17 : decode cX11_seek 17 = .ok (.iload 4, 2) := by decide +kernel
theorem dX11_seek_19 : decode cX11_seek 19 = .ok (.iload 5, 2) := by decide +kernel
theorem dX11_seek_21 : decode cX11_seek 21 = .ok (.invokestatic 318, 3) := by decide +kernel
theorem dX11_seek_24 : decode cX11_seek 24 = .ok (.goto 4, 3) := by decide +kernel
theorem dX11_seek_27 : decode cX11_seek 27 = .ok (.iconst (-1), 1) := by decide +kernel
theorem dX11_seek_28 : decode cX11_seek 28 = .ok (.ireturn, 1) := by decide +kernel
theorem dX11_take_0 : decode cX11_take 0 = .ok (.iload_n 1, 1) := by decide +kernel
theorem dX11_take_1 : decode cX11_take 1 = .ok (.iload_n 2, 1) := by decide +kernel
theorem dX11_take_2 : decode cX11_take 2 = .ok (.iload_n 3, 1) := by decide +kernel
theorem dX11_take_3 : decode cX11_take 3 = .ok (.iload 4, 2) := by decide +kernel
theorem dX11_take_5 : decode cX11_take 5 = .ok (.iload 5, 2) := by decide +kernel
theorem dX11_take_7 : decode cX11_take 7 = .ok (.invokestatic 314, 3) := by decide +kernel
theorem dX11_take_10 : decode cX11_take 10 = .ok (.ifCond .eq 17, 3) := by decide +kernel
theorem dX11_take_13 : decode cX11_take 13 = .ok (.iconst 1, 1) := by decide +kernel
theorem dX11_take_14 : decode cX11_take 14 = .ok (.iload_n 1, 1) := by decide +kernel
theorem dX11_take_15 : decode cX11_take 15 = .ok (.iload_n 2, 1) := by decide +kernel
theorem dX11_take_16 : decode cX11_take 16 = .ok (.iload_n 3, 1) := by decide +kernel
theorem dX11_take_17 : decode cX11_take 17 = .ok (.iload 4, 2) := by decide +kernel
theorem dX11_take_19 : decode cX11_take 19 = .ok (.iload 5, 2) := by decide +kernel
theorem dX11_take_21 : decode cX11_take 21 = .ok (.invokestatic 318, 3) := by decide +kernel
theorem dX11_take_24 : decode cX11_take 24 = .ok (.goto 4, 3) := by decide +kernel
theorem dX11_take_27 : decode cX11_take 27 = .ok (.iconst (-1), 1) := by decide +kernel
theorem dX11_take_28 : decode cX11_take 28 = .ok (.ireturn, 1) := by decide +kernel
theorem dX11_canSeek_0 : decode cX11_canSeek 0 = .ok (.iload_n 0, 1) := by decide +kernel
theorem dX11_canSeek_1 : decode cX11_canSeek 1 = .ok (.iconst 1, 1) := by decide +kernel
theorem dX11_canSeek_2 : decode cX11_canSeek 2 = .ok (.bipush 50, 2) := by decide +kernel
theorem dX11_canSeek_4 : decode cX11_canSeek 4 = .ok (.invokestatic 322, 3) := by decide +kernel
theorem dX11_canSeek_7 : decode cX11_canSeek 7 = .ok (.ifCond .eq 49, 3) := by decide +kernel
theorem dX11_canSeek_10 : decode cX11_canSeek 10 = .ok (.iload_n 1, 1) := by decide +kernel
theorem dX11_canSeek_11 : decode cX11_canSeek 11 = .ok (.iconst 0, 1) := by decide +kernel
theorem dX11_canSeek_12 : decode cX11_canSeek 12 = .ok (.bipush 100, 2) := by decide +kernel
theorem dX11_canSeek_14 : decode cX11_canSeek 14 = .ok (.invokestatic 322, 3) := by decide +kernel
theorem dX11_canSeek_17 : decode cX11_canSeek 17 = .ok (.ifCond .eq 39, 3) := by decide +kernel
theorem dX11_canSeek_20 : decode cX11_canSeek 20 = .ok (.iload_n 2, 1) := by decide +kernel
theorem dX11_canSeek_21 : decode cX11_canSeek 21 = .ok (.iconst 0, 1) := by decide +kernel
theorem dX11_canSeek_22 : decode cX11_canSeek 22 = .ok (.bipush 50, 2) := by decide +kernel
theorem dX11_canSeek_24 : decode cX11_canSeek 24 = .ok (.invokestatic 322, 3) := by decide +kernel
theorem dX11_canSeek_27 : decode cX11_canSeek 27 = .ok (.ifCond .eq 29, 3) := by decide +kernel
theorem dX11_canSeek_30 : decode cX11_canSeek 30 = .ok (.iload_n 3, 1) := by decide +kernel
theorem dX11_canSeek_31 : decode cX11_canSeek 31 = .ok (.iconst 0, 1) := by decide +kernel
theorem dX11_canSeek_32 : decode cX11_canSeek 32 = .ok (.bipush 99, 2) := by decide +kernel
theorem dX11_canSeek_34 : decode cX11_canSeek 34 = .ok (.invokestatic 322, 3) := by decide +kernel
theorem dX11_canSeek_37 : decode cX11_canSeek 37 = .ok (.ifCond .eq 19, 3) := by decide +kernel
theorem dX11_canSeek_40 : decode cX11_canSeek 40 = .ok (.iload 4, 2) := by decide +kernel
theorem dX11_canSeek_42 : decode cX11_canSeek 42 = .ok (.iconst 0, 1) := by decide +kernel
theorem dX11_canSeek_43 : decode cX11_canSeek 43 = .ok (.sipush 9999, 3) := by decide +kernel
theorem dX11_canSeek_46 : decode cX11_canSeek 46 = .ok (.invokestatic 322, 3) := by decide +kernel
theorem dX11_canSeek_49 : decode cX11_canSeek 49 = .ok (.ifCond .eq 7, 3) := by decide +kernel
theorem dX11_canSeek_52 : decode cX11_canSeek 52 = .ok (.iconst 1, 1) := by decide +kernel
theorem dX11_canSeek_53 : decode cX11_canSeek 53 = .ok (.goto 4, 3) := by decide +kernel
theorem dX11_canSeek_56 : decode cX11_canSeek 56 = .ok (.iconst 0, 1) := by decide +kernel
theorem dX11_canSeek_57 : decode cX11_canSeek 57 = .ok (.ireturn, 1) := by decide +kernel
theorem dX11_within_0 : decode cX11_within 0 = .ok (.iload_n 0, 1) := by decide +kernel
theorem dX11_within_1 : decode cX11_within 1 = .ok (.iload_n 1, 1) := by decide +kernel
theorem dX11_within_2 : decode cX11_within 2 = .ok (.if_icmp .lt 12, 3) := by decide +kernel
theorem dX11_within_5 : decode cX11_within 5 = .ok (.iload_n 0, 1) := by decide +kernel
theorem dX11_within_6 : decode cX11_within 6 = .ok (.iload_n 2, 1) := by decide +kernel
theorem dX11_within_7 : decode cX11_within 7 = .ok (.if_icmp .gt 7, 3) := by decide +kernel
theorem dX11_within_10 : decode cX11_within 10 = .ok (.iconst 1, 1) := by decide +kernel
theorem dX11_within_11 : decode cX11_within 11 = .ok (.goto 4, 3) := by decide +kernel
theorem dX11_within_14 : decode cX11_within 14 = .ok (.iconst 0, 1) := by decide +kernel
theorem dX11_within_15 : decode cX11_within 15 = .ok (.ireturn, 1) := by decide +kernel
theorem dX11_driven_0 : decode cX11_driven 0 = .ok (.iconst (-1), 1) := by decide +kernel
theorem dX11_driven_1 : decode cX11_driven 1 = .ok (.istore 6, 2) := by decide +kernel
theorem dX11_driven_3 : decode cX11_driven 3 = .ok (.sipush 1000, 3) := by decide +kernel
theorem dX11_driven_6 : decode cX11_driven 6 = .ok (.iload 5, 2) := by decide +kernel
theorem dX11_driven_8 : decode cX11_driven 8 = .ok (.imul, 1) := by decide +kernel
theorem dX11_driven_9 : decode cX11_driven 9 = .ok (.istore 7, 2) := by decide +kernel
theorem dX11_driven_11 : decode cX11_driven 11 = .ok (.iload_n 1, 1) := by decide +kernel
theorem dX11_driven_12 : decode cX11_driven 12 = .ok (.istore 8, 2) := by decide +kernel
theorem dX11_driven_14 : decode cX11_driven 14 = .ok (.iload 8, 2) := by decide +kernel
theorem dX11_driven_16 : decode cX11_driven 16 = .ok (.iconst 1, 1) := by decide +kernel
theorem dX11_driven_17 : decode cX11_driven 17 = .ok (.if_icmp .lt 58, 3) := by decide +kernel
theorem dX11_driven_20 : decode cX11_driven 20 = .ok (.sipush 1000, 3) := by decide +kernel
theorem dX11_driven_23 : decode cX11_driven 23 = .ok (.iload 4, 2) := by decide +kernel
theorem dX11_driven_25 : decode cX11_driven 25 = .ok (.imul, 1) := by decide +kernel
theorem dX11_driven_26 : decode cX11_driven 26 = .ok (.iload 8, 2) := by decide +kernel
theorem dX11_driven_28 : decode cX11_driven 28 = .ok (.iload_n 3, 1) := by decide +kernel
theorem dX11_driven_29 : decode cX11_driven 29 = .ok (.isub, 1) := by decide +kernel
theorem dX11_driven_30 : decode cX11_driven 30 = .ok (.invokestatic 326, 3) := by decide +kernel
theorem dX11_driven_33 : decode cX11_driven 33 = .ok (.imul, 1) := by decide +kernel
theorem dX11_driven_34 : decode cX11_driven 34 = .ok (.istore 9, 2) := by decide +kernel
theorem dX11_driven_36 : decode cX11_driven 36 = .ok (.iload 9, 2) := by decide +kernel
theorem dX11_driven_38 : decode cX11_driven 38 = .ok (.iload 7, 2) := by decide +kernel
theorem dX11_driven_40 : decode cX11_driven 40 = .ok (.if_icmp .gt 7, 3) := by decide +kernel
theorem dX11_driven_43 : decode cX11_driven 43 = .ok (.iload 8, 2) := by decide +kernel
theorem dX11_driven_45 : decode cX11_driven 45 = .ok (.istore 6, 2) := by decide +kernel
theorem dX11_driven_47 : decode cX11_driven 47 = .ok (.iload_n 2, 1) := by decide +kernel
theorem dX11_driven_48 : decode cX11_driven 48 = .ok (.iload 9, 2) := by decide +kernel
theorem dX11_driven_50 : decode cX11_driven 50 = .ok (.iload 7, 2) := by decide +kernel
theorem dX11_driven_52 : decode cX11_driven 52 = .ok (.invokestatic 331, 3) := by decide +kernel
theorem dX11_driven_55 : decode cX11_driven 55 = .ok (.imul, 1) := by decide +kernel
theorem dX11_driven_56 : decode cX11_driven 56 = .ok (.bipush 100, 2) := by decide +kernel
theorem dX11_driven_58 : decode cX11_driven 58 = .ok (.iload_n 2, 1) := by decide +kernel
theorem dX11_driven_59 : decode cX11_driven 59 = .ok (.isub, 1) := by decide +kernel
theorem dX11_driven_60 : decode cX11_driven 60 = .ok (.iload 7, 2) := by decide +kernel
theorem dX11_driven_62 : decode cX11_driven 62 = .ok (.imul, 1) := by decide +kernel
theorem dX11_driven_63 : decode cX11_driven 63 = .ok (.iadd, 1) := by decide +kernel
theorem dX11_driven_64 : decode cX11_driven 64 = .ok (.bipush 100, 2) := by decide +kernel
theorem dX11_driven_66 : decode cX11_driven 66 = .ok (.idiv, 1) := by decide +kernel
theorem dX11_driven_67 : decode cX11_driven 67 = .ok (.istore 7, 2) := by decide +kernel
theorem dX11_driven_69 : decode cX11_driven 69 = .ok (.iinc 8 (-1), 3) := by decide +kernel
theorem dX11_driven_72 : decode cX11_driven 72 = .ok (.goto (-58), 3) := by decide +kernel
theorem dX11_driven_75 : decode cX11_driven 75 = .ok (.iload_n 0, 1) := by decide +kernel
theorem dX11_driven_76 : decode cX11_driven 76 = .ok (.ifCond .eq 8, 3) := by decide +kernel
theorem dX11_driven_79 : decode cX11_driven 79 = .ok (.iload 6, 2) := by decide +kernel
theorem dX11_driven_81 : decode cX11_driven 81 = .ok (.goto 5, 3) := by decide +kernel
theorem dX11_driven_84 : decode cX11_driven 84 = .ok (.iload 7, 2) := by decide +kernel
theorem dX11_driven_86 : decode cX11_driven 86 = .ok (.ireturn, 1) := by decide +kernel
theorem dX11_gaps_0 : decode cX11_gaps 0 = .ok (.aload_n 0, 1) := by decide +kernel
theorem dX11_gaps_1 : decode cX11_gaps 1 = .ok (.invokevirtual 180, 3) := by decide +kernel
theorem dX11_gaps_4 : decode cX11_gaps 4 = .ok (.ifCond .ne 5, 3) := by decide +kernel
theorem dX11_gaps_7 : decode cX11_gaps 7 = .ok (.iconst (-1), 1) := by decide +kernel
theorem dX11_gaps_8 : decode cX11_gaps 8 = .ok (.ireturn, 1) := by decide +kernel
theorem dX11_gaps_9 : decode cX11_gaps 9 = .ok (.aload_n 0, 1) := by decide +kernel
theorem dX11_gaps_10 : decode cX11_gaps 10 = .ok (.invokevirtual 187, 3) := by decide +kernel
theorem dX11_gaps_13 : decode cX11_gaps 13 = .ok (.iload_n 1, 1) := by decide +kernel
theorem dX11_gaps_14 : decode cX11_gaps 14 = .ok (.tableswitch 71 0 3 #[30, 38, 46, 56], 30) := by decide +kernel
theorem dX11_gaps_44 : decode cX11_gaps 44 = .ok (.aload_n 0, 1) := by decide +kernel
theorem dX11_gaps_45 : decode cX11_gaps 45 = .ok (.getfield 73, 3) := by decide +kernel
theorem dX11_gaps_48 : decode cX11_gaps 48 = .ok (.invokevirtual 269, 3) := by decide +kernel
theorem dX11_gaps_51 : decode cX11_gaps 51 = .ok (.ireturn, 1) := by decide +kernel
theorem dX11_gaps_52 : decode cX11_gaps 52 = .ok (.aload_n 0, 1) := by decide +kernel
theorem dX11_gaps_53 : decode cX11_gaps 53 = .ok (.getfield 73, 3) := by decide +kernel
theorem dX11_gaps_56 : decode cX11_gaps 56 = .ok (.getfield 334, 3) := by decide +kernel
theorem dX11_gaps_59 : decode cX11_gaps 59 = .ok (.ireturn, 1) := by decide +kernel
theorem dX11_gaps_60 : decode cX11_gaps 60 = .ok (.aload_n 0, 1) := by decide +kernel
theorem dX11_gaps_61 : decode cX11_gaps 61 = .ok (.getfield 73, 3) := by decide +kernel
theorem dX11_gaps_64 : decode cX11_gaps 64 = .ok (.bipush 21, 2) := by decide +kernel
theorem dX11_gaps_66 : decode cX11_gaps 66 = .ok (.invokevirtual 335, 3) := by decide +kernel
theorem dX11_gaps_69 : decode cX11_gaps 69 = .ok (.ireturn, 1) := by decide +kernel
theorem dX11_gaps_70 : decode cX11_gaps 70 = .ok (.aload_n 0, 1) := by decide +kernel
theorem dX11_gaps_71 : decode cX11_gaps 71 = .ok (.getfield 73, 3) := by decide +kernel
theorem dX11_gaps_74 : decode cX11_gaps 74 = .ok (.aload_n 0, 1) := by decide +kernel
theorem dX11_gaps_75 : decode cX11_gaps 75 = .ok (.getfield 35, 3) := by decide +kernel
theorem dX11_gaps_78 : decode cX11_gaps 78 = .ok (.invokevirtual 338, 3) := by decide +kernel
theorem dX11_gaps_81 : decode cX11_gaps 81 = .ok (.invokevirtual 335, 3) := by decide +kernel
theorem dX11_gaps_84 : decode cX11_gaps 84 = .ok (.ireturn, 1) := by decide +kernel
theorem dX11_gaps_85 : decode cX11_gaps 85 = .ok (.iconst (-1), 1) := by decide +kernel
theorem dX11_gaps_86 : decode cX11_gaps 86 = .ok (.ireturn, 1) := by decide +kernel
theorem dX11_image_0 : decode cX11_image 0 = .ok (.aload_n 0, 1) := by decide +kernel
theorem dX11_image_1 : decode cX11_image 1 = .ok (.invokevirtual 180, 3) := by decide +kernel
theorem dX11_image_4 : decode cX11_image 4 = .ok (.ifCond .ne 5, 3) := by decide +kernel
theorem dX11_image_7 : decode cX11_image 7 = .ok (.iconst (-1), 1) := by decide +kernel
theorem dX11_image_8 : decode cX11_image 8 = .ok (.ireturn, 1) := by decide +kernel
theorem dX11_image_9 : decode cX11_image 9 = .ok (.aload_n 0, 1) := by decide +kernel
theorem dX11_image_10 : decode cX11_image 10 = .ok (.getfield 60, 3) := by decide +kernel
theorem dX11_image_13 : decode cX11_image 13 = .ok (.aload_n 0, 1) := by decide +kernel
theorem dX11_image_14 : decode cX11_image 14 = .ok (.getfield 53, 3) := by decide +kernel
theorem dX11_image_17 : decode cX11_image 17 = .ok (.invokevirtual 133, 3) := by decide +kernel
theorem dX11_image_20 : decode cX11_image 20 = .ok (.aload_n 0, 1) := by decide +kernel
theorem dX11_image_21 : decode cX11_image 21 = .ok (.iconst 1, 1) := by decide +kernel
theorem dX11_image_22 : decode cX11_image 22 = .ok (.putfield 139, 3) := by decide +kernel
theorem dX11_image_25 : decode cX11_image 25 = .ok (.aload_n 0, 1) := by decide +kernel
theorem dX11_image_26 : decode cX11_image 26 = .ok (.getfield 53, 3) := by decide +kernel
theorem dX11_image_29 : decode cX11_image 29 = .ok (.getfield 224, 3) := by decide +kernel
theorem dX11_image_32 : decode cX11_image 32 = .ok (.ireturn, 1) := by decide +kernel
theorem dX11_back_0 : decode cX11_back 0 = .ok (.aload_n 0, 1) := by decide +kernel
theorem dX11_back_1 : decode cX11_back 1 = .ok (.getfield 139, 3) := by decide +kernel
theorem dX11_back_4 : decode cX11_back 4 = .ok (.ifCond .ne 5, 3) := by decide +kernel
theorem dX11_back_7 : decode cX11_back 7 = .ok (.iconst (-1), 1) := by decide +kernel
theorem dX11_back_8 : decode cX11_back 8 = .ok (.ireturn, 1) := by decide +kernel
theorem dX11_back_9 : decode cX11_back 9 = .ok (.aload_n 0, 1) := by decide +kernel
theorem dX11_back_10 : decode cX11_back 10 = .ok (.getfield 53, 3) := by decide +kernel
theorem dX11_back_13 : decode cX11_back 13 = .ok (.aload_n 0, 1) := by decide +kernel
theorem dX11_back_14 : decode cX11_back 14 = .ok (.getfield 60, 3) := by decide +kernel
theorem dX11_back_17 : decode cX11_back 17 = .ok (.invokevirtual 133, 3) := by decide +kernel
theorem dX11_back_20 : decode cX11_back 20 = .ok (.aload_n 0, 1) := by decide +kernel
theorem dX11_back_21 : decode cX11_back 21 = .ok (.getfield 66, 3) := by decide +kernel
theorem dX11_back_24 : decode cX11_back 24 = .ok (.invokevirtual 136, 3) := by decide +kernel
theorem dX11_back_27 : decode cX11_back 27 = .ok (.aload_n 0, 1) := by decide +kernel
theorem dX11_back_28 : decode cX11_back 28 = .ok (.getfield 53, 3) := by decide +kernel
theorem dX11_back_31 : decode cX11_back 31 = .ok (.getfield 224, 3) := by decide +kernel
theorem dX11_back_34 : decode cX11_back 34 = .ok (.ireturn, 1) := by decide +kernel
theorem dX11_count_0 : decode cX11_count 0 = .ok (.iload_n 1, 1) := by decide +kernel
theorem dX11_count_1 : decode cX11_count 1 = .ok (.tableswitch 144 0 10 #[59, 67, 75, 80, 88, 96, 104, 112, 120, 128, 136], 59) := by decide +kernel
theorem dX11_count_60 : decode cX11_count 60 = .ok (.aload_n 0, 1) := by decide +kernel
theorem dX11_count_61 : decode cX11_count 61 = .ok (.getfield 35, 3) := by decide +kernel
theorem dX11_count_64 : decode cX11_count 64 = .ok (.getfield 286, 3) := by decide +kernel
theorem dX11_count_67 : decode cX11_count 67 = .ok (.ireturn, 1) := by decide +kernel
theorem dX11_count_68 : decode cX11_count 68 = .ok (.aload_n 0, 1) := by decide +kernel
theorem dX11_count_69 : decode cX11_count 69 = .ok (.getfield 35, 3) := by decide +kernel
theorem dX11_count_72 : decode cX11_count 72 = .ok (.getfield 143, 3) := by decide +kernel
theorem dX11_count_75 : decode cX11_count 75 = .ok (.ireturn, 1) := by decide +kernel
theorem dX11_count_76 : decode cX11_count 76 = .ok (.aload_n 0, 1) := by decide +kernel
theorem dX11_count_77 : decode cX11_count 77 = .ok (.getfield 146, 3) := by decide +kernel
theorem dX11_count_80 : decode cX11_count 80 = .ok (.ireturn, 1) := by decide +kernel
theorem dX11_count_81 : decode cX11_count 81 = .ok (.aload_n 0, 1) := by decide +kernel
theorem dX11_count_82 : decode cX11_count 82 = .ok (.getfield 10, 3) := by decide +kernel
theorem dX11_count_85 : decode cX11_count 85 = .ok (.getfield 108, 3) := by decide +kernel
theorem dX11_count_88 : decode cX11_count 88 = .ok (.ireturn, 1) := by decide +kernel
theorem dX11_count_89 : decode cX11_count 89 = .ok (.aload_n 0, 1) := by decide +kernel
theorem dX11_count_90 : decode cX11_count 90 = .ok (.getfield 53, 3) := by decide +kernel
theorem dX11_count_93 : decode cX11_count 93 = .ok (.getfield 224, 3) := by decide +kernel
theorem dX11_count_96 : decode cX11_count 96 = .ok (.ireturn, 1) := by decide +kernel
theorem dX11_count_97 : decode cX11_count 97 = .ok (.aload_n 0, 1) := by decide +kernel
theorem dX11_count_98 : decode cX11_count 98 = .ok (.getfield 35, 3) := by decide +kernel
theorem dX11_count_101 : decode cX11_count 101 = .ok (.getfield 184, 3) := by decide +kernel
theorem dX11_count_104 : decode cX11_count 104 = .ok (.ireturn, 1) := by decide +kernel
theorem dX11_count_105 : decode cX11_count 105 = .ok (.aload_n 0, 1) := by decide +kernel
theorem dX11_count_106 : decode cX11_count 106 = .ok (.getfield 35, 3) := by decide +kernel
theorem dX11_count_109 : decode cX11_count 109 = .ok (.getfield 221, 3) := by decide +kernel
theorem dX11_count_112 : decode cX11_count 112 = .ok (.ireturn, 1) := by decide +kernel
theorem dX11_count_113 : decode cX11_count 113 = .ok (.aload_n 0, 1) := by decide +kernel
theorem dX11_count_114 : decode cX11_count 114 = .ok (.getfield 66, 3) := by decide +kernel
theorem dX11_count_117 : decode cX11_count 117 = .ok (.getfield 255, 3) := by decide +kernel
theorem dX11_count_120 : decode cX11_count 120 = .ok (.ireturn, 1) := by decide +kernel
theorem dX11_count_121 : decode cX11_count 121 = .ok (.aload_n 0, 1) := by decide +kernel
theorem dX11_count_122 : decode cX11_count 122 = .ok (.getfield 53, 3) := by decide +kernel
theorem dX11_count_125 : decode cX11_count 125 = .ok (.getfield 248, 3) := by decide +kernel
theorem dX11_count_128 : decode cX11_count 128 = .ok (.ireturn, 1) := by decide +kernel
theorem dX11_count_129 : decode cX11_count 129 = .ok (.aload_n 0, 1) := by decide +kernel
theorem dX11_count_130 : decode cX11_count 130 = .ok (.getfield 53, 3) := by decide +kernel
theorem dX11_count_133 : decode cX11_count 133 = .ok (.getfield 236, 3) := by decide +kernel
theorem dX11_count_136 : decode cX11_count 136 = .ok (.ireturn, 1) := by decide +kernel
theorem dX11_count_137 : decode cX11_count 137 = .ok (.aload_n 0, 1) := by decide +kernel
theorem dX11_count_138 : decode cX11_count 138 = .ok (.getfield 53, 3) := by decide +kernel
theorem dX11_count_141 : decode cX11_count 141 = .ok (.getfield 245, 3) := by decide +kernel
theorem dX11_count_144 : decode cX11_count 144 = .ok (.ireturn, 1) := by decide +kernel
theorem dX11_count_145 : decode cX11_count 145 = .ok (.ldc_w 341, 3) := by decide +kernel
theorem dX11_count_148 : decode cX11_count 148 = .ok (.ireturn, 1) := by decide +kernel
theorem dX11_hasKerb_0 : decode cX11_hasKerb 0 = .ok (.aload_n 0, 1) := by decide +kernel
theorem dX11_hasKerb_1 : decode cX11_hasKerb 1 = .ok (.getfield 35, 3) := by decide +kernel
theorem dX11_hasKerb_4 : decode cX11_hasKerb 4 = .ok (.getfield 286, 3) := by decide +kernel
theorem dX11_hasKerb_7 : decode cX11_hasKerb 7 = .ok (.ifCond .le 7, 3) := by decide +kernel
theorem dX11_hasKerb_10 : decode cX11_hasKerb 10 = .ok (.iconst 1, 1) := by decide +kernel
theorem dX11_hasKerb_11 : decode cX11_hasKerb 11 = .ok (.goto 4, 3) := by decide +kernel
theorem dX11_hasKerb_14 : decode cX11_hasKerb 14 = .ok (.iconst 0, 1) := by decide +kernel
theorem dX11_hasKerb_15 : decode cX11_hasKerb 15 = .ok (.ireturn, 1) := by decide +kernel
theorem dX11_lookAtGaps_0 : decode cX11_lookAtGaps 0 = .ok (.aload_n 0, 1) := by decide +kernel
theorem dX11_lookAtGaps_1 : decode cX11_lookAtGaps 1 = .ok (.getfield 73, 3) := by decide +kernel
theorem dX11_lookAtGaps_4 : decode cX11_lookAtGaps 4 = .ok (.aload_n 0, 1) := by decide +kernel
theorem dX11_lookAtGaps_5 : decode cX11_lookAtGaps 5 = .ok (.getfield 35, 3) := by decide +kernel
theorem dX11_lookAtGaps_8 : decode cX11_lookAtGaps 8 = .ok (.aload_n 0, 1) := by decide +kernel
theorem dX11_lookAtGaps_9 : decode cX11_lookAtGaps 9 = .ok (.getfield 53, 3) := by decide +kernel
theorem dX11_lookAtGaps_12 : decode cX11_lookAtGaps 12 = .ok (.iconst (-1), 1) := by decide +kernel
theorem dX11_lookAtGaps_13 : decode cX11_lookAtGaps 13 = .ok (.invokevirtual 301, 3) := by decide +kernel
theorem dX11_lookAtGaps_16 : decode cX11_lookAtGaps 16 = .ok (.return_, 1) := by decide +kernel
theorem dX11_canStand_0 : decode cX11_canStand 0 = .ok (.iload_n 1, 1) := by decide +kernel
theorem dX11_canStand_1 : decode cX11_canStand 1 = .ok (.ifCond .lt 16, 3) := by decide +kernel
theorem dX11_canStand_4 : decode cX11_canStand 4 = .ok (.iload_n 1, 1) := by decide +kernel
theorem dX11_canStand_5 : decode cX11_canStand 5 = .ok (.aload_n 0, 1) := by decide +kernel
theorem dX11_canStand_6 : decode cX11_canStand 6 = .ok (.getfield 35, 3) := by decide +kernel
theorem dX11_canStand_9 : decode cX11_canStand 9 = .ok (.getfield 286, 3) := by decide +kernel
theorem dX11_canStand_12 : decode cX11_canStand 12 = .ok (.iload_n 2, 1) := by decide +kernel
theorem dX11_canStand_13 : decode cX11_canStand 13 = .ok (.isub, 1) := by decide +kernel
theorem dX11_canStand_14 : decode cX11_canStand 14 = .ok (.if_icmp .le 5, 3) := by decide +kernel
theorem dX11_canStand_17 : decode cX11_canStand 17 = .ok (.iconst 0, 1) := by decide +kernel
theorem dX11_canStand_18 : decode cX11_canStand 18 = .ok (.ireturn, 1) := by decide +kernel
theorem dX11_canStand_19 : decode cX11_canStand 19 = .ok (.iload_n 1, 1) := by decide +kernel
theorem dX11_canStand_20 : decode cX11_canStand 20 = .ok (.istore_n 3, 1) := by decide +kernel
theorem dX11_canStand_21 : decode cX11_canStand 21 = .ok (.iload_n 3, 1) := by decide +kernel
theorem dX11_canStand_22 : decode cX11_canStand 22 = .ok (.iload_n 1, 1) := by decide +kernel
theorem dX11_canStand_23 : decode cX11_canStand 23 = .ok (.iload_n 2, 1) := by decide +kernel
theorem dX11_canStand_24 : decode cX11_canStand 24 = .ok (.iadd, 1) := by decide +kernel
theorem dX11_canStand_25 : decode cX11_canStand 25 = .ok (.if_icmp .ge 34, 3) := by decide +kernel
theorem dX11_canStand_28 : decode cX11_canStand 28 = .ok (.aload_n 0, 1) := by decide +kernel
theorem dX11_canStand_29 : decode cX11_canStand 29 = .ok (.getfield 35, 3) := by decide +kernel
theorem dX11_canStand_32 : decode cX11_canStand 32 = .ok (.iload_n 3, 1) := by decide +kernel
theorem dX11_canStand_33 : decode cX11_canStand 33 = .ok (.invokevirtual 168, 3) := by decide +kernel
theorem dX11_canStand_36 : decode cX11_canStand 36 = .ok (.ifCond .ne 15, 3) := by decide +kernel
theorem dX11_canStand_39 : decode cX11_canStand 39 = .ok (.aload_n 0, 1) := by decide +kernel
theorem dX11_canStand_40 : decode cX11_canStand 40 = .ok (.getfield 53, 3) := by decide +kernel
theorem dX11_canStand_43 : decode cX11_canStand 43 = .ok (.iload_n 3, 1) := by decide +kernel
theorem dX11_canStand_44 : decode cX11_canStand 44 = .ok (.invokevirtual 162, 3) := by decide +kernel
theorem dX11_canStand_47 : decode cX11_canStand 47 = .ok (.iconst (-1), 1) := by decide +kernel
theorem dX11_canStand_48 : decode cX11_canStand 48 = .ok (.if_icmp .eq 5, 3) := by decide +kernel
theorem dX11_canStand_51 : decode cX11_canStand 51 = .ok (.iconst 0, 1) := by decide +kernel
theorem dX11_canStand_52 : decode cX11_canStand 52 = .ok (.ireturn, 1) := by decide +kernel
theorem dX11_canStand_53 : decode cX11_canStand 53 = .ok (.iinc 3 1, 3) := by decide +kernel
theorem dX11_canStand_56 : decode cX11_canStand 56 = .ok (.goto (-35), 3) := by decide +kernel
theorem dX11_canStand_59 : decode cX11_canStand 59 = .ok (.iconst 1, 1) := by decide +kernel
theorem dX11_canStand_60 : decode cX11_canStand 60 = .ok (.ireturn, 1) := by decide +kernel
theorem dX11_choice_0 : decode cX11_choice 0 = .ok (.aload_n 0, 1) := by decide +kernel
theorem dX11_choice_1 : decode cX11_choice 1 = .ok (.getfield 35, 3) := by decide +kernel
theorem dX11_choice_4 : decode cX11_choice 4 = .ok (.iload_n 1, 1) := by decide +kernel
theorem dX11_choice_5 : decode cX11_choice 5 = .ok (.invokevirtual 171, 3) := by decide +kernel
theorem dX11_choice_8 : decode cX11_choice 8 = .ok (.ifCond .eq 13, 3) := by decide +kernel
theorem dX11_choice_11 : decode cX11_choice 11 = .ok (.iload_n 2, 1) := by decide +kernel
theorem dX11_choice_12 : decode cX11_choice 12 = .ok (.iconst 1, 1) := by decide +kernel
theorem dX11_choice_13 : decode cX11_choice 13 = .ok (.if_icmp .lt 8, 3) := by decide +kernel
theorem dX11_choice_16 : decode cX11_choice 16 = .ok (.iload_n 2, 1) := by decide +kernel
theorem dX11_choice_17 : decode cX11_choice 17 = .ok (.iconst 4, 1) := by decide +kernel
theorem dX11_choice_18 : decode cX11_choice 18 = .ok (.if_icmp .le 5, 3) := by decide +kernel
theorem dX11_choice_21 : decode cX11_choice 21 = .ok (.iconst (-1), 1) := by decide +kernel
theorem dX11_choice_22 : decode cX11_choice 22 = .ok (.ireturn, 1) := by decide +kernel
theorem dX11_choice_23 : decode cX11_choice 23 = .ok (.aload_n 0, 1) := by decide +kernel
theorem dX11_choice_24 : decode cX11_choice 24 = .ok (.invokevirtual 187, 3) := by decide +kernel
theorem dX11_choice_27 : decode cX11_choice 27 = .ok (.aload_n 0, 1) := by decide +kernel
theorem dX11_choice_28 : decode cX11_choice 28 = .ok (.getfield 35, 3) := by decide +kernel
theorem dX11_choice_31 : decode cX11_choice 31 = .ok (.iload_n 1, 1) := by decide +kernel
theorem dX11_choice_32 : decode cX11_choice 32 = .ok (.invokevirtual 174, 3) := by decide +kernel
theorem dX11_choice_35 : decode cX11_choice 35 = .ok (.istore_n 3, 1) := by decide +kernel
theorem dX11_choice_36 : decode cX11_choice 36 = .ok (.iconst (-1), 1) := by decide +kernel
theorem dX11_choice_37 : decode cX11_choice 37 = .ok (.istore 4, 2) := by decide +kernel
theorem dX11_choice_39 : decode cX11_choice 39 = .ok (.iconst 0, 1) := by decide +kernel
theorem dX11_choice_40 : decode cX11_choice 40 = .ok (.istore 5, 2) := by decide +kernel
theorem dX11_choice_42 : decode cX11_choice 42 = .ok (.iconst 0, 1) := by decide +kernel
theorem dX11_choice_43 : decode cX11_choice 43 = .ok (.istore 6, 2) := by decide +kernel
theorem dX11_choice_45 : decode cX11_choice 45 = .ok (.iload 6, 2) := by decide +kernel
theorem dX11_choice_47 : decode cX11_choice 47 = .ok (.aload_n 0, 1) := by decide +kernel
theorem dX11_choice_48 : decode cX11_choice 48 = .ok (.getfield 73, 3) := by decide +kernel
theorem dX11_choice_51 : decode cX11_choice 51 = .ok (.getfield 334, 3) := by decide +kernel
theorem dX11_choice_54 : decode cX11_choice 54 = .ok (.if_icmp .ge 93, 3) := by decide +kernel
theorem dX11_choice_57 : decode cX11_choice 57 = .ok (.aload_n 0, 1) := by decide +kernel
theorem dX11_choice_58 : decode cX11_choice 58 = .ok (.getfield 73, 3) := by decide +kernel
theorem dX11_choice_61 : decode cX11_choice 61 = .ok (.iload 6, 2) := by decide +kernel
theorem dX11_choice_63 : decode cX11_choice 63 = .ok (.invokevirtual 342, 3) := by decide +kernel
theorem dX11_choice_66 : decode cX11_choice 66 = .ok (.istore 7, 2) := by decide +kernel
theorem dX11_choice_68 : decode cX11_choice 68 = .ok (.aload_n 0, 1) := by decide +kernel
theorem dX11_choice_69 : decode cX11_choice 69 = .ok (.getfield 73, 3) := by decide +kernel
theorem dX11_choice_72 : decode cX11_choice 72 = .ok (.iload 6, 2) := by decide +kernel
theorem dX11_choice_74 : decode cX11_choice 74 = .ok (.invokevirtual 345, 3) := by decide +kernel
theorem dX11_choice_77 : decode cX11_choice 77 = .ok (.iload_n 3, 1) := by decide +kernel
theorem dX11_choice_78 : decode cX11_choice 78 = .ok (.isub, 1) := by decide +kernel
theorem dX11_choice_79 : decode cX11_choice 79 = .ok (.istore 8, 2) := by decide +kernel
theorem dX11_choice_81 : decode cX11_choice 81 = .ok (.iconst 0, 1) := by decide +kernel
theorem dX11_choice_82 : decode cX11_choice 82 = .ok (.istore 9, 2) := by decide +kernel
theorem dX11_choice_84 : decode cX11_choice 84 = .ok (.iload 9, 2) := by decide +kernel
theorem dX11_choice_86 : decode cX11_choice 86 = .ok (.iload 8, 2) := by decide +kernel
theorem dX11_choice_88 : decode cX11_choice 88 = .ok (.if_icmp .gt 53, 3) := by decide +kernel
theorem dX11_choice_91 : decode cX11_choice 91 = .ok (.aload_n 0, 1) := by decide +kernel
theorem dX11_choice_92 : decode cX11_choice 92 = .ok (.iload_n 2, 1) := by decide +kernel
theorem dX11_choice_93 : decode cX11_choice 93 = .ok (.iload 7, 2) := by decide +kernel
theorem dX11_choice_95 : decode cX11_choice 95 = .ok (.iload 9, 2) := by decide +kernel
theorem dX11_choice_97 : decode cX11_choice 97 = .ok (.iadd, 1) := by decide +kernel
theorem dX11_choice_98 : decode cX11_choice 98 = .ok (.iload_n 3, 1) := by decide +kernel
theorem dX11_choice_99 : decode cX11_choice 99 = .ok (.iload 9, 2) := by decide +kernel
theorem dX11_choice_101 : decode cX11_choice 101 = .ok (.iload 8, 2) := by decide +kernel
theorem dX11_choice_103 : decode cX11_choice 103 = .ok (.iload 9, 2) := by decide +kernel
theorem dX11_choice_105 : decode cX11_choice 105 = .ok (.isub, 1) := by decide +kernel
theorem dX11_choice_106 : decode cX11_choice 106 = .ok (.invokevirtual 348, 3) := by decide +kernel
theorem dX11_choice_109 : decode cX11_choice 109 = .ok (.istore 10, 2) := by decide +kernel
theorem dX11_choice_111 : decode cX11_choice 111 = .ok (.iload 4, 2) := by decide +kernel
theorem dX11_choice_113 : decode cX11_choice 113 = .ok (.iconst (-1), 1) := by decide +kernel
theorem dX11_choice_114 : decode cX11_choice 114 = .ok (.if_icmp .eq 10, 3) := by decide +kernel
theorem dX11_choice_117 : decode cX11_choice 117 = .ok (.iload 10, 2) := by decide +kernel
theorem dX11_choice_119 : decode cX11_choice 119 = .ok (.iload 5, 2) := by decide +kernel
theorem dX11_choice_121 : decode cX11_choice 121 = .ok (.if_icmp .ge 14, 3) := by decide +kernel
theorem dX11_choice_124 : decode cX11_choice 124 = .ok (.iload 7, 2) := by decide +kernel
theorem dX11_choice_126 : decode cX11_choice 126 = .ok (.iload 9, 2) := by decide +kernel
theorem dX11_choice_128 : decode cX11_choice 128 = .ok (.iadd, 1) := by decide +kernel
theorem dX11_choice_129 : decode cX11_choice 129 = .ok (.istore 4, 2) := by decide +kernel
theorem dX11_choice_131 : decode cX11_choice 131 = .ok (.iload 10, 2) := by decide +kernel
theorem dX11_choice_133 : decode cX11_choice 133 = .ok (.istore 5, 2) := by decide +kernel
theorem dX11_choice_135 : decode cX11_choice 135 = .ok (.iinc 9 1, 3) := by decide +kernel
theorem dX11_choice_138 : decode cX11_choice 138 = .ok (.goto (-54), 3) := by decide +kernel
theorem dX11_choice_141 : decode cX11_choice 141 = .ok (.iinc 6 1, 3) := by decide +kernel
theorem dX11_choice_144 : decode cX11_choice 144 = .ok (.goto (-99), 3) := by decide +kernel
theorem dX11_choice_147 : decode cX11_choice 147 = .ok (.iload 4, 2) := by decide +kernel
theorem dX11_choice_149 : decode cX11_choice 149 = .ok (.ireturn, 1) := by decide +kernel
theorem dX11_dislike_0 : decode cX11_dislike 0 = .ok (.iload_n 1, 1) := by decide +kernel
theorem dX11_dislike_1 : decode cX11_dislike 1 = .ok (.tableswitch 77 1 4 #[31, 39, 77, 51], 31) := by decide +kernel
theorem dX11_dislike_32 : decode cX11_dislike 32 = .ok (.iload 4, 2) := by decide +kernel
theorem dX11_dislike_34 : decode cX11_dislike 34 = .ok (.iload 5, 2) := by decide +kernel
theorem dX11_dislike_36 : decode cX11_dislike 36 = .ok (.invokestatic 331, 3) := by decide +kernel
theorem dX11_dislike_39 : decode cX11_dislike 39 = .ok (.ireturn, 1) := by decide +kernel
theorem dX11_dislike_40 : decode cX11_dislike 40 = .ok (.aload_n 0, 1) := by decide +kernel
theorem dX11_dislike_41 : decode cX11_dislike 41 = .ok (.iload_n 2, 1) := by decide +kernel
theorem dX11_dislike_42 : decode cX11_dislike 42 = .ok (.iload_n 3, 1) := by decide +kernel
theorem dX11_dislike_43 : decode cX11_dislike 43 = .ok (.iload 4, 2) := by decide +kernel
theorem dX11_dislike_45 : decode cX11_dislike 45 = .ok (.iload 5, 2) := by decide +kernel
theorem dX11_dislike_47 : decode cX11_dislike 47 = .ok (.invokevirtual 352, 3) := by decide +kernel
theorem dX11_dislike_50 : decode cX11_dislike 50 = .ok (.ineg, 1) := by decide +kernel
theorem dX11_dislike_51 : decode cX11_dislike 51 = .ok (.ireturn, 1) := by decide +kernel
theorem dX11_dislike_52 : decode cX11_dislike 52 = .ok (.iload 4, 2) := by decide +kernel
theorem dX11_dislike_54 : decode cX11_dislike 54 = .ok (.iload_n 3, 1) := by decide +kernel
theorem dX11_dislike_55 : decode cX11_dislike 55 = .ok (.invokestatic 356, 3) := by decide +kernel
theorem dX11_dislike_58 : decode cX11_dislike 58 = .ok (.iload 5, 2) := by decide +kernel
theorem dX11_dislike_60 : decode cX11_dislike 60 = .ok (.iload_n 3, 1) := by decide +kernel
theorem dX11_dislike_61 : decode cX11_dislike 61 = .ok (.invokestatic 356, 3) := by decide +kernel
theorem dX11_dislike_64 : decode cX11_dislike 64 = .ok (.iadd, 1) := by decide +kernel
theorem dX11_dislike_65 : decode cX11_dislike 65 = .ok (.iload 4, 2) := by decide +kernel
theorem dX11_dislike_67 : decode cX11_dislike 67 = .ok (.iload_n 3, 1) := by decide +kernel
theorem dX11_dislike_68 : decode cX11_dislike 68 = .ok (.iadd, 1) := by decide +kernel
theorem dX11_dislike_69 : decode cX11_dislike 69 = .ok (.iload 5, 2) := by decide +kernel
theorem dX11_dislike_71 : decode cX11_dislike 71 = .ok (.iadd, 1) := by decide +kernel
theorem dX11_dislike_72 : decode cX11_dislike 72 = .ok (.iload_n 3, 1) := by decide +kernel
theorem dX11_dislike_73 : decode cX11_dislike 73 = .ok (.invokestatic 356, 3) := by decide +kernel
theorem dX11_dislike_76 : decode cX11_dislike 76 = .ok (.isub, 1) := by decide +kernel
theorem dX11_dislike_77 : decode cX11_dislike 77 = .ok (.ireturn, 1) := by decide +kernel
theorem dX11_dislike_78 : decode cX11_dislike 78 = .ok (.iconst 0, 1) := by decide +kernel
theorem dX11_dislike_79 : decode cX11_dislike 79 = .ok (.ireturn, 1) := by decide +kernel
theorem dX11_worth_0 : decode cX11_worth 0 = .ok (.aload_n 0, 1) := by decide +kernel
theorem dX11_worth_1 : decode cX11_worth 1 = .ok (.getfield 46, 3) := by decide +kernel
theorem dX11_worth_4 : decode cX11_worth 4 = .ok (.ifCond .lt 14, 3) := by decide +kernel
theorem dX11_worth_7 : decode cX11_worth 7 = .ok (.aload_n 0, 1) := by decide +kernel
theorem dX11_worth_8 : decode cX11_worth 8 = .ok (.getfield 46, 3) := by decide +kernel
theorem dX11_worth_11 : decode cX11_worth 11 = .ok (.aload_n 0, 1) := by decide +kernel
theorem dX11_worth_12 : decode cX11_worth 12 = .ok (.getfield 146, 3) := by decide +kernel
theorem dX11_worth_15 : decode cX11_worth 15 = .ok (.if_icmp .lt 5, 3) := by decide +kernel
theorem dX11_worth_18 : decode cX11_worth 18 = .ok (.iconst 0, 1) := by decide +kernel
theorem dX11_worth_19 : decode cX11_worth 19 = .ok (.ireturn, 1) := by decide +kernel
theorem dX11_worth_20 : decode cX11_worth 20 = .ok (.aload_n 0, 1) := by decide +kernel
theorem dX11_worth_21 : decode cX11_worth 21 = .ok (.getfield 100, 3) := by decide +kernel
theorem dX11_worth_24 : decode cX11_worth 24 = .ok (.iconst 0, 1) := by decide +kernel
theorem dX11_worth_25 : decode cX11_worth 25 = .ok (.iload_n 1, 1) := by decide +kernel
theorem dX11_worth_26 : decode cX11_worth 26 = .ok (.iastore, 1) := by decide +kernel
theorem dX11_worth_27 : decode cX11_worth 27 = .ok (.aload_n 0, 1) := by decide +kernel
theorem dX11_worth_28 : decode cX11_worth 28 = .ok (.getfield 100, 3) := by decide +kernel
theorem dX11_worth_31 : decode cX11_worth 31 = .ok (.iconst 1, 1) := by decide +kernel
theorem dX11_worth_32 : decode cX11_worth 32 = .ok (.iload_n 2, 1) := by decide +kernel
theorem dX11_worth_33 : decode cX11_worth 33 = .ok (.iastore, 1) := by decide +kernel
theorem dX11_worth_34 : decode cX11_worth 34 = .ok (.aload_n 0, 1) := by decide +kernel
theorem dX11_worth_35 : decode cX11_worth 35 = .ok (.getfield 100, 3) := by decide +kernel
theorem dX11_worth_38 : decode cX11_worth 38 = .ok (.iconst 2, 1) := by decide +kernel
theorem dX11_worth_39 : decode cX11_worth 39 = .ok (.iload_n 3, 1) := by decide +kernel
theorem dX11_worth_40 : decode cX11_worth 40 = .ok (.iastore, 1) := by decide +kernel
theorem dX11_worth_41 : decode cX11_worth 41 = .ok (.aload_n 0, 1) := by decide +kernel
theorem dX11_worth_42 : decode cX11_worth 42 = .ok (.getfield 100, 3) := by decide +kernel
theorem dX11_worth_45 : decode cX11_worth 45 = .ok (.iconst 3, 1) := by decide +kernel
theorem dX11_worth_46 : decode cX11_worth 46 = .ok (.iload 4, 2) := by decide +kernel
theorem dX11_worth_48 : decode cX11_worth 48 = .ok (.iastore, 1) := by decide +kernel
theorem dX11_worth_49 : decode cX11_worth 49 = .ok (.aload_n 0, 1) := by decide +kernel
theorem dX11_worth_50 : decode cX11_worth 50 = .ok (.getfield 100, 3) := by decide +kernel
theorem dX11_worth_53 : decode cX11_worth 53 = .ok (.iconst 4, 1) := by decide +kernel
theorem dX11_worth_54 : decode cX11_worth 54 = .ok (.aload_n 0, 1) := by decide +kernel
theorem dX11_worth_55 : decode cX11_worth 55 = .ok (.getfield 53, 3) := by decide +kernel
theorem dX11_worth_58 : decode cX11_worth 58 = .ok (.getfield 224, 3) := by decide +kernel
theorem dX11_worth_61 : decode cX11_worth 61 = .ok (.iastore, 1) := by decide +kernel
theorem dX11_worth_62 : decode cX11_worth 62 = .ok (.aload_n 0, 1) := by decide +kernel
theorem dX11_worth_63 : decode cX11_worth 63 = .ok (.getfield 41, 3) := by decide +kernel
theorem dX11_worth_66 : decode cX11_worth 66 = .ok (.aload_n 0, 1) := by decide +kernel
theorem dX11_worth_67 : decode cX11_worth 67 = .ok (.getfield 46, 3) := by decide +kernel
theorem dX11_worth_70 : decode cX11_worth 70 = .ok (.aaload, 1) := by decide +kernel
theorem dX11_worth_71 : decode cX11_worth 71 = .ok (.aload_n 0, 1) := by decide +kernel
theorem dX11_worth_72 : decode cX11_worth 72 = .ok (.getfield 100, 3) := by decide +kernel
theorem dX11_worth_75 : decode cX11_worth 75 = .ok (.invokevirtual 359, 3) := by decide +kernel
theorem dX11_worth_78 : decode cX11_worth 78 = .ok (.ireturn, 1) := by decide +kernel

theorem dX12_choice_6 : decode cX12_choice 6 = .ok (.istore 5, 2) := by decide +kernel
theorem dX12_choice_8 : decode cX12_choice 8 = .ok (.iload 5, 2) := by decide +kernel
theorem dX12_choice_10 : decode cX12_choice 10 = .ok (.aload_n 0, 1) := by decide +kernel
theorem dX12_choice_11 : decode cX12_choice 11 = .ok (.getfield 290, 3) := by decide +kernel
theorem dX12_choice_14 : decode cX12_choice 14 = .ok (.if_icmp .ge 54, 3) := by decide +kernel
theorem dX12_choice_17 : decode cX12_choice 17 = .ok (.aload_n 0, 1) := by decide +kernel
theorem dX12_choice_18 : decode cX12_choice 18 = .ok (.iload_n 1, 1) := by decide +kernel
theorem dX12_choice_19 : decode cX12_choice 19 = .ok (.iload 5, 2) := by decide +kernel
theorem dX12_choice_21 : decode cX12_choice 21 = .ok (.invokevirtual 318, 3) := by decide +kernel
theorem dX12_choice_24 : decode cX12_choice 24 = .ok (.ifCond .ne 6, 3) := by decide +kernel
theorem dX12_choice_27 : decode cX12_choice 27 = .ok (.goto 35, 3) := by decide +kernel
theorem dX12_choice_30 : decode cX12_choice 30 = .ok (.aload_n 0, 1) := by decide +kernel
theorem dX12_choice_31 : decode cX12_choice 31 = .ok (.iload_n 1, 1) := by decide +kernel
theorem dX12_choice_32 : decode cX12_choice 32 = .ok (.iload_n 2, 1) := by decide +kernel
theorem dX12_choice_33 : decode cX12_choice 33 = .ok (.iload 5, 2) := by decide +kernel
theorem dX12_choice_35 : decode cX12_choice 35 = .ok (.invokevirtual 342, 3) := by decide +kernel
theorem dX12_choice_38 : decode cX12_choice 38 = .ok (.istore 6, 2) := by decide +kernel
theorem dX12_choice_40 : decode cX12_choice 40 = .ok (.iload_n 3, 1) := by decide +kernel
theorem dX12_choice_41 : decode cX12_choice 41 = .ok (.iconst (-1), 1) := by decide +kernel
theorem dX12_choice_42 : decode cX12_choice 42 = .ok (.if_icmp .eq 13, 3) := by decide +kernel
theorem dX12_choice_45 : decode cX12_choice 45 = .ok (.iload 6, 2) := by decide +kernel
theorem dX12_choice_47 : decode cX12_choice 47 = .ok (.iload 4, 2) := by decide +kernel
theorem dX12_choice_49 : decode cX12_choice 49 = .ok (.if_icmp .gt 6, 3) := by decide +kernel
theorem dX12_choice_52 : decode cX12_choice 52 = .ok (.goto 10, 3) := by decide +kernel
theorem dX12_choice_55 : decode cX12_choice 55 = .ok (.iload 5, 2) := by decide +kernel
theorem dX12_choice_57 : decode cX12_choice 57 = .ok (.istore_n 3, 1) := by decide +kernel
theorem dX12_choice_58 : decode cX12_choice 58 = .ok (.iload 6, 2) := by decide +kernel
theorem dX12_choice_60 : decode cX12_choice 60 = .ok (.istore 4, 2) := by decide +kernel
theorem dX12_choice_62 : decode cX12_choice 62 = .ok (.iinc 5 1, 3) := by decide +kernel
theorem dX12_choice_65 : decode cX12_choice 65 = .ok (.goto (-57), 3) := by decide +kernel
theorem dX12_choice_68 : decode cX12_choice 68 = .ok (.iload_n 3, 1) := by decide +kernel
theorem dX12_choice_69 : decode cX12_choice 69 = .ok (.ireturn, 1) := by decide +kernel
theorem dX12_where_0 : decode cX12_where 0 = .ok (.aload_n 0, 1) := by decide +kernel
theorem dX12_where_1 : decode cX12_where 1 = .ok (.iconst 0, 1) := by decide +kernel
theorem dX12_where_2 : decode cX12_where 2 = .ok (.putfield 111, 3) := by decide +kernel
theorem dX12_where_5 : decode cX12_where 5 = .ok (.aload_n 0, 1) := by decide +kernel
theorem dX12_where_6 : decode cX12_where 6 = .ok (.iload_n 1, 1) := by decide +kernel
theorem dX12_where_7 : decode cX12_where 7 = .ok (.invokevirtual 307, 3) := by decide +kernel
theorem dX12_where_10 : decode cX12_where 10 = .ok (.ifCond .eq 24, 3) := by decide +kernel
theorem dX12_where_13 : decode cX12_where 13 = .ok (.iload_n 2, 1) := by decide +kernel
theorem dX12_where_14 : decode cX12_where 14 = .ok (.i2l, 1) := by decide +kernel
theorem dX12_where_15 : decode cX12_where 15 = .ok (.lconst 1, 1) := by decide +kernel
theorem dX12_where_16 : decode cX12_where 16 = .ok (.ldc2_w 346, 3) := by decide +kernel
theorem dX12_where_19 : decode cX12_where 19 = .ok (.invokestatic 232, 3) := by decide +kernel
theorem dX12_where_22 : decode cX12_where 22 = .ok (.ifCond .eq 12, 3) := by decide +kernel
theorem dX12_where_25 : decode cX12_where 25 = .ok (.aload_n 0, 1) := by decide +kernel
theorem dX12_where_26 : decode cX12_where 26 = .ok (.iload_n 1, 1) := by decide +kernel
theorem dX12_where_27 : decode cX12_where 27 = .ok (.iload_n 2, 1) := by decide +kernel
theorem dX12_where_28 : decode cX12_where 28 = .ok (.invokevirtual 348, 3) := by decide +kernel
theorem dX12_where_31 : decode cX12_where 31 = .ok (.goto 4, 3) := by decide +kernel
theorem dX12_where_34 : decode cX12_where 34 = .ok (.iconst (-1), 1) := by decide +kernel
theorem dX12_where_35 : decode cX12_where 35 = .ok (.ireturn, 1) := by decide +kernel
theorem dX12_remember_0 : decode cX12_remember 0 = .ok (.aload_n 0, 1) := by decide +kernel
theorem dX12_remember_1 : decode cX12_remember 1 = .ok (.getfield 296, 3) := by decide +kernel
theorem dX12_remember_4 : decode cX12_remember 4 = .ok (.bipush 40, 2) := by decide +kernel
theorem dX12_remember_6 : decode cX12_remember 6 = .ok (.if_icmp .ne 86, 3) := by decide +kernel
theorem dX12_remember_9 : decode cX12_remember 9 = .ok (.iconst 0, 1) := by decide +kernel
theorem dX12_remember_10 : decode cX12_remember 10 = .ok (.istore_n 1, 1) := by decide +kernel
theorem dX12_remember_11 : decode cX12_remember 11 = .ok (.iload_n 1, 1) := by decide +kernel
theorem dX12_remember_12 : decode cX12_remember 12 = .ok (.sipush 780, 3) := by decide +kernel
theorem dX12_remember_15 : decode cX12_remember 15 = .ok (.if_icmp .ge 39, 3) := by decide +kernel
theorem dX12_remember_18 : decode cX12_remember 18 = .ok (.aload_n 0, 1) := by decide +kernel
theorem dX12_remember_19 : decode cX12_remember 19 = .ok (.getfield 68, 3) := by decide +kernel
theorem dX12_remember_22 : decode cX12_remember 22 = .ok (.iload_n 1, 1) := by decide +kernel
theorem dX12_remember_23 : decode cX12_remember 23 = .ok (.aload_n 0, 1) := by decide +kernel
theorem dX12_remember_24 : decode cX12_remember 24 = .ok (.getfield 68, 3) := by decide +kernel
theorem dX12_remember_27 : decode cX12_remember 27 = .ok (.iload_n 1, 1) := by decide +kernel
theorem dX12_remember_28 : decode cX12_remember 28 = .ok (.bipush 20, 2) := by decide +kernel
theorem dX12_remember_30 : decode cX12_remember 30 = .ok (.iadd, 1) := by decide +kernel
theorem dX12_remember_31 : decode cX12_remember 31 = .ok (.iaload, 1) := by decide +kernel
theorem dX12_remember_32 : decode cX12_remember 32 = .ok (.iastore, 1) := by decide +kernel
theorem dX12_remember_33 : decode cX12_remember 33 = .ok (.aload_n 0, 1) := by decide +kernel
theorem dX12_remember_34 : decode cX12_remember 34 = .ok (.getfield 71, 3) := by decide +kernel
theorem dX12_remember_37 : decode cX12_remember 37 = .ok (.iload_n 1, 1) := by decide +kernel
theorem dX12_remember_38 : decode cX12_remember 38 = .ok (.aload_n 0, 1) := by decide +kernel
theorem dX12_remember_39 : decode cX12_remember 39 = .ok (.getfield 71, 3) := by decide +kernel
theorem dX12_remember_42 : decode cX12_remember 42 = .ok (.iload_n 1, 1) := by decide +kernel
theorem dX12_remember_43 : decode cX12_remember 43 = .ok (.bipush 20, 2) := by decide +kernel
theorem dX12_remember_45 : decode cX12_remember 45 = .ok (.iadd, 1) := by decide +kernel
theorem dX12_remember_46 : decode cX12_remember 46 = .ok (.iaload, 1) := by decide +kernel
theorem dX12_remember_47 : decode cX12_remember 47 = .ok (.iastore, 1) := by decide +kernel
theorem dX12_remember_48 : decode cX12_remember 48 = .ok (.iinc 1 1, 3) := by decide +kernel
theorem dX12_remember_51 : decode cX12_remember 51 = .ok (.goto (-40), 3) := by decide +kernel
theorem dX12_remember_54 : decode cX12_remember 54 = .ok (.iconst 0, 1) := by decide +kernel
theorem dX12_remember_55 : decode cX12_remember 55 = .ok (.istore_n 1, 1) := by decide +kernel
theorem dX12_remember_56 : decode cX12_remember 56 = .ok (.iload_n 1, 1) := by decide +kernel
theorem dX12_remember_57 : decode cX12_remember 57 = .ok (.bipush 117, 2) := by decide +kernel
theorem dX12_remember_59 : decode cX12_remember 59 = .ok (.if_icmp .ge 23, 3) := by decide +kernel
theorem dX12_remember_62 : decode cX12_remember 62 = .ok (.aload_n 0, 1) := by decide +kernel
theorem dX12_remember_63 : decode cX12_remember 63 = .ok (.getfield 74, 3) := by decide +kernel
theorem dX12_remember_66 : decode cX12_remember 66 = .ok (.iload_n 1, 1) := by decide +kernel
theorem dX12_remember_67 : decode cX12_remember 67 = .ok (.aload_n 0, 1) := by decide +kernel
theorem dX12_remember_68 : decode cX12_remember 68 = .ok (.getfield 74, 3) := by decide +kernel
theorem dX12_remember_71 : decode cX12_remember 71 = .ok (.iload_n 1, 1) := by decide +kernel
theorem dX12_remember_72 : decode cX12_remember 72 = .ok (.iconst 3, 1) := by decide +kernel
theorem dX12_remember_73 : decode cX12_remember 73 = .ok (.iadd, 1) := by decide +kernel
theorem dX12_remember_74 : decode cX12_remember 74 = .ok (.iaload, 1) := by decide +kernel
theorem dX12_remember_75 : decode cX12_remember 75 = .ok (.iastore, 1) := by decide +kernel
theorem dX12_remember_76 : decode cX12_remember 76 = .ok (.iinc 1 1, 3) := by decide +kernel
theorem dX12_remember_79 : decode cX12_remember 79 = .ok (.goto (-23), 3) := by decide +kernel
theorem dX12_remember_82 : decode cX12_remember 82 = .ok (.aload_n 0, 1) := by decide +kernel
theorem dX12_remember_83 : decode cX12_remember 83 = .ok (.dup, 1) := by decide +kernel
theorem dX12_remember_84 : decode cX12_remember 84 = .ok (.getfield 296, 3) := by decide +kernel
theorem dX12_remember_87 : decode cX12_remember 87 = .ok (.iconst 1, 1) := by decide +kernel
theorem dX12_remember_88 : decode cX12_remember 88 = .ok (.isub, 1) := by decide +kernel
theorem dX12_remember_89 : decode cX12_remember 89 = .ok (.putfield 296, 3) := by decide +kernel
theorem dX12_remember_92 : decode cX12_remember 92 = .ok (.iconst 0, 1) := by decide +kernel
theorem dX12_remember_93 : decode cX12_remember 93 = .ok (.istore_n 1, 1) := by decide +kernel
theorem dX12_remember_94 : decode cX12_remember 94 = .ok (.iload_n 1, 1) := by decide +kernel
theorem dX12_remember_95 : decode cX12_remember 95 = .ok (.bipush 20, 2) := by decide +kernel
theorem dX12_remember_97 : decode cX12_remember 97 = .ok (.if_icmp .ge 49, 3) := by decide +kernel
theorem dX12_remember_100 : decode cX12_remember 100 = .ok (.aload_n 0, 1) := by decide +kernel
theorem dX12_remember_101 : decode cX12_remember 101 = .ok (.getfield 68, 3) := by decide +kernel
theorem dX12_remember_104 : decode cX12_remember 104 = .ok (.bipush 20, 2) := by decide +kernel
theorem dX12_remember_106 : decode cX12_remember 106 = .ok (.aload_n 0, 1) := by decide +kernel
theorem dX12_remember_107 : decode cX12_remember 107 = .ok (.getfield 296, 3) := by decide +kernel
theorem dX12_remember_110 : decode cX12_remember 110 = .ok (.imul, 1) := by decide +kernel
theorem dX12_remember_111 : decode cX12_remember 111 = .ok (.iload_n 1, 1) := by decide +kernel
theorem dX12_remember_112 : decode cX12_remember 112 = .ok (.iadd, 1) := by decide +kernel
theorem dX12_remember_113 : decode cX12_remember 113 = .ok (.aload_n 0, 1) := by decide +kernel
theorem dX12_remember_114 : decode cX12_remember 114 = .ok (.getfield 55, 3) := by decide +kernel
theorem dX12_remember_117 : decode cX12_remember 117 = .ok (.iload_n 1, 1) := by decide +kernel
theorem dX12_remember_118 : decode cX12_remember 118 = .ok (.iaload, 1) := by decide +kernel
theorem dX12_remember_119 : decode cX12_remember 119 = .ok (.iastore, 1) := by decide +kernel
theorem dX12_remember_120 : decode cX12_remember 120 = .ok (.aload_n 0, 1) := by decide +kernel
theorem dX12_remember_121 : decode cX12_remember 121 = .ok (.getfield 71, 3) := by decide +kernel
theorem dX12_remember_124 : decode cX12_remember 124 = .ok (.bipush 20, 2) := by decide +kernel
theorem dX12_remember_126 : decode cX12_remember 126 = .ok (.aload_n 0, 1) := by decide +kernel
theorem dX12_remember_127 : decode cX12_remember 127 = .ok (.getfield 296, 3) := by decide +kernel
theorem dX12_remember_130 : decode cX12_remember 130 = .ok (.imul, 1) := by decide +kernel
theorem dX12_remember_131 : decode cX12_remember 131 = .ok (.iload_n 1, 1) := by decide +kernel
theorem dX12_remember_132 : decode cX12_remember 132 = .ok (.iadd, 1) := by decide +kernel
theorem dX12_remember_133 : decode cX12_remember 133 = .ok (.aload_n 0, 1) := by decide +kernel
theorem dX12_remember_134 : decode cX12_remember 134 = .ok (.getfield 58, 3) := by decide +kernel
theorem dX12_remember_137 : decode cX12_remember 137 = .ok (.iload_n 1, 1) := by decide +kernel
theorem dX12_remember_138 : decode cX12_remember 138 = .ok (.iaload, 1) := by decide +kernel
theorem dX12_remember_139 : decode cX12_remember 139 = .ok (.iastore, 1) := by decide +kernel
theorem dX12_remember_140 : decode cX12_remember 140 = .ok (.iinc 1 1, 3) := by decide +kernel
theorem dX12_remember_143 : decode cX12_remember 143 = .ok (.goto (-49), 3) := by decide +kernel
theorem dX12_remember_146 : decode cX12_remember 146 = .ok (.iconst 0, 1) := by decide +kernel
theorem dX12_remember_147 : decode cX12_remember 147 = .ok (.istore_n 1, 1) := by decide +kernel
theorem dX12_remember_148 : decode cX12_remember 148 = .ok (.iload_n 1, 1) := by decide +kernel
theorem dX12_remember_149 : decode cX12_remember 149 = .ok (.iconst 3, 1) := by decide +kernel
theorem dX12_remember_150 : decode cX12_remember 150 = .ok (.if_icmp .ge 28, 3) := by decide +kernel
theorem dX12_remember_153 : decode cX12_remember 153 = .ok (.aload_n 0, 1) := by decide +kernel
theorem dX12_remember_154 : decode cX12_remember 154 = .ok (.getfield 74, 3) := by decide +kernel
theorem dX12_remember_157 : decode cX12_remember 157 = .ok (.iconst 3, 1) := by decide +kernel
theorem dX12_remember_158 : decode cX12_remember 158 = .ok (.aload_n 0, 1) := by decide +kernel
theorem dX12_remember_159 : decode cX12_remember 159 = .ok (.getfield 296, 3) := by decide +kernel
theorem dX12_remember_162 : decode cX12_remember 162 = .ok (.imul, 1) := by decide +kernel
theorem dX12_remember_163 : decode cX12_remember 163 = .ok (.iload_n 1, 1) := by decide +kernel
theorem dX12_remember_164 : decode cX12_remember 164 = .ok (.iadd, 1) := by decide +kernel
theorem dX12_remember_165 : decode cX12_remember 165 = .ok (.aload_n 0, 1) := by decide +kernel
theorem dX12_remember_166 : decode cX12_remember 166 = .ok (.getfield 61, 3) := by decide +kernel
theorem dX12_remember_169 : decode cX12_remember 169 = .ok (.iload_n 1, 1) := by decide +kernel
theorem dX12_remember_170 : decode cX12_remember 170 = .ok (.iaload, 1) := by decide +kernel
theorem dX12_remember_171 : decode cX12_remember 171 = .ok (.iastore, 1) := by decide +kernel
theorem dX12_remember_172 : decode cX12_remember 172 = .ok (.iinc 1 1, 3) := by decide +kernel
theorem dX12_remember_175 : decode cX12_remember 175 = .ok (.goto (-27), 3) := by decide +kernel
theorem dX12_remember_178 : decode cX12_remember 178 = .ok (.aload_n 0, 1) := by decide +kernel
theorem dX12_remember_179 : decode cX12_remember 179 = .ok (.dup, 1) := by decide +kernel
theorem dX12_remember_180 : decode cX12_remember 180 = .ok (.getfield 296, 3) := by decide +kernel
theorem dX12_remember_183 : decode cX12_remember 183 = .ok (.iconst 1, 1) := by decide +kernel
theorem dX12_remember_184 : decode cX12_remember 184 = .ok (.iadd, 1) := by decide +kernel
theorem dX12_remember_185 : decode cX12_remember 185 = .ok (.putfield 296, 3) := by decide +kernel
theorem dX12_remember_188 : decode cX12_remember 188 = .ok (.return_, 1) := by decide +kernel
theorem dX12_park_0 : decode cX12_park 0 = .ok (.aload_n 0, 1) := by decide +kernel
theorem dX12_park_1 : decode cX12_park 1 = .ok (.iload_n 1, 1) := by decide +kernel
theorem dX12_park_2 : decode cX12_park 2 = .ok (.iload_n 2, 1) := by decide +kernel
theorem dX12_park_3 : decode cX12_park 3 = .ok (.invokevirtual 351, 3) := by decide +kernel
theorem dX12_park_6 : decode cX12_park 6 = .ok (.istore_n 3, 1) := by decide +kernel
theorem dX12_park_7 : decode cX12_park 7 = .ok (.iload_n 3, 1) := by decide +kernel
theorem dX12_park_8 : decode cX12_park 8 = .ok (.iconst (-1), 1) := by decide +kernel
theorem dX12_park_9 : decode cX12_park 9 = .ok (.if_icmp .ne 5, 3) := by decide +kernel
theorem dX12_park_12 : decode cX12_park 12 = .ok (.iconst (-1), 1) := by decide +kernel
theorem dX12_park_13 : decode cX12_park 13 = .ok (.ireturn, 1) := by decide +kernel
theorem dX12_park_14 : decode cX12_park 14 = .ok (.aload_n 0, 1) := by decide +kernel
theorem dX12_park_15 : decode cX12_park 15 = .ok (.invokevirtual 354, 3) := by decide +kernel
theorem dX12_park_18 : decode cX12_park 18 = .ok (.aload_n 0, 1) := by decide +kernel
theorem dX12_park_19 : decode cX12_park 19 = .ok (.iload_n 1, 1) := by decide +kernel
theorem dX12_park_20 : decode cX12_park 20 = .ok (.iload_n 3, 1) := by decide +kernel
theorem dX12_park_21 : decode cX12_park 21 = .ok (.invokevirtual 329, 3) := by decide +kernel
theorem dX12_park_24 : decode cX12_park 24 = .ok (.iload_n 3, 1) := by decide +kernel
theorem dX12_park_25 : decode cX12_park 25 = .ok (.ireturn, 1) := by decide +kernel
theorem dX12_stop_0 : decode cX12_stop 0 = .ok (.aload_n 0, 1) := by decide +kernel
theorem dX12_stop_1 : decode cX12_stop 1 = .ok (.iconst 0, 1) := by decide +kernel
theorem dX12_stop_2 : decode cX12_stop 2 = .ok (.putfield 111, 3) := by decide +kernel
theorem dX12_stop_5 : decode cX12_stop 5 = .ok (.aload_n 0, 1) := by decide +kernel
theorem dX12_stop_6 : decode cX12_stop 6 = .ok (.iload_n 1, 1) := by decide +kernel
theorem dX12_stop_7 : decode cX12_stop 7 = .ok (.invokevirtual 307, 3) := by decide +kernel
theorem dX12_stop_10 : decode cX12_stop 10 = .ok (.ifCond .eq 20, 3) := by decide +kernel
theorem dX12_stop_13 : decode cX12_stop 13 = .ok (.aload_n 0, 1) := by decide +kernel
theorem dX12_stop_14 : decode cX12_stop 14 = .ok (.iload_n 2, 1) := by decide +kernel
theorem dX12_stop_15 : decode cX12_stop 15 = .ok (.invokevirtual 302, 3) := by decide +kernel
theorem dX12_stop_18 : decode cX12_stop 18 = .ok (.ifCond .eq 12, 3) := by decide +kernel
theorem dX12_stop_21 : decode cX12_stop 21 = .ok (.aload_n 0, 1) := by decide +kernel
theorem dX12_stop_22 : decode cX12_stop 22 = .ok (.iload_n 1, 1) := by decide +kernel
theorem dX12_stop_23 : decode cX12_stop 23 = .ok (.iload_n 2, 1) := by decide +kernel
theorem dX12_stop_24 : decode cX12_stop 24 = .ok (.invokevirtual 318, 3) := by decide +kernel
theorem dX12_stop_27 : decode cX12_stop 27 = .ok (.ifCond .ne 5, 3) := by decide +kernel
theorem dX12_stop_30 : decode cX12_stop 30 = .ok (.iconst 0, 1) := by decide +kernel
theorem dX12_stop_31 : decode cX12_stop 31 = .ok (.ireturn, 1) := by decide +kernel
theorem dX12_stop_32 : decode cX12_stop 32 = .ok (.aload_n 0, 1) := by decide +kernel
theorem dX12_stop_33 : decode cX12_stop 33 = .ok (.invokevirtual 354, 3) := by decide +kernel
theorem dX12_stop_36 : decode cX12_stop 36 = .ok (.aload_n 0, 1) := by decide +kernel
theorem dX12_stop_37 : decode cX12_stop 37 = .ok (.iload_n 1, 1) := by decide +kernel
theorem dX12_stop_38 : decode cX12_stop 38 = .ok (.iload_n 2, 1) := by decide +kernel
theorem dX12_stop_39 : decode cX12_stop 39 = .ok (.invokevirtual 329, 3) := by decide +kernel
theorem dX12_stop_42 : decode cX12_stop 42 = .ok (.iconst 1, 1) := by decide +kernel
theorem dX12_stop_43 : decode cX12_stop 43 = .ok (.ireturn, 1) := by decide +kernel
theorem dX12_leave_0 : decode cX12_leave 0 = .ok (.aload_n 0, 1) := by decide +kernel
theorem dX12_leave_1 : decode cX12_leave 1 = .ok (.iconst 0, 1) := by decide +kernel
theorem dX12_leave_2 : decode cX12_leave 2 = .ok (.putfield 111, 3) := by decide +kernel
theorem dX12_leave_5 : decode cX12_leave 5 = .ok (.aload_n 0, 1) := by decide +kernel
theorem dX12_leave_6 : decode cX12_leave 6 = .ok (.iload_n 1, 1) := by decide +kernel
theorem dX12_leave_7 : decode cX12_leave 7 = .ok (.invokevirtual 302, 3) := by decide +kernel
theorem dX12_leave_10 : decode cX12_leave 10 = .ok (.ifCond .eq 12, 3) := by decide +kernel
theorem dX12_leave_13 : decode cX12_leave 13 = .ok (.aload_n 0, 1) := by decide +kernel
theorem dX12_leave_14 : decode cX12_leave 14 = .ok (.getfield 55, 3) := by decide +kernel
theorem dX12_leave_17 : decode cX12_leave 17 = .ok (.iload_n 1, 1) := by decide +kernel
theorem dX12_leave_18 : decode cX12_leave 18 = .ok (.iaload, 1) := by decide +kernel
theorem dX12_leave_19 : decode cX12_leave 19 = .ok (.ifCond .ge 5, 3) := by decide +kernel
theorem dX12_leave_22 : decode cX12_leave 22 = .ok (.iconst (-1), 1) := by decide +kernel
theorem dX12_leave_23 : decode cX12_leave 23 = .ok (.ireturn, 1) := by decide +kernel
theorem dX12_leave_24 : decode cX12_leave 24 = .ok (.aload_n 0, 1) := by decide +kernel
theorem dX12_leave_25 : decode cX12_leave 25 = .ok (.getfield 55, 3) := by decide +kernel
theorem dX12_leave_28 : decode cX12_leave 28 = .ok (.iload_n 1, 1) := by decide +kernel
theorem dX12_leave_29 : decode cX12_leave 29 = .ok (.iaload, 1) := by decide +kernel
theorem dX12_leave_30 : decode cX12_leave 30 = .ok (.istore_n 2, 1) := by decide +kernel
theorem dX12_leave_31 : decode cX12_leave 31 = .ok (.aload_n 0, 1) := by decide +kernel
theorem dX12_leave_32 : decode cX12_leave 32 = .ok (.invokevirtual 354, 3) := by decide +kernel
theorem dX12_leave_35 : decode cX12_leave 35 = .ok (.aload_n 0, 1) := by decide +kernel
theorem dX12_leave_36 : decode cX12_leave 36 = .ok (.iload_n 2, 1) := by decide +kernel
theorem dX12_leave_37 : decode cX12_leave 37 = .ok (.invokevirtual 336, 3) := by decide +kernel
theorem dX12_leave_40 : decode cX12_leave 40 = .ok (.iload_n 2, 1) := by decide +kernel
theorem dX12_leave_41 : decode cX12_leave 41 = .ok (.ireturn, 1) := by decide +kernel
theorem dX12_draw_0 : decode cX12_draw 0 = .ok (.aload_n 0, 1) := by decide +kernel
theorem dX12_draw_1 : decode cX12_draw 1 = .ok (.aload_n 0, 1) := by decide +kernel
theorem dX12_draw_2 : decode cX12_draw 2 = .ok (.getfield 357, 3) := by decide +kernel
theorem dX12_draw_5 : decode cX12_draw 5 = .ok (.ldc2_w 361, 3) := by decide +kernel
theorem dX12_draw_8 : decode cX12_draw 8 = .ok (.lmul, 1) := by decide +kernel
theorem dX12_draw_9 : decode cX12_draw 9 = .ok (.ldc2_w 363, 3) := by decide +kernel
theorem dX12_draw_12 : decode cX12_draw 12 = .ok (.ladd, 1) := by decide +kernel
theorem dX12_draw_13 : decode cX12_draw 13 = .ok (.putfield 357, 3) := by decide +kernel
theorem dX12_draw_16 : decode cX12_draw 16 = .ok (.aload_n 0, 1) := by decide +kernel
theorem dX12_draw_17 : decode cX12_draw 17 = .ok (.getfield 357, 3) := by decide +kernel
theorem dX12_draw_20 : decode cX12_draw 20 = .ok (.bipush 33, 2) := by decide +kernel
theorem dX12_draw_22 : decode cX12_draw 22 = .ok (.lushr, 1) := by decide +kernel
theorem dX12_draw_23 : decode cX12_draw 23 = .ok (.iload_n 1, 1) := by decide +kernel
theorem dX12_draw_24 : decode cX12_draw 24 = .ok (.i2l, 1) := by decide +kernel
theorem dX12_draw_25 : decode cX12_draw 25 = .ok (.lrem, 1) := by decide +kernel
theorem dX12_draw_26 : decode cX12_draw 26 = .ok (.l2i, 1) := by decide +kernel
theorem dX12_draw_27 : decode cX12_draw 27 = .ok (.ireturn, 1) := by decide +kernel
theorem dX12_step_0 : decode cX12_step 0 = .ok (.aload_n 0, 1) := by decide +kernel
theorem dX12_step_1 : decode cX12_step 1 = .ok (.invokevirtual 354, 3) := by decide +kernel
theorem dX12_step_4 : decode cX12_step 4 = .ok (.aload_n 0, 1) := by decide +kernel
theorem dX12_step_5 : decode cX12_step 5 = .ok (.bipush 100, 2) := by decide +kernel
theorem dX12_step_7 : decode cX12_step 7 = .ok (.invokevirtual 365, 3) := by decide +kernel
theorem dX12_step_10 : decode cX12_step 10 = .ok (.aload_n 0, 1) := by decide +kernel
theorem dX12_step_11 : decode cX12_step 11 = .ok (.getfield 37, 3) := by decide +kernel
theorem dX12_step_14 : decode cX12_step 14 = .ok (.iconst 2, 1) := by decide +kernel
theorem dX12_step_15 : decode cX12_step 15 = .ok (.iaload, 1) := by decide +kernel
theorem dX12_step_16 : decode cX12_step 16 = .ok (.if_icmp .ge 74, 3) := by decide +kernel
theorem dX12_step_19 : decode cX12_step 19 = .ok (.aload_n 0, 1) := by decide +kernel
theorem dX12_step_20 : decode cX12_step 20 = .ok (.invokevirtual 339, 3) := by decide +kernel
theorem dX12_step_23 : decode cX12_step 23 = .ok (.ifCond .le 67, 3) := by decide +kernel
theorem dX12_step_26 : decode cX12_step 26 = .ok (.aload_n 0, 1) := by decide +kernel
theorem dX12_step_27 : decode cX12_step 27 = .ok (.aload_n 0, 1) := by decide +kernel
theorem dX12_step_28 : decode cX12_step 28 = .ok (.invokevirtual 339, 3) := by decide +kernel
theorem dX12_step_31 : decode cX12_step 31 = .ok (.invokevirtual 365, 3) := by decide +kernel
theorem dX12_step_34 : decode cX12_step 34 = .ok (.istore_n 1, 1) := by decide +kernel
theorem dX12_step_35 : decode cX12_step 35 = .ok (.iconst 0, 1) := by decide +kernel
theorem dX12_step_36 : decode cX12_step 36 = .ok (.istore_n 2, 1) := by decide +kernel
theorem dX12_step_37 : decode cX12_step 37 = .ok (.aload_n 0, 1) := by decide +kernel
theorem dX12_step_38 : decode cX12_step 38 = .ok (.getfield 55, 3) := by decide +kernel
theorem dX12_step_41 : decode cX12_step 41 = .ok (.iload_n 2, 1) := by decide +kernel
theorem dX12_step_42 : decode cX12_step 42 = .ok (.iaload, 1) := by decide +kernel
theorem dX12_step_43 : decode cX12_step 43 = .ok (.iload_n 2, 1) := by decide +kernel
theorem dX12_step_44 : decode cX12_step 44 = .ok (.if_icmp .ne 7, 3) := by decide +kernel
theorem dX12_step_47 : decode cX12_step 47 = .ok (.iload_n 1, 1) := by decide +kernel
theorem dX12_step_48 : decode cX12_step 48 = .ok (.ifCond .le 27, 3) := by decide +kernel
theorem dX12_step_51 : decode cX12_step 51 = .ok (.iload_n 1, 1) := by decide +kernel
theorem dX12_step_52 : decode cX12_step 52 = .ok (.aload_n 0, 1) := by decide +kernel
theorem dX12_step_53 : decode cX12_step 53 = .ok (.getfield 55, 3) := by decide +kernel
theorem dX12_step_56 : decode cX12_step 56 = .ok (.iload_n 2, 1) := by decide +kernel
theorem dX12_step_57 : decode cX12_step 57 = .ok (.iaload, 1) := by decide +kernel
theorem dX12_step_58 : decode cX12_step 58 = .ok (.iload_n 2, 1) := by decide +kernel
theorem dX12_step_59 : decode cX12_step 59 = .ok (.if_icmp .ne 7, 3) := by decide +kernel
theorem dX12_step_62 : decode cX12_step 62 = .ok (.iconst 1, 1) := by decide +kernel
theorem dX12_step_63 : decode cX12_step 63 = .ok (.goto 4, 3) := by decide +kernel
theorem dX12_step_66 : decode cX12_step 66 = .ok (.iconst 0, 1) := by decide +kernel
theorem dX12_step_67 : decode cX12_step 67 = .ok (.isub, 1) := by decide +kernel
theorem dX12_step_68 : decode cX12_step 68 = .ok (.istore_n 1, 1) := by decide +kernel
theorem dX12_step_69 : decode cX12_step 69 = .ok (.iinc 2 1, 3) := by decide +kernel
theorem dX12_step_72 : decode cX12_step 72 = .ok (.goto (-35), 3) := by decide +kernel
theorem dX12_step_75 : decode cX12_step 75 = .ok (.aload_n 0, 1) := by decide +kernel
theorem dX12_step_76 : decode cX12_step 76 = .ok (.iload_n 2, 1) := by decide +kernel
theorem dX12_step_77 : decode cX12_step 77 = .ok (.invokevirtual 336, 3) := by decide +kernel
theorem dX12_step_80 : decode cX12_step 80 = .ok (.aload_n 0, 1) := by decide +kernel
theorem dX12_step_81 : decode cX12_step 81 = .ok (.getfield 61, 3) := by decide +kernel
theorem dX12_step_84 : decode cX12_step 84 = .ok (.iconst 1, 1) := by decide +kernel
theorem dX12_step_85 : decode cX12_step 85 = .ok (.dup2, 1) := by decide +kernel
theorem dX12_step_86 : decode cX12_step 86 = .ok (.iaload, 1) := by decide +kernel
theorem dX12_step_87 : decode cX12_step 87 = .ok (.iconst 1, 1) := by decide +kernel
theorem dX12_step_88 : decode cX12_step 88 = .ok (.iadd, 1) := by decide +kernel
theorem dX12_step_89 : decode cX12_step 89 = .ok (.iastore, 1) := by decide +kernel
theorem dX12_step_90 : decode cX12_step 90 = .ok (.iconst 0, 1) := by decide +kernel
theorem dX12_step_91 : decode cX12_step 91 = .ok (.istore_n 1, 1) := by decide +kernel
theorem dX12_step_92 : decode cX12_step 92 = .ok (.iconst 0, 1) := by decide +kernel
theorem dX12_step_93 : decode cX12_step 93 = .ok (.istore_n 2, 1) := by decide +kernel
theorem dX12_step_94 : decode cX12_step 94 = .ok (.iload_n 2, 1) := by decide +kernel
theorem dX12_step_95 : decode cX12_step 95 = .ok (.aload_n 0, 1) := by decide +kernel
theorem dX12_step_96 : decode cX12_step 96 = .ok (.getfield 284, 3) := by decide +kernel
theorem dX12_step_99 : decode cX12_step 99 = .ok (.if_icmp .ge 22, 3) := by decide +kernel
theorem dX12_step_102 : decode cX12_step 102 = .ok (.iload_n 1, 1) := by decide +kernel
theorem dX12_step_103 : decode cX12_step 103 = .ok (.aload_n 0, 1) := by decide +kernel
theorem dX12_step_104 : decode cX12_step 104 = .ok (.getfield 43, 3) := by decide +kernel
theorem dX12_step_107 : decode cX12_step 107 = .ok (.iconst 2, 1) := by decide +kernel
theorem dX12_step_108 : decode cX12_step 108 = .ok (.iload_n 2, 1) := by decide +kernel
theorem dX12_step_109 : decode cX12_step 109 = .ok (.imul, 1) := by decide +kernel
theorem dX12_step_110 : decode cX12_step 110 = .ok (.iconst 1, 1) := by decide +kernel
theorem dX12_step_111 : decode cX12_step 111 = .ok (.iadd, 1) := by decide +kernel
theorem dX12_step_112 : decode cX12_step 112 = .ok (.iaload, 1) := by decide +kernel
theorem dX12_step_113 : decode cX12_step 113 = .ok (.iadd, 1) := by decide +kernel
theorem dX12_step_114 : decode cX12_step 114 = .ok (.istore_n 1, 1) := by decide +kernel
theorem dX12_step_115 : decode cX12_step 115 = .ok (.iinc 2 1, 3) := by decide +kernel
theorem dX12_step_118 : decode cX12_step 118 = .ok (.goto (-24), 3) := by decide +kernel
theorem dX12_step_121 : decode cX12_step 121 = .ok (.aload_n 0, 1) := by decide +kernel
theorem dX12_step_122 : decode cX12_step 122 = .ok (.iload_n 1, 1) := by decide +kernel
theorem dX12_step_123 : decode cX12_step 123 = .ok (.invokevirtual 365, 3) := by decide +kernel
theorem dX12_step_126 : decode cX12_step 126 = .ok (.istore_n 2, 1) := by decide +kernel
theorem dX12_step_127 : decode cX12_step 127 = .ok (.iconst 0, 1) := by decide +kernel
theorem dX12_step_128 : decode cX12_step 128 = .ok (.istore_n 3, 1) := by decide +kernel
theorem dX12_step_129 : decode cX12_step 129 = .ok (.iload_n 2, 1) := by decide +kernel
theorem dX12_step_130 : decode cX12_step 130 = .ok (.aload_n 0, 1) := by decide +kernel
theorem dX12_step_131 : decode cX12_step 131 = .ok (.getfield 43, 3) := by decide +kernel
theorem dX12_step_134 : decode cX12_step 134 = .ok (.iconst 2, 1) := by decide +kernel
theorem dX12_step_135 : decode cX12_step 135 = .ok (.iload_n 3, 1) := by decide +kernel
theorem dX12_step_136 : decode cX12_step 136 = .ok (.imul, 1) := by decide +kernel
theorem dX12_step_137 : decode cX12_step 137 = .ok (.iconst 1, 1) := by decide +kernel
theorem dX12_step_138 : decode cX12_step 138 = .ok (.iadd, 1) := by decide +kernel
theorem dX12_step_139 : decode cX12_step 139 = .ok (.iaload, 1) := by decide +kernel
theorem dX12_step_140 : decode cX12_step 140 = .ok (.if_icmp .lt 22, 3) := by decide +kernel
theorem dX12_step_143 : decode cX12_step 143 = .ok (.iload_n 2, 1) := by decide +kernel
theorem dX12_step_144 : decode cX12_step 144 = .ok (.aload_n 0, 1) := by decide +kernel
theorem dX12_step_145 : decode cX12_step 145 = .ok (.getfield 43, 3) := by decide +kernel
theorem dX12_step_148 : decode cX12_step 148 = .ok (.iconst 2, 1) := by decide +kernel
theorem dX12_step_149 : decode cX12_step 149 = .ok (.iload_n 3, 1) := by decide +kernel
theorem dX12_step_150 : decode cX12_step 150 = .ok (.imul, 1) := by decide +kernel
theorem dX12_step_151 : decode cX12_step 151 = .ok (.iconst 1, 1) := by decide +kernel
theorem dX12_step_152 : decode cX12_step 152 = .ok (.iadd, 1) := by decide +kernel
theorem dX12_step_153 : decode cX12_step 153 = .ok (.iaload, 1) := by decide +kernel
theorem dX12_step_154 : decode cX12_step 154 = .ok (.isub, 1) := by decide +kernel
theorem dX12_step_155 : decode cX12_step 155 = .ok (.istore_n 2, 1) := by decide +kernel
theorem dX12_step_156 : decode cX12_step 156 = .ok (.iinc 3 1, 3) := by decide +kernel
theorem dX12_step_159 : decode cX12_step 159 = .ok (.goto (-30), 3) := by decide +kernel
theorem dX12_step_162 : decode cX12_step 162 = .ok (.aload_n 0, 1) := by decide +kernel
theorem dX12_step_163 : decode cX12_step 163 = .ok (.iload_n 3, 1) := by decide +kernel
theorem dX12_step_164 : decode cX12_step 164 = .ok (.invokevirtual 333, 3) := by decide +kernel
theorem dX12_step_167 : decode cX12_step 167 = .ok (.ifCond .ne 14, 3) := by decide +kernel
theorem dX12_step_170 : decode cX12_step 170 = .ok (.aload_n 0, 1) := by decide +kernel
theorem dX12_step_171 : decode cX12_step 171 = .ok (.getfield 61, 3) := by decide +kernel
theorem dX12_step_174 : decode cX12_step 174 = .ok (.iconst 2, 1) := by decide +kernel
theorem dX12_step_175 : decode cX12_step 175 = .ok (.dup2, 1) := by decide +kernel
theorem dX12_step_176 : decode cX12_step 176 = .ok (.iaload, 1) := by decide +kernel
theorem dX12_step_177 : decode cX12_step 177 = .ok (.iconst 1, 1) := by decide +kernel
theorem dX12_step_178 : decode cX12_step 178 = .ok (.iadd, 1) := by decide +kernel
theorem dX12_step_179 : decode cX12_step 179 = .ok (.iastore, 1) := by decide +kernel
theorem dX12_step_180 : decode cX12_step 180 = .ok (.return_, 1) := by decide +kernel
theorem dX12_step_181 : decode cX12_step 181 = .ok (.aload_n 0, 1) := by decide +kernel
theorem dX12_step_182 : decode cX12_step 182 = .ok (.iload_n 3, 1) := by decide +kernel
theorem dX12_step_183 : decode cX12_step 183 = .ok (.aload_n 0, 1) := by decide +kernel
theorem dX12_step_184 : decode cX12_step 184 = .ok (.iload_n 3, 1) := by decide +kernel
theorem dX12_step_185 : decode cX12_step 185 = .ok (.aload_n 0, 1) := by decide +kernel
theorem dX12_step_186 : decode cX12_step 186 = .ok (.aload_n 0, 1) := by decide +kernel
theorem dX12_step_187 : decode cX12_step 187 = .ok (.iload_n 3, 1) := by decide +kernel
theorem dX12_step_188 : decode cX12_step 188 = .ok (.invokevirtual 333, 3) := by decide +kernel
theorem dX12_step_191 : decode cX12_step 191 = .ok (.invokevirtual 365, 3) := by decide +kernel
theorem dX12_step_194 : decode cX12_step 194 = .ok (.invokevirtual 368, 3) := by decide +kernel
theorem dX12_step_197 : decode cX12_step 197 = .ok (.invokevirtual 329, 3) := by decide +kernel
theorem dX12_step_200 : decode cX12_step 200 = .ok (.aload_n 0, 1) := by decide +kernel
theorem dX12_step_201 : decode cX12_step 201 = .ok (.getfield 61, 3) := by decide +kernel
theorem dX12_step_204 : decode cX12_step 204 = .ok (.iconst 0, 1) := by decide +kernel
theorem dX12_step_205 : decode cX12_step 205 = .ok (.dup2, 1) := by decide +kernel
theorem dX12_step_206 : decode cX12_step 206 = .ok (.iaload, 1) := by decide +kernel
theorem dX12_step_207 : decode cX12_step 207 = .ok (.iconst 1, 1) := by decide +kernel
theorem dX12_step_208 : decode cX12_step 208 = .ok (.iadd, 1) := by decide +kernel
theorem dX12_step_209 : decode cX12_step 209 = .ok (.iastore, 1) := by decide +kernel
theorem dX12_step_210 : decode cX12_step 210 = .ok (.return_, 1) := by decide +kernel
theorem dX12_run_0 : decode cX12_run 0 = .ok (.aload_n 0, 1) := by decide +kernel
theorem dX12_run_1 : decode cX12_run 1 = .ok (.iconst 0, 1) := by decide +kernel
theorem dX12_run_2 : decode cX12_run 2 = .ok (.putfield 111, 3) := by decide +kernel
theorem dX12_run_5 : decode cX12_run 5 = .ok (.aload_n 0, 1) := by decide +kernel
theorem dX12_run_6 : decode cX12_run 6 = .ok (.getfield 284, 3) := by decide +kernel
theorem dX12_run_9 : decode cX12_run 9 = .ok (.ifCond .eq 15, 3) := by decide +kernel
theorem dX12_run_12 : decode cX12_run 12 = .ok (.iload_n 1, 1) := by decide +kernel
theorem dX12_run_13 : decode cX12_run 13 = .ok (.i2l, 1) := by decide +kernel
theorem dX12_run_14 : decode cX12_run 14 = .ok (.lconst 1, 1) := by decide +kernel
theorem dX12_run_15 : decode cX12_run 15 = .ok (.ldc2_w 371, 3) := by decide +kernel
theorem dX12_run_18 : decode cX12_run 18 = .ok (.invokestatic 232, 3) := by decide +kernel
theorem dX12_run_21 : decode cX12_run 21 = .ok (.ifCond .ne 5, 3) := by decide +kernel
theorem dX12_run_24 : decode cX12_run 24 = .ok (.iconst (-1), 1) := by decide +kernel
theorem dX12_run_25 : decode cX12_run 25 = .ok (.ireturn, 1) := by decide +kernel
theorem dX12_run_26 : decode cX12_run 26 = .ok (.aload_n 0, 1) := by decide +kernel
theorem dX12_run_27 : decode cX12_run 27 = .ok (.lload_n 2, 1) := by decide +kernel
theorem dX12_run_28 : decode cX12_run 28 = .ok (.putfield 357, 3) := by decide +kernel
theorem dX12_run_31 : decode cX12_run 31 = .ok (.iconst 0, 1) := by decide +kernel
theorem dX12_run_32 : decode cX12_run 32 = .ok (.istore 4, 2) := by decide +kernel
theorem dX12_run_34 : decode cX12_run 34 = .ok (.iload 4, 2) := by decide +kernel
theorem dX12_run_36 : decode cX12_run 36 = .ok (.iload_n 1, 1) := by decide +kernel
theorem dX12_run_37 : decode cX12_run 37 = .ok (.if_icmp .ge 13, 3) := by decide +kernel
theorem dX12_run_40 : decode cX12_run 40 = .ok (.aload_n 0, 1) := by decide +kernel
theorem dX12_run_41 : decode cX12_run 41 = .ok (.invokevirtual 373, 3) := by decide +kernel
theorem dX12_run_44 : decode cX12_run 44 = .ok (.iinc 4 1, 3) := by decide +kernel
theorem dX12_run_47 : decode cX12_run 47 = .ok (.goto (-13), 3) := by decide +kernel
theorem dX12_run_50 : decode cX12_run 50 = .ok (.aload_n 0, 1) := by decide +kernel
theorem dX12_run_51 : decode cX12_run 51 = .ok (.invokevirtual 339, 3) := by decide +kernel
theorem dX12_run_54 : decode cX12_run 54 = .ok (.ireturn, 1) := by decide +kernel
theorem dX12_undo_0 : decode cX12_undo 0 = .ok (.aload_n 0, 1) := by decide +kernel
theorem dX12_undo_1 : decode cX12_undo 1 = .ok (.iconst 0, 1) := by decide +kernel
theorem dX12_undo_2 : decode cX12_undo 2 = .ok (.putfield 111, 3) := by decide +kernel
theorem dX12_undo_5 : decode cX12_undo 5 = .ok (.aload_n 0, 1) := by decide +kernel
theorem dX12_undo_6 : decode cX12_undo 6 = .ok (.getfield 296, 3) := by decide +kernel
theorem dX12_undo_9 : decode cX12_undo 9 = .ok (.ifCond .ne 5, 3) := by decide +kernel
theorem dX12_undo_12 : decode cX12_undo 12 = .ok (.iconst (-1), 1) := by decide +kernel
theorem dX12_undo_13 : decode cX12_undo 13 = .ok (.ireturn, 1) := by decide +kernel
theorem dX12_undo_14 : decode cX12_undo 14 = .ok (.aload_n 0, 1) := by decide +kernel
theorem dX12_undo_15 : decode cX12_undo 15 = .ok (.dup, 1) := by decide +kernel
theorem dX12_undo_16 : decode cX12_undo 16 = .ok (.getfield 296, 3) := by decide +kernel
theorem dX12_undo_19 : decode cX12_undo 19 = .ok (.iconst 1, 1) := by decide +kernel
theorem dX12_undo_20 : decode cX12_undo 20 = .ok (.isub, 1) := by decide +kernel
theorem dX12_undo_21 : decode cX12_undo 21 = .ok (.putfield 296, 3) := by decide +kernel
theorem dX12_undo_24 : decode cX12_undo 24 = .ok (.iconst 0, 1) := by decide +kernel
theorem dX12_undo_25 : decode cX12_undo 25 = .ok (.istore_n 1, 1) := by decide +kernel
theorem dX12_undo_26 : decode cX12_undo 26 = .ok (.iload_n 1, 1) := by decide +kernel
theorem dX12_undo_27 : decode cX12_undo 27 = .ok (.bipush 20, 2) := by decide +kernel
theorem dX12_undo_29 : decode cX12_undo 29 = .ok (.if_icmp .ge 49, 3) := by decide +kernel
theorem dX12_undo_32 : decode cX12_undo 32 = .ok (.aload_n 0, 1) := by decide +kernel
theorem dX12_undo_33 : decode cX12_undo 33 = .ok (.getfield 55, 3) := by decide +kernel
theorem dX12_undo_36 : decode cX12_undo 36 = .ok (.iload_n 1, 1) := by decide +kernel
theorem dX12_undo_37 : decode cX12_undo 37 = .ok (.aload_n 0, 1) := by decide +kernel
theorem dX12_undo_38 : decode cX12_undo 38 = .ok (.getfield 68, 3) := by decide +kernel
theorem dX12_undo_41 : decode cX12_undo 41 = .ok (.bipush 20, 2) := by decide +kernel
theorem dX12_undo_43 : decode cX12_undo 43 = .ok (.aload_n 0, 1) := by decide +kernel
theorem dX12_undo_44 : decode cX12_undo 44 = .ok (.getfield 296, 3) := by decide +kernel
theorem dX12_undo_47 : decode cX12_undo 47 = .ok (.imul, 1) := by decide +kernel
theorem dX12_undo_48 : decode cX12_undo 48 = .ok (.iload_n 1, 1) := by decide +kernel
theorem dX12_undo_49 : decode cX12_undo 49 = .ok (.iadd, 1) := by decide +kernel
theorem dX12_undo_50 : decode cX12_undo 50 = .ok (.iaload, 1) := by decide +kernel
theorem dX12_undo_51 : decode cX12_undo 51 = .ok (.iastore, 1) := by decide +kernel
theorem dX12_undo_52 : decode cX12_undo 52 = .ok (.aload_n 0, 1) := by decide +kernel
theorem dX12_undo_53 : decode cX12_undo 53 = .ok (.getfield 58, 3) := by decide +kernel
theorem dX12_undo_56 : decode cX12_undo 56 = .ok (.iload_n 1, 1) := by decide +kernel
theorem dX12_undo_57 : decode cX12_undo 57 = .ok (.aload_n 0, 1) := by decide +kernel
theorem dX12_undo_58 : decode cX12_undo 58 = .ok (.getfield 71, 3) := by decide +kernel
theorem dX12_undo_61 : decode cX12_undo 61 = .ok (.bipush 20, 2) := by decide +kernel
theorem dX12_undo_63 : decode cX12_undo 63 = .ok (.aload_n 0, 1) := by decide +kernel
theorem dX12_undo_64 : decode cX12_undo 64 = .ok (.getfield 296, 3) := by decide +kernel
theorem dX12_undo_67 : decode cX12_undo 67 = .ok (.imul, 1) := by decide +kernel
theorem dX12_undo_68 : decode cX12_undo 68 = .ok (.iload_n 1, 1) := by decide +kernel
theorem dX12_undo_69 : decode cX12_undo 69 = .ok (.iadd, 1) := by decide +kernel
theorem dX12_undo_70 : decode cX12_undo 70 = .ok (.iaload, 1) := by decide +kernel
theorem dX12_undo_71 : decode cX12_undo 71 = .ok (.iastore, 1) := by decide +kernel
theorem dX12_undo_72 : decode cX12_undo 72 = .ok (.iinc 1 1, 3) := by decide +kernel
theorem dX12_undo_75 : decode cX12_undo 75 = .ok (.goto (-49), 3) := by decide +kernel
theorem dX12_undo_78 : decode cX12_undo 78 = .ok (.iconst 0, 1) := by decide +kernel
theorem dX12_undo_79 : decode cX12_undo 79 = .ok (.istore_n 1, 1) := by decide +kernel
theorem dX12_undo_80 : decode cX12_undo 80 = .ok (.iload_n 1, 1) := by decide +kernel
theorem dX12_undo_81 : decode cX12_undo 81 = .ok (.iconst 3, 1) := by decide +kernel
theorem dX12_undo_82 : decode cX12_undo 82 = .ok (.if_icmp .ge 28, 3) := by decide +kernel
theorem dX12_undo_85 : decode cX12_undo 85 = .ok (.aload_n 0, 1) := by decide +kernel
theorem dX12_undo_86 : decode cX12_undo 86 = .ok (.getfield 61, 3) := by decide +kernel
theorem dX12_undo_89 : decode cX12_undo 89 = .ok (.iload_n 1, 1) := by decide +kernel
theorem dX12_undo_90 : decode cX12_undo 90 = .ok (.aload_n 0, 1) := by decide +kernel
theorem dX12_undo_91 : decode cX12_undo 91 = .ok (.getfield 74, 3) := by decide +kernel
theorem dX12_undo_94 : decode cX12_undo 94 = .ok (.iconst 3, 1) := by decide +kernel
theorem dX12_undo_95 : decode cX12_undo 95 = .ok (.aload_n 0, 1) := by decide +kernel
theorem dX12_undo_96 : decode cX12_undo 96 = .ok (.getfield 296, 3) := by decide +kernel
theorem dX12_undo_99 : decode cX12_undo 99 = .ok (.imul, 1) := by decide +kernel
theorem dX12_undo_100 : decode cX12_undo 100 = .ok (.iload_n 1, 1) := by decide +kernel
theorem dX12_undo_101 : decode cX12_undo 101 = .ok (.iadd, 1) := by decide +kernel
theorem dX12_undo_102 : decode cX12_undo 102 = .ok (.iaload, 1) := by decide +kernel
theorem dX12_undo_103 : decode cX12_undo 103 = .ok (.iastore, 1) := by decide +kernel
theorem dX12_undo_104 : decode cX12_undo 104 = .ok (.iinc 1 1, 3) := by decide +kernel
theorem dX12_undo_107 : decode cX12_undo 107 = .ok (.goto (-27), 3) := by decide +kernel
theorem dX12_undo_110 : decode cX12_undo 110 = .ok (.aload_n 0, 1) := by decide +kernel
theorem dX12_undo_111 : decode cX12_undo 111 = .ok (.getfield 296, 3) := by decide +kernel
theorem dX12_undo_114 : decode cX12_undo 114 = .ok (.ireturn, 1) := by decide +kernel
theorem dX12_layMeans_0 : decode cX12_layMeans 0 = .ok (.iconst 0, 1) := by decide +kernel
theorem dX12_layMeans_1 : decode cX12_layMeans 1 = .ok (.istore_n 3, 1) := by decide +kernel
theorem dX12_layMeans_2 : decode cX12_layMeans 2 = .ok (.iload_n 3, 1) := by decide +kernel
theorem dX12_layMeans_3 : decode cX12_layMeans 3 = .ok (.bipush 20, 2) := by decide +kernel
theorem dX12_layMeans_5 : decode cX12_layMeans 5 = .ok (.if_icmp .gt 113, 3) := by decide +kernel
theorem dX12_layMeans_8 : decode cX12_layMeans 8 = .ok (.aload_n 0, 1) := by decide +kernel
theorem dX12_layMeans_9 : decode cX12_layMeans 9 = .ok (.getfield 77, 3) := by decide +kernel
theorem dX12_layMeans_12 : decode cX12_layMeans 12 = .ok (.iload_n 3, 1) := by decide +kernel
theorem dX12_layMeans_13 : decode cX12_layMeans 13 = .ok (.lconst 0, 1) := by decide +kernel
theorem dX12_layMeans_14 : decode cX12_layMeans 14 = .ok (.lastore, 1) := by decide +kernel
theorem dX12_layMeans_15 : decode cX12_layMeans 15 = .ok (.iload_n 3, 1) := by decide +kernel
theorem dX12_layMeans_16 : decode cX12_layMeans 16 = .ok (.iload_n 1, 1) := by decide +kernel
theorem dX12_layMeans_17 : decode cX12_layMeans 17 = .ok (.if_icmp .ge 6, 3) := by decide +kernel
theorem dX12_layMeans_20 : decode cX12_layMeans 20 = .ok (.goto 92, 3) := by decide +kernel
theorem dX12_layMeans_23 : decode cX12_layMeans 23 = .ok (.lconst 0, 1) := by decide +kernel
theorem dX12_layMeans_24 : decode cX12_layMeans 24 = .ok (.lstore 4, 2) := by decide +kernel
theorem dX12_layMeans_26 : decode cX12_layMeans 26 = .ok (.iconst 0, 1) := by decide +kernel
theorem dX12_layMeans_27 : decode cX12_layMeans 27 = .ok (.istore 6, 2) := by decide +kernel
theorem dX12_layMeans_29 : decode cX12_layMeans 29 = .ok (.iload 6, 2) := by decide +kernel
theorem dX12_layMeans_31 : decode cX12_layMeans 31 = .ok (.iload_n 1, 1) := by decide +kernel
theorem dX12_layMeans_32 : decode cX12_layMeans 32 = .ok (.iadd, 1) := by decide +kernel
theorem dX12_layMeans_33 : decode cX12_layMeans 33 = .ok (.iload_n 3, 1) := by decide +kernel
theorem dX12_layMeans_34 : decode cX12_layMeans 34 = .ok (.if_icmp .gt 33, 3) := by decide +kernel
theorem dX12_layMeans_37 : decode cX12_layMeans 37 = .ok (.lload 4, 2) := by decide +kernel
theorem dX12_layMeans_39 : decode cX12_layMeans 39 = .ok (.aload_n 0, 1) := by decide +kernel
theorem dX12_layMeans_40 : decode cX12_layMeans 40 = .ok (.getfield 77, 3) := by decide +kernel
theorem dX12_layMeans_43 : decode cX12_layMeans 43 = .ok (.iload 6, 2) := by decide +kernel
theorem dX12_layMeans_45 : decode cX12_layMeans 45 = .ok (.laload, 1) := by decide +kernel
theorem dX12_layMeans_46 : decode cX12_layMeans 46 = .ok (.aload_n 0, 1) := by decide +kernel
theorem dX12_layMeans_47 : decode cX12_layMeans 47 = .ok (.getfield 77, 3) := by decide +kernel
theorem dX12_layMeans_50 : decode cX12_layMeans 50 = .ok (.iload_n 3, 1) := by decide +kernel
theorem dX12_layMeans_51 : decode cX12_layMeans 51 = .ok (.iload_n 1, 1) := by decide +kernel
theorem dX12_layMeans_52 : decode cX12_layMeans 52 = .ok (.isub, 1) := by decide +kernel
theorem dX12_layMeans_53 : decode cX12_layMeans 53 = .ok (.iload 6, 2) := by decide +kernel
theorem dX12_layMeans_55 : decode cX12_layMeans 55 = .ok (.isub, 1) := by decide +kernel
theorem dX12_layMeans_56 : decode cX12_layMeans 56 = .ok (.laload, 1) := by decide +kernel
theorem dX12_layMeans_57 : decode cX12_layMeans 57 = .ok (.ladd, 1) := by decide +kernel
theorem dX12_layMeans_58 : decode cX12_layMeans 58 = .ok (.ladd, 1) := by decide +kernel
theorem dX12_layMeans_59 : decode cX12_layMeans 59 = .ok (.lstore 4, 2) := by decide +kernel
theorem dX12_layMeans_61 : decode cX12_layMeans 61 = .ok (.iinc 6 1, 3) := by decide +kernel
theorem dX12_layMeans_64 : decode cX12_layMeans 64 = .ok (.goto (-35), 3) := by decide +kernel
theorem dX12_layMeans_67 : decode cX12_layMeans 67 = .ok (.lload 4, 2) := by decide +kernel
theorem dX12_layMeans_69 : decode cX12_layMeans 69 = .ok (.iload_n 3, 1) := by decide +kernel
theorem dX12_layMeans_70 : decode cX12_layMeans 70 = .ok (.iload_n 1, 1) := by decide +kernel
theorem dX12_layMeans_71 : decode cX12_layMeans 71 = .ok (.isub, 1) := by decide +kernel
theorem dX12_layMeans_72 : decode cX12_layMeans 72 = .ok (.iconst 1, 1) := by decide +kernel
theorem dX12_layMeans_73 : decode cX12_layMeans 73 = .ok (.iadd, 1) := by decide +kernel
theorem dX12_layMeans_74 : decode cX12_layMeans 74 = .ok (.i2l, 1) := by decide +kernel
theorem dX12_layMeans_75 : decode cX12_layMeans 75 = .ok (.ldiv, 1) := by decide +kernel
theorem dX12_layMeans_76 : decode cX12_layMeans 76 = .ok (.lstore 6, 2) := by decide +kernel
theorem dX12_layMeans_78 : decode cX12_layMeans 78 = .ok (.aload_n 0, 1) := by decide +kernel
theorem dX12_layMeans_79 : decode cX12_layMeans 79 = .ok (.getfield 77, 3) := by decide +kernel
theorem dX12_layMeans_82 : decode cX12_layMeans 82 = .ok (.iload_n 3, 1) := by decide +kernel
theorem dX12_layMeans_83 : decode cX12_layMeans 83 = .ok (.ldc2_w 158, 3) := by decide +kernel
theorem dX12_layMeans_86 : decode cX12_layMeans 86 = .ok (.iload_n 2, 1) := by decide +kernel
theorem dX12_layMeans_87 : decode cX12_layMeans 87 = .ok (.i2l, 1) := by decide +kernel
theorem dX12_layMeans_88 : decode cX12_layMeans 88 = .ok (.aload_n 0, 1) := by decide +kernel
theorem dX12_layMeans_89 : decode cX12_layMeans 89 = .ok (.getfield 77, 3) := by decide +kernel
theorem dX12_layMeans_92 : decode cX12_layMeans 92 = .ok (.iload_n 3, 1) := by decide +kernel
theorem dX12_layMeans_93 : decode cX12_layMeans 93 = .ok (.iload_n 1, 1) := by decide +kernel
theorem dX12_layMeans_94 : decode cX12_layMeans 94 = .ok (.isub, 1) := by decide +kernel
theorem dX12_layMeans_95 : decode cX12_layMeans 95 = .ok (.laload, 1) := by decide +kernel
theorem dX12_layMeans_96 : decode cX12_layMeans 96 = .ok (.lmul, 1) := by decide +kernel
theorem dX12_layMeans_97 : decode cX12_layMeans 97 = .ok (.bipush 100, 2) := by decide +kernel
theorem dX12_layMeans_99 : decode cX12_layMeans 99 = .ok (.iload_n 2, 1) := by decide +kernel
theorem dX12_layMeans_100 : decode cX12_layMeans 100 = .ok (.isub, 1) := by decide +kernel
theorem dX12_layMeans_101 : decode cX12_layMeans 101 = .ok (.i2l, 1) := by decide +kernel
theorem dX12_layMeans_102 : decode cX12_layMeans 102 = .ok (.lload 6, 2) := by decide +kernel
theorem dX12_layMeans_104 : decode cX12_layMeans 104 = .ok (.lmul, 1) := by decide +kernel
theorem dX12_layMeans_105 : decode cX12_layMeans 105 = .ok (.ladd, 1) := by decide +kernel
theorem dX12_layMeans_106 : decode cX12_layMeans 106 = .ok (.ldc2_w 310, 3) := by decide +kernel
theorem dX12_layMeans_109 : decode cX12_layMeans 109 = .ok (.ldiv, 1) := by decide +kernel
theorem dX12_layMeans_110 : decode cX12_layMeans 110 = .ok (.ladd, 1) := by decide +kernel
theorem dX12_layMeans_111 : decode cX12_layMeans 111 = .ok (.lastore, 1) := by decide +kernel
theorem dX12_layMeans_112 : decode cX12_layMeans 112 = .ok (.iinc 3 1, 3) := by decide +kernel
theorem dX12_layMeans_115 : decode cX12_layMeans 115 = .ok (.goto (-113), 3) := by decide +kernel
theorem dX12_layMeans_118 : decode cX12_layMeans 118 = .ok (.return_, 1) := by decide +kernel
theorem dX12_gapAt_0 : decode cX12_gapAt 0 = .ok (.aload_n 0, 1) := by decide +kernel
theorem dX12_gapAt_1 : decode cX12_gapAt 1 = .ok (.iload_n 1, 1) := by decide +kernel
theorem dX12_gapAt_2 : decode cX12_gapAt 2 = .ok (.invokevirtual 315, 3) := by decide +kernel
theorem dX12_gapAt_5 : decode cX12_gapAt 5 = .ok (.ifCond .eq 21, 3) := by decide +kernel
theorem dX12_gapAt_8 : decode cX12_gapAt 8 = .ok (.aload_n 0, 1) := by decide +kernel
theorem dX12_gapAt_9 : decode cX12_gapAt 9 = .ok (.iload_n 1, 1) := by decide +kernel
theorem dX12_gapAt_10 : decode cX12_gapAt 10 = .ok (.iconst 1, 1) := by decide +kernel
theorem dX12_gapAt_11 : decode cX12_gapAt 11 = .ok (.isub, 1) := by decide +kernel
theorem dX12_gapAt_12 : decode cX12_gapAt 12 = .ok (.invokevirtual 315, 3) := by decide +kernel
theorem dX12_gapAt_15 : decode cX12_gapAt 15 = .ok (.ifCond .ne 11, 3) := by decide +kernel
theorem dX12_gapAt_18 : decode cX12_gapAt 18 = .ok (.aload_n 0, 1) := by decide +kernel
theorem dX12_gapAt_19 : decode cX12_gapAt 19 = .ok (.iload_n 1, 1) := by decide +kernel
theorem dX12_gapAt_20 : decode cX12_gapAt 20 = .ok (.invokevirtual 324, 3) := by decide +kernel
theorem dX12_gapAt_23 : decode cX12_gapAt 23 = .ok (.goto 4, 3) := by decide +kernel
theorem dX12_gapAt_26 : decode cX12_gapAt 26 = .ok (.iconst 0, 1) := by decide +kernel
theorem dX12_gapAt_27 : decode cX12_gapAt 27 = .ok (.ireturn, 1) := by decide +kernel
theorem dX12_meanNow_0 : decode cX12_meanNow 0 = .ok (.aload_n 0, 1) := by decide +kernel
theorem dX12_meanNow_1 : decode cX12_meanNow 1 = .ok (.aload_n 0, 1) := by decide +kernel
theorem dX12_meanNow_2 : decode cX12_meanNow 2 = .ok (.iload_n 1, 1) := by decide +kernel
theorem dX12_meanNow_3 : decode cX12_meanNow 3 = .ok (.invokevirtual 312, 3) := by decide +kernel
theorem dX12_meanNow_6 : decode cX12_meanNow 6 = .ok (.iload_n 2, 1) := by decide +kernel
theorem dX12_meanNow_7 : decode cX12_meanNow 7 = .ok (.invokevirtual 376, 3) := by decide +kernel
theorem dX12_meanNow_10 : decode cX12_meanNow 10 = .ok (.lconst 0, 1) := by decide +kernel
theorem dX12_meanNow_11 : decode cX12_meanNow 11 = .ok (.lstore_n 3, 1) := by decide +kernel
theorem dX12_meanNow_12 : decode cX12_meanNow 12 = .ok (.iconst 0, 1) := by decide +kernel
theorem dX12_meanNow_13 : decode cX12_meanNow 13 = .ok (.istore 5, 2) := by decide +kernel
theorem dX12_meanNow_15 : decode cX12_meanNow 15 = .ok (.iload 5, 2) := by decide +kernel
theorem dX12_meanNow_17 : decode cX12_meanNow 17 = .ok (.aload_n 0, 1) := by decide +kernel
theorem dX12_meanNow_18 : decode cX12_meanNow 18 = .ok (.getfield 290, 3) := by decide +kernel
theorem dX12_meanNow_21 : decode cX12_meanNow 21 = .ok (.if_icmp .ge 23, 3) := by decide +kernel
theorem dX12_meanNow_24 : decode cX12_meanNow 24 = .ok (.lload_n 3, 1) := by decide +kernel
theorem dX12_meanNow_25 : decode cX12_meanNow 25 = .ok (.aload_n 0, 1) := by decide +kernel
theorem dX12_meanNow_26 : decode cX12_meanNow 26 = .ok (.getfield 77, 3) := by decide +kernel
theorem dX12_meanNow_29 : decode cX12_meanNow 29 = .ok (.aload_n 0, 1) := by decide +kernel
theorem dX12_meanNow_30 : decode cX12_meanNow 30 = .ok (.iload 5, 2) := by decide +kernel
theorem dX12_meanNow_32 : decode cX12_meanNow 32 = .ok (.invokevirtual 379, 3) := by decide +kernel
theorem dX12_meanNow_35 : decode cX12_meanNow 35 = .ok (.laload, 1) := by decide +kernel
theorem dX12_meanNow_36 : decode cX12_meanNow 36 = .ok (.ladd, 1) := by decide +kernel
theorem dX12_meanNow_37 : decode cX12_meanNow 37 = .ok (.lstore_n 3, 1) := by decide +kernel
theorem dX12_meanNow_38 : decode cX12_meanNow 38 = .ok (.iinc 5 1, 3) := by decide +kernel
theorem dX12_meanNow_41 : decode cX12_meanNow 41 = .ok (.goto (-26), 3) := by decide +kernel
theorem dX12_meanNow_44 : decode cX12_meanNow 44 = .ok (.lload_n 3, 1) := by decide +kernel
theorem dX12_meanNow_45 : decode cX12_meanNow 45 = .ok (.lreturn, 1) := by decide +kernel
theorem dX12_mean_0 : decode cX12_mean 0 = .ok (.aload_n 0, 1) := by decide +kernel
theorem dX12_mean_1 : decode cX12_mean 1 = .ok (.iconst 0, 1) := by decide +kernel
theorem dX12_mean_2 : decode cX12_mean 2 = .ok (.putfield 111, 3) := by decide +kernel
theorem dX12_mean_5 : decode cX12_mean 5 = .ok (.aload_n 0, 1) := by decide +kernel
theorem dX12_mean_6 : decode cX12_mean 6 = .ok (.iload_n 1, 1) := by decide +kernel
theorem dX12_mean_7 : decode cX12_mean 7 = .ok (.invokevirtual 307, 3) := by decide +kernel
theorem dX12_mean_10 : decode cX12_mean 10 = .ok (.ifCond .eq 25, 3) := by decide +kernel
theorem dX12_mean_13 : decode cX12_mean 13 = .ok (.aload_n 0, 1) := by decide +kernel
theorem dX12_mean_14 : decode cX12_mean 14 = .ok (.iload_n 1, 1) := by decide +kernel
theorem dX12_mean_15 : decode cX12_mean 15 = .ok (.iload_n 2, 1) := by decide +kernel
theorem dX12_mean_16 : decode cX12_mean 16 = .ok (.ifCond .eq 12, 3) := by decide +kernel
theorem dX12_mean_19 : decode cX12_mean 19 = .ok (.aload_n 0, 1) := by decide +kernel
theorem dX12_mean_20 : decode cX12_mean 20 = .ok (.getfield 37, 3) := by decide +kernel
theorem dX12_mean_23 : decode cX12_mean 23 = .ok (.iconst 1, 1) := by decide +kernel
theorem dX12_mean_24 : decode cX12_mean 24 = .ok (.iaload, 1) := by decide +kernel
theorem dX12_mean_25 : decode cX12_mean 25 = .ok (.goto 4, 3) := by decide +kernel
theorem dX12_mean_28 : decode cX12_mean 28 = .ok (.iconst 0, 1) := by decide +kernel
theorem dX12_mean_29 : decode cX12_mean 29 = .ok (.invokevirtual 382, 3) := by decide +kernel
theorem dX12_mean_32 : decode cX12_mean 32 = .ok (.goto 6, 3) := by decide +kernel
theorem dX12_mean_35 : decode cX12_mean 35 = .ok (.ldc2_w 386, 3) := by decide +kernel
theorem dX12_mean_38 : decode cX12_mean 38 = .ok (.lreturn, 1) := by decide +kernel
theorem dX12_layOdds_0 : decode cX12_layOdds 0 = .ok (.bipush 21, 2) := by decide +kernel
theorem dX12_layOdds_2 : decode cX12_layOdds 2 = .ok (.istore_n 2, 1) := by decide +kernel
theorem dX12_layOdds_3 : decode cX12_layOdds 3 = .ok (.iconst 0, 1) := by decide +kernel
theorem dX12_layOdds_4 : decode cX12_layOdds 4 = .ok (.istore_n 3, 1) := by decide +kernel
theorem dX12_layOdds_5 : decode cX12_layOdds 5 = .ok (.iload_n 3, 1) := by decide +kernel
theorem dX12_layOdds_6 : decode cX12_layOdds 6 = .ok (.bipush 20, 2) := by decide +kernel
theorem dX12_layOdds_8 : decode cX12_layOdds 8 = .ok (.if_icmp .gt 207, 3) := by decide +kernel
theorem dX12_layOdds_11 : decode cX12_layOdds 11 = .ok (.iconst 0, 1) := by decide +kernel
theorem dX12_layOdds_12 : decode cX12_layOdds 12 = .ok (.istore 4, 2) := by decide +kernel
theorem dX12_layOdds_14 : decode cX12_layOdds 14 = .ok (.iload 4, 2) := by decide +kernel
theorem dX12_layOdds_16 : decode cX12_layOdds 16 = .ok (.bipush 20, 2) := by decide +kernel
theorem dX12_layOdds_18 : decode cX12_layOdds 18 = .ok (.if_icmp .gt 21, 3) := by decide +kernel
theorem dX12_layOdds_21 : decode cX12_layOdds 21 = .ok (.aload_n 0, 1) := by decide +kernel
theorem dX12_layOdds_22 : decode cX12_layOdds 22 = .ok (.getfield 81, 3) := by decide +kernel
theorem dX12_layOdds_25 : decode cX12_layOdds 25 = .ok (.iload_n 2, 1) := by decide +kernel
theorem dX12_layOdds_26 : decode cX12_layOdds 26 = .ok (.iload_n 3, 1) := by decide +kernel
theorem dX12_layOdds_27 : decode cX12_layOdds 27 = .ok (.imul, 1) := by decide +kernel
theorem dX12_layOdds_28 : decode cX12_layOdds 28 = .ok (.iload 4, 2) := by decide +kernel
theorem dX12_layOdds_30 : decode cX12_layOdds 30 = .ok (.iadd, 1) := by decide +kernel
theorem dX12_layOdds_31 : decode cX12_layOdds 31 = .ok (.lconst 0, 1) := by decide +kernel
theorem dX12_layOdds_32 : decode cX12_layOdds 32 = .ok (.lastore, 1) := by decide +kernel
theorem dX12_layOdds_33 : decode cX12_layOdds 33 = .ok (.iinc 4 1, 3) := by decide +kernel
theorem dX12_layOdds_36 : decode cX12_layOdds 36 = .ok (.goto (-22), 3) := by decide +kernel
theorem dX12_layOdds_39 : decode cX12_layOdds 39 = .ok (.iload_n 3, 1) := by decide +kernel
theorem dX12_layOdds_40 : decode cX12_layOdds 40 = .ok (.iload_n 1, 1) := by decide +kernel
theorem dX12_layOdds_41 : decode cX12_layOdds 41 = .ok (.if_icmp .ge 17, 3) := by decide +kernel
theorem dX12_layOdds_44 : decode cX12_layOdds 44 = .ok (.aload_n 0, 1) := by decide +kernel
theorem dX12_layOdds_45 : decode cX12_layOdds 45 = .ok (.getfield 81, 3) := by decide +kernel
theorem dX12_layOdds_48 : decode cX12_layOdds 48 = .ok (.iload_n 2, 1) := by decide +kernel
theorem dX12_layOdds_49 : decode cX12_layOdds 49 = .ok (.iload_n 3, 1) := by decide +kernel
theorem dX12_layOdds_50 : decode cX12_layOdds 50 = .ok (.imul, 1) := by decide +kernel
theorem dX12_layOdds_51 : decode cX12_layOdds 51 = .ok (.ldc2_w 388, 3) := by decide +kernel
theorem dX12_layOdds_54 : decode cX12_layOdds 54 = .ok (.lastore, 1) := by decide +kernel
theorem dX12_layOdds_55 : decode cX12_layOdds 55 = .ok (.goto 154, 3) := by decide +kernel
theorem dX12_layOdds_58 : decode cX12_layOdds 58 = .ok (.iconst 0, 1) := by decide +kernel
theorem dX12_layOdds_59 : decode cX12_layOdds 59 = .ok (.istore 4, 2) := by decide +kernel
theorem dX12_layOdds_61 : decode cX12_layOdds 61 = .ok (.iload 4, 2) := by decide +kernel
theorem dX12_layOdds_63 : decode cX12_layOdds 63 = .ok (.iload_n 1, 1) := by decide +kernel
theorem dX12_layOdds_64 : decode cX12_layOdds 64 = .ok (.iadd, 1) := by decide +kernel
theorem dX12_layOdds_65 : decode cX12_layOdds 65 = .ok (.iload_n 3, 1) := by decide +kernel
theorem dX12_layOdds_66 : decode cX12_layOdds 66 = .ok (.if_icmp .gt 107, 3) := by decide +kernel
theorem dX12_layOdds_69 : decode cX12_layOdds 69 = .ok (.iload_n 3, 1) := by decide +kernel
theorem dX12_layOdds_70 : decode cX12_layOdds 70 = .ok (.iload_n 1, 1) := by decide +kernel
theorem dX12_layOdds_71 : decode cX12_layOdds 71 = .ok (.isub, 1) := by decide +kernel
theorem dX12_layOdds_72 : decode cX12_layOdds 72 = .ok (.iload 4, 2) := by decide +kernel
theorem dX12_layOdds_74 : decode cX12_layOdds 74 = .ok (.isub, 1) := by decide +kernel
theorem dX12_layOdds_75 : decode cX12_layOdds 75 = .ok (.istore 5, 2) := by decide +kernel
theorem dX12_layOdds_77 : decode cX12_layOdds 77 = .ok (.iconst 0, 1) := by decide +kernel
theorem dX12_layOdds_78 : decode cX12_layOdds 78 = .ok (.istore 6, 2) := by decide +kernel
theorem dX12_layOdds_80 : decode cX12_layOdds 80 = .ok (.iload 6, 2) := by decide +kernel
theorem dX12_layOdds_82 : decode cX12_layOdds 82 = .ok (.iload 4, 2) := by decide +kernel
theorem dX12_layOdds_84 : decode cX12_layOdds 84 = .ok (.if_icmp .gt 83, 3) := by decide +kernel
theorem dX12_layOdds_87 : decode cX12_layOdds 87 = .ok (.iconst 0, 1) := by decide +kernel
theorem dX12_layOdds_88 : decode cX12_layOdds 88 = .ok (.istore 7, 2) := by decide +kernel
theorem dX12_layOdds_90 : decode cX12_layOdds 90 = .ok (.iload 7, 2) := by decide +kernel
theorem dX12_layOdds_92 : decode cX12_layOdds 92 = .ok (.iload 5, 2) := by decide +kernel
theorem dX12_layOdds_94 : decode cX12_layOdds 94 = .ok (.if_icmp .gt 67, 3) := by decide +kernel
theorem dX12_layOdds_97 : decode cX12_layOdds 97 = .ok (.iload 6, 2) := by decide +kernel
theorem dX12_layOdds_99 : decode cX12_layOdds 99 = .ok (.iload 7, 2) := by decide +kernel
theorem dX12_layOdds_101 : decode cX12_layOdds 101 = .ok (.iadd, 1) := by decide +kernel
theorem dX12_layOdds_102 : decode cX12_layOdds 102 = .ok (.bipush 20, 2) := by decide +kernel
theorem dX12_layOdds_104 : decode cX12_layOdds 104 = .ok (.if_icmp .ge 51, 3) := by decide +kernel
theorem dX12_layOdds_107 : decode cX12_layOdds 107 = .ok (.aload_n 0, 1) := by decide +kernel
theorem dX12_layOdds_108 : decode cX12_layOdds 108 = .ok (.getfield 81, 3) := by decide +kernel
theorem dX12_layOdds_111 : decode cX12_layOdds 111 = .ok (.iload_n 2, 1) := by decide +kernel
theorem dX12_layOdds_112 : decode cX12_layOdds 112 = .ok (.iload_n 3, 1) := by decide +kernel
theorem dX12_layOdds_113 : decode cX12_layOdds 113 = .ok (.imul, 1) := by decide +kernel
theorem dX12_layOdds_114 : decode cX12_layOdds 114 = .ok (.iload 6, 2) := by decide +kernel
theorem dX12_layOdds_116 : decode cX12_layOdds 116 = .ok (.iadd, 1) := by decide +kernel
theorem dX12_layOdds_117 : decode cX12_layOdds 117 = .ok (.iload 7, 2) := by decide +kernel
theorem dX12_layOdds_119 : decode cX12_layOdds 119 = .ok (.iadd, 1) := by decide +kernel
theorem dX12_layOdds_120 : decode cX12_layOdds 120 = .ok (.iconst 1, 1) := by decide +kernel
theorem dX12_layOdds_121 : decode cX12_layOdds 121 = .ok (.iadd, 1) := by decide +kernel
theorem dX12_layOdds_122 : decode cX12_layOdds 122 = .ok (.dup2, 1) := by decide +kernel
theorem dX12_layOdds_123 : decode cX12_layOdds 123 = .ok (.laload, 1) := by decide +kernel
theorem dX12_layOdds_124 : decode cX12_layOdds 124 = .ok (.aload_n 0, 1) := by decide +kernel
theorem dX12_layOdds_125 : decode cX12_layOdds 125 = .ok (.getfield 81, 3) := by decide +kernel
theorem dX12_layOdds_128 : decode cX12_layOdds 128 = .ok (.iload_n 2, 1) := by decide +kernel
theorem dX12_layOdds_129 : decode cX12_layOdds 129 = .ok (.iload 4, 2) := by decide +kernel
theorem dX12_layOdds_131 : decode cX12_layOdds 131 = .ok (.imul, 1) := by decide +kernel
theorem dX12_layOdds_132 : decode cX12_layOdds 132 = .ok (.iload 6, 2) := by decide +kernel
theorem dX12_layOdds_134 : decode cX12_layOdds 134 = .ok (.iadd, 1) := by decide +kernel
theorem dX12_layOdds_135 : decode cX12_layOdds 135 = .ok (.laload, 1) := by decide +kernel
theorem dX12_layOdds_136 : decode cX12_layOdds 136 = .ok (.aload_n 0, 1) := by decide +kernel
theorem dX12_layOdds_137 : decode cX12_layOdds 137 = .ok (.getfield 81, 3) := by decide +kernel
theorem dX12_layOdds_140 : decode cX12_layOdds 140 = .ok (.iload_n 2, 1) := by decide +kernel
theorem dX12_layOdds_141 : decode cX12_layOdds 141 = .ok (.iload 5, 2) := by decide +kernel
theorem dX12_layOdds_143 : decode cX12_layOdds 143 = .ok (.imul, 1) := by decide +kernel
theorem dX12_layOdds_144 : decode cX12_layOdds 144 = .ok (.iload 7, 2) := by decide +kernel
theorem dX12_layOdds_146 : decode cX12_layOdds 146 = .ok (.iadd, 1) := by decide +kernel
theorem dX12_layOdds_147 : decode cX12_layOdds 147 = .ok (.laload, 1) := by decide +kernel
theorem dX12_layOdds_148 : decode cX12_layOdds 148 = .ok (.lmul, 1) := by decide +kernel
theorem dX12_layOdds_149 : decode cX12_layOdds 149 = .ok (.ldc2_w 388, 3) := by decide +kernel
theorem dX12_layOdds_152 : decode cX12_layOdds 152 = .ok (.ldiv, 1) := by decide +kernel
theorem dX12_layOdds_153 : decode cX12_layOdds 153 = .ok (.ladd, 1) := by decide +kernel
theorem dX12_layOdds_154 : decode cX12_layOdds 154 = .ok (.lastore, 1) := by decide +kernel
theorem dX12_layOdds_155 : decode cX12_layOdds 155 = .ok (.iinc 7 1, 3) := by decide +kernel
theorem dX12_layOdds_158 : decode cX12_layOdds 158 = .ok (.goto (-68), 3) := by decide +kernel
theorem dX12_layOdds_161 : decode cX12_layOdds 161 = .ok (.iinc 6 1, 3) := by decide +kernel
theorem dX12_layOdds_164 : decode cX12_layOdds 164 = .ok (.goto (-84), 3) := by decide +kernel
theorem dX12_layOdds_167 : decode cX12_layOdds 167 = .ok (.iinc 4 1, 3) := by decide +kernel
theorem dX12_layOdds_170 : decode cX12_layOdds 170 = .ok (.goto (-109), 3) := by decide +kernel
theorem dX12_layOdds_173 : decode cX12_layOdds 173 = .ok (.iconst 0, 1) := by decide +kernel
theorem dX12_layOdds_174 : decode cX12_layOdds 174 = .ok (.istore 4, 2) := by decide +kernel
theorem dX12_layOdds_176 : decode cX12_layOdds 176 = .ok (.iload 4, 2) := by decide +kernel
theorem dX12_layOdds_178 : decode cX12_layOdds 178 = .ok (.bipush 20, 2) := by decide +kernel
theorem dX12_layOdds_180 : decode cX12_layOdds 180 = .ok (.if_icmp .gt 29, 3) := by decide +kernel
theorem dX12_layOdds_183 : decode cX12_layOdds 183 = .ok (.aload_n 0, 1) := by decide +kernel
theorem dX12_layOdds_184 : decode cX12_layOdds 184 = .ok (.getfield 81, 3) := by decide +kernel
theorem dX12_layOdds_187 : decode cX12_layOdds 187 = .ok (.iload_n 2, 1) := by decide +kernel
theorem dX12_layOdds_188 : decode cX12_layOdds 188 = .ok (.iload_n 3, 1) := by decide +kernel
theorem dX12_layOdds_189 : decode cX12_layOdds 189 = .ok (.imul, 1) := by decide +kernel
theorem dX12_layOdds_190 : decode cX12_layOdds 190 = .ok (.iload 4, 2) := by decide +kernel
theorem dX12_layOdds_192 : decode cX12_layOdds 192 = .ok (.iadd, 1) := by decide +kernel
theorem dX12_layOdds_193 : decode cX12_layOdds 193 = .ok (.dup2, 1) := by decide +kernel
theorem dX12_layOdds_194 : decode cX12_layOdds 194 = .ok (.laload, 1) := by decide +kernel
theorem dX12_layOdds_195 : decode cX12_layOdds 195 = .ok (.iload_n 3, 1) := by decide +kernel
theorem dX12_layOdds_196 : decode cX12_layOdds 196 = .ok (.iload_n 1, 1) := by decide +kernel
theorem dX12_layOdds_197 : decode cX12_layOdds 197 = .ok (.isub, 1) := by decide +kernel
theorem dX12_layOdds_198 : decode cX12_layOdds 198 = .ok (.iconst 1, 1) := by decide +kernel
theorem dX12_layOdds_199 : decode cX12_layOdds 199 = .ok (.iadd, 1) := by decide +kernel
theorem dX12_layOdds_200 : decode cX12_layOdds 200 = .ok (.i2l, 1) := by decide +kernel
theorem dX12_layOdds_201 : decode cX12_layOdds 201 = .ok (.ldiv, 1) := by decide +kernel
theorem dX12_layOdds_202 : decode cX12_layOdds 202 = .ok (.lastore, 1) := by decide +kernel
theorem dX12_layOdds_203 : decode cX12_layOdds 203 = .ok (.iinc 4 1, 3) := by decide +kernel
theorem dX12_layOdds_206 : decode cX12_layOdds 206 = .ok (.goto (-30), 3) := by decide +kernel
theorem dX12_layOdds_209 : decode cX12_layOdds 209 = .ok (.iinc 3 1, 3) := by decide +kernel
theorem dX12_layOdds_212 : decode cX12_layOdds 212 = .ok (.goto (-207), 3) := by decide +kernel
theorem dX12_layOdds_215 : decode cX12_layOdds 215 = .ok (.return_, 1) := by decide +kernel
theorem dX12_likely_0 : decode cX12_likely 0 = .ok (.aload_n 0, 1) := by decide +kernel
theorem dX12_likely_1 : decode cX12_likely 1 = .ok (.iconst 0, 1) := by decide +kernel
theorem dX12_likely_2 : decode cX12_likely 2 = .ok (.putfield 111, 3) := by decide +kernel
theorem dX12_likely_5 : decode cX12_likely 5 = .ok (.aload_n 0, 1) := by decide +kernel
theorem dX12_likely_6 : decode cX12_likely 6 = .ok (.iload_n 1, 1) := by decide +kernel
theorem dX12_likely_7 : decode cX12_likely 7 = .ok (.invokevirtual 307, 3) := by decide +kernel
theorem dX12_likely_10 : decode cX12_likely 10 = .ok (.ifCond .eq 7, 3) := by decide +kernel
theorem dX12_likely_13 : decode cX12_likely 13 = .ok (.iload_n 2, 1) := by decide +kernel
theorem dX12_likely_14 : decode cX12_likely 14 = .ok (.ifCond .ge 7, 3) := by decide +kernel
theorem dX12_likely_17 : decode cX12_likely 17 = .ok (.ldc2_w 386, 3) := by decide +kernel
theorem dX12_likely_20 : decode cX12_likely 20 = .ok (.lreturn, 1) := by decide +kernel
theorem dX12_likely_21 : decode cX12_likely 21 = .ok (.iload_n 2, 1) := by decide +kernel
theorem dX12_likely_22 : decode cX12_likely 22 = .ok (.bipush 20, 2) := by decide +kernel
theorem dX12_likely_24 : decode cX12_likely 24 = .ok (.if_icmp .le 5, 3) := by decide +kernel
theorem dX12_likely_27 : decode cX12_likely 27 = .ok (.lconst 0, 1) := by decide +kernel
theorem dX12_likely_28 : decode cX12_likely 28 = .ok (.lreturn, 1) := by decide +kernel
theorem dX12_likely_29 : decode cX12_likely 29 = .ok (.aload_n 0, 1) := by decide +kernel
theorem dX12_likely_30 : decode cX12_likely 30 = .ok (.aload_n 0, 1) := by decide +kernel
theorem dX12_likely_31 : decode cX12_likely 31 = .ok (.iload_n 1, 1) := by decide +kernel
theorem dX12_likely_32 : decode cX12_likely 32 = .ok (.invokevirtual 312, 3) := by decide +kernel
theorem dX12_likely_35 : decode cX12_likely 35 = .ok (.invokevirtual 390, 3) := by decide +kernel
theorem dX12_likely_38 : decode cX12_likely 38 = .ok (.iconst 0, 1) := by decide +kernel
theorem dX12_likely_39 : decode cX12_likely 39 = .ok (.istore_n 3, 1) := by decide +kernel
theorem dX12_likely_40 : decode cX12_likely 40 = .ok (.iload_n 3, 1) := by decide +kernel
theorem dX12_likely_41 : decode cX12_likely 41 = .ok (.bipush 20, 2) := by decide +kernel
theorem dX12_likely_43 : decode cX12_likely 43 = .ok (.if_icmp .gt 26, 3) := by decide +kernel
theorem dX12_likely_46 : decode cX12_likely 46 = .ok (.aload_n 0, 1) := by decide +kernel
theorem dX12_likely_47 : decode cX12_likely 47 = .ok (.getfield 84, 3) := by decide +kernel
theorem dX12_likely_50 : decode cX12_likely 50 = .ok (.iload_n 3, 1) := by decide +kernel
theorem dX12_likely_51 : decode cX12_likely 51 = .ok (.iload_n 3, 1) := by decide +kernel
theorem dX12_likely_52 : decode cX12_likely 52 = .ok (.ifCond .ne 9, 3) := by decide +kernel
theorem dX12_likely_55 : decode cX12_likely 55 = .ok (.ldc2_w 388, 3) := by decide +kernel
theorem dX12_likely_58 : decode cX12_likely 58 = .ok (.goto 4, 3) := by decide +kernel
theorem dX12_likely_61 : decode cX12_likely 61 = .ok (.lconst 0, 1) := by decide +kernel
theorem dX12_likely_62 : decode cX12_likely 62 = .ok (.lastore, 1) := by decide +kernel
theorem dX12_likely_63 : decode cX12_likely 63 = .ok (.iinc 3 1, 3) := by decide +kernel
theorem dX12_likely_66 : decode cX12_likely 66 = .ok (.goto (-26), 3) := by decide +kernel
theorem dX12_likely_69 : decode cX12_likely 69 = .ok (.iconst 0, 1) := by decide +kernel
theorem dX12_likely_70 : decode cX12_likely 70 = .ok (.istore_n 3, 1) := by decide +kernel
theorem dX12_likely_71 : decode cX12_likely 71 = .ok (.iload_n 3, 1) := by decide +kernel
theorem dX12_likely_72 : decode cX12_likely 72 = .ok (.aload_n 0, 1) := by decide +kernel
theorem dX12_likely_73 : decode cX12_likely 73 = .ok (.getfield 290, 3) := by decide +kernel
theorem dX12_likely_76 : decode cX12_likely 76 = .ok (.if_icmp .ge 151, 3) := by decide +kernel
theorem dX12_likely_79 : decode cX12_likely 79 = .ok (.aload_n 0, 1) := by decide +kernel
theorem dX12_likely_80 : decode cX12_likely 80 = .ok (.iload_n 3, 1) := by decide +kernel
theorem dX12_likely_81 : decode cX12_likely 81 = .ok (.invokevirtual 379, 3) := by decide +kernel
theorem dX12_likely_84 : decode cX12_likely 84 = .ok (.istore 4, 2) := by decide +kernel
theorem dX12_likely_86 : decode cX12_likely 86 = .ok (.iload 4, 2) := by decide +kernel
theorem dX12_likely_88 : decode cX12_likely 88 = .ok (.ifCond .ne 6, 3) := by decide +kernel
theorem dX12_likely_91 : decode cX12_likely 91 = .ok (.goto 130, 3) := by decide +kernel
theorem dX12_likely_94 : decode cX12_likely 94 = .ok (.iconst 0, 1) := by decide +kernel
theorem dX12_likely_95 : decode cX12_likely 95 = .ok (.istore 5, 2) := by decide +kernel
theorem dX12_likely_97 : decode cX12_likely 97 = .ok (.iload 5, 2) := by decide +kernel
theorem dX12_likely_99 : decode cX12_likely 99 = .ok (.bipush 20, 2) := by decide +kernel
theorem dX12_likely_101 : decode cX12_likely 101 = .ok (.if_icmp .gt 17, 3) := by decide +kernel
theorem dX12_likely_104 : decode cX12_likely 104 = .ok (.aload_n 0, 1) := by decide +kernel
theorem dX12_likely_105 : decode cX12_likely 105 = .ok (.getfield 87, 3) := by decide +kernel
theorem dX12_likely_108 : decode cX12_likely 108 = .ok (.iload 5, 2) := by decide +kernel
theorem dX12_likely_110 : decode cX12_likely 110 = .ok (.lconst 0, 1) := by decide +kernel
theorem dX12_likely_111 : decode cX12_likely 111 = .ok (.lastore, 1) := by decide +kernel
theorem dX12_likely_112 : decode cX12_likely 112 = .ok (.iinc 5 1, 3) := by decide +kernel
theorem dX12_likely_115 : decode cX12_likely 115 = .ok (.goto (-18), 3) := by decide +kernel
theorem dX12_likely_118 : decode cX12_likely 118 = .ok (.iconst 0, 1) := by decide +kernel
theorem dX12_likely_119 : decode cX12_likely 119 = .ok (.istore 5, 2) := by decide +kernel
theorem dX12_likely_121 : decode cX12_likely 121 = .ok (.iload 5, 2) := by decide +kernel
theorem dX12_likely_123 : decode cX12_likely 123 = .ok (.bipush 20, 2) := by decide +kernel
theorem dX12_likely_125 : decode cX12_likely 125 = .ok (.if_icmp .gt 66, 3) := by decide +kernel
theorem dX12_likely_128 : decode cX12_likely 128 = .ok (.iconst 0, 1) := by decide +kernel
theorem dX12_likely_129 : decode cX12_likely 129 = .ok (.istore 6, 2) := by decide +kernel
theorem dX12_likely_131 : decode cX12_likely 131 = .ok (.iload 5, 2) := by decide +kernel
theorem dX12_likely_133 : decode cX12_likely 133 = .ok (.iload 6, 2) := by decide +kernel
theorem dX12_likely_135 : decode cX12_likely 135 = .ok (.iadd, 1) := by decide +kernel
theorem dX12_likely_136 : decode cX12_likely 136 = .ok (.bipush 20, 2) := by decide +kernel
theorem dX12_likely_138 : decode cX12_likely 138 = .ok (.if_icmp .gt 47, 3) := by decide +kernel
theorem dX12_likely_141 : decode cX12_likely 141 = .ok (.aload_n 0, 1) := by decide +kernel
theorem dX12_likely_142 : decode cX12_likely 142 = .ok (.getfield 87, 3) := by decide +kernel
theorem dX12_likely_145 : decode cX12_likely 145 = .ok (.iload 5, 2) := by decide +kernel
theorem dX12_likely_147 : decode cX12_likely 147 = .ok (.iload 6, 2) := by decide +kernel
theorem dX12_likely_149 : decode cX12_likely 149 = .ok (.iadd, 1) := by decide +kernel
theorem dX12_likely_150 : decode cX12_likely 150 = .ok (.dup2, 1) := by decide +kernel
theorem dX12_likely_151 : decode cX12_likely 151 = .ok (.laload, 1) := by decide +kernel
theorem dX12_likely_152 : decode cX12_likely 152 = .ok (.aload_n 0, 1) := by decide +kernel
theorem dX12_likely_153 : decode cX12_likely 153 = .ok (.getfield 84, 3) := by decide +kernel
theorem dX12_likely_156 : decode cX12_likely 156 = .ok (.iload 5, 2) := by decide +kernel
theorem dX12_likely_158 : decode cX12_likely 158 = .ok (.laload, 1) := by decide +kernel
theorem dX12_likely_159 : decode cX12_likely 159 = .ok (.aload_n 0, 1) := by decide +kernel
theorem dX12_likely_160 : decode cX12_likely 160 = .ok (.getfield 81, 3) := by decide +kernel
theorem dX12_likely_163 : decode cX12_likely 163 = .ok (.bipush 21, 2) := by decide +kernel
theorem dX12_likely_165 : decode cX12_likely 165 = .ok (.iload 4, 2) := by decide +kernel
theorem dX12_likely_167 : decode cX12_likely 167 = .ok (.imul, 1) := by decide +kernel
theorem dX12_likely_168 : decode cX12_likely 168 = .ok (.iload 6, 2) := by decide +kernel
theorem dX12_likely_170 : decode cX12_likely 170 = .ok (.iadd, 1) := by decide +kernel
theorem dX12_likely_171 : decode cX12_likely 171 = .ok (.laload, 1) := by decide +kernel
theorem dX12_likely_172 : decode cX12_likely 172 = .ok (.lmul, 1) := by decide +kernel
theorem dX12_likely_173 : decode cX12_likely 173 = .ok (.ldc2_w 388, 3) := by decide +kernel
theorem dX12_likely_176 : decode cX12_likely 176 = .ok (.ldiv, 1) := by decide +kernel
theorem dX12_likely_177 : decode cX12_likely 177 = .ok (.ladd, 1) := by decide +kernel
theorem dX12_likely_178 : decode cX12_likely 178 = .ok (.lastore, 1) := by decide +kernel
theorem dX12_likely_179 : decode cX12_likely 179 = .ok (.iinc 6 1, 3) := by decide +kernel
theorem dX12_likely_182 : decode cX12_likely 182 = .ok (.goto (-51), 3) := by decide +kernel
theorem dX12_likely_185 : decode cX12_likely 185 = .ok (.iinc 5 1, 3) := by decide +kernel
theorem dX12_likely_188 : decode cX12_likely 188 = .ok (.goto (-67), 3) := by decide +kernel
theorem dX12_likely_191 : decode cX12_likely 191 = .ok (.iconst 0, 1) := by decide +kernel
theorem dX12_likely_192 : decode cX12_likely 192 = .ok (.istore 5, 2) := by decide +kernel
theorem dX12_likely_194 : decode cX12_likely 194 = .ok (.iload 5, 2) := by decide +kernel
theorem dX12_likely_196 : decode cX12_likely 196 = .ok (.bipush 20, 2) := by decide +kernel
theorem dX12_likely_198 : decode cX12_likely 198 = .ok (.if_icmp .gt 23, 3) := by decide +kernel
theorem dX12_likely_201 : decode cX12_likely 201 = .ok (.aload_n 0, 1) := by decide +kernel
theorem dX12_likely_202 : decode cX12_likely 202 = .ok (.getfield 84, 3) := by decide +kernel
theorem dX12_likely_205 : decode cX12_likely 205 = .ok (.iload 5, 2) := by decide +kernel
theorem dX12_likely_207 : decode cX12_likely 207 = .ok (.aload_n 0, 1) := by decide +kernel
theorem dX12_likely_208 : decode cX12_likely 208 = .ok (.getfield 87, 3) := by decide +kernel
theorem dX12_likely_211 : decode cX12_likely 211 = .ok (.iload 5, 2) := by decide +kernel
theorem dX12_likely_213 : decode cX12_likely 213 = .ok (.laload, 1) := by decide +kernel
theorem dX12_likely_214 : decode cX12_likely 214 = .ok (.lastore, 1) := by decide +kernel
theorem dX12_likely_215 : decode cX12_likely 215 = .ok (.iinc 5 1, 3) := by decide +kernel
theorem dX12_likely_218 : decode cX12_likely 218 = .ok (.goto (-24), 3) := by decide +kernel
theorem dX12_likely_221 : decode cX12_likely 221 = .ok (.iinc 3 1, 3) := by decide +kernel
theorem dX12_likely_224 : decode cX12_likely 224 = .ok (.goto (-153), 3) := by decide +kernel
theorem dX12_likely_227 : decode cX12_likely 227 = .ok (.aload_n 0, 1) := by decide +kernel
theorem dX12_likely_228 : decode cX12_likely 228 = .ok (.getfield 84, 3) := by decide +kernel
theorem dX12_likely_231 : decode cX12_likely 231 = .ok (.iload_n 2, 1) := by decide +kernel
theorem dX12_likely_232 : decode cX12_likely 232 = .ok (.laload, 1) := by decide +kernel
theorem dX12_likely_233 : decode cX12_likely 233 = .ok (.lreturn, 1) := by decide +kernel
theorem dX12_layFewest_0 : decode cX12_layFewest 0 = .ok (.iconst 0, 1) := by decide +kernel
theorem dX12_layFewest_1 : decode cX12_layFewest 1 = .ok (.istore_n 2, 1) := by decide +kernel
theorem dX12_layFewest_2 : decode cX12_layFewest 2 = .ok (.iload_n 2, 1) := by decide +kernel
theorem dX12_layFewest_3 : decode cX12_layFewest 3 = .ok (.bipush 20, 2) := by decide +kernel
theorem dX12_layFewest_5 : decode cX12_layFewest 5 = .ok (.if_icmp .gt 75, 3) := by decide +kernel
theorem dX12_layFewest_8 : decode cX12_layFewest 8 = .ok (.aload_n 0, 1) := by decide +kernel
theorem dX12_layFewest_9 : decode cX12_layFewest 9 = .ok (.getfield 90, 3) := by decide +kernel
theorem dX12_layFewest_12 : decode cX12_layFewest 12 = .ok (.iload_n 2, 1) := by decide +kernel
theorem dX12_layFewest_13 : decode cX12_layFewest 13 = .ok (.iload_n 2, 1) := by decide +kernel
theorem dX12_layFewest_14 : decode cX12_layFewest 14 = .ok (.iload_n 1, 1) := by decide +kernel
theorem dX12_layFewest_15 : decode cX12_layFewest 15 = .ok (.if_icmp .ge 7, 3) := by decide +kernel
theorem dX12_layFewest_18 : decode cX12_layFewest 18 = .ok (.iconst 0, 1) := by decide +kernel
theorem dX12_layFewest_19 : decode cX12_layFewest 19 = .ok (.goto 5, 3) := by decide +kernel
theorem dX12_layFewest_22 : decode cX12_layFewest 22 = .ok (.bipush 20, 2) := by decide +kernel
theorem dX12_layFewest_24 : decode cX12_layFewest 24 = .ok (.iastore, 1) := by decide +kernel
theorem dX12_layFewest_25 : decode cX12_layFewest 25 = .ok (.iconst 0, 1) := by decide +kernel
theorem dX12_layFewest_26 : decode cX12_layFewest 26 = .ok (.istore_n 3, 1) := by decide +kernel
theorem dX12_layFewest_27 : decode cX12_layFewest 27 = .ok (.iload_n 3, 1) := by decide +kernel
theorem dX12_layFewest_28 : decode cX12_layFewest 28 = .ok (.iload_n 1, 1) := by decide +kernel
theorem dX12_layFewest_29 : decode cX12_layFewest 29 = .ok (.iadd, 1) := by decide +kernel
theorem dX12_layFewest_30 : decode cX12_layFewest 30 = .ok (.iload_n 2, 1) := by decide +kernel
theorem dX12_layFewest_31 : decode cX12_layFewest 31 = .ok (.if_icmp .gt 43, 3) := by decide +kernel
theorem dX12_layFewest_34 : decode cX12_layFewest 34 = .ok (.aload_n 0, 1) := by decide +kernel
theorem dX12_layFewest_35 : decode cX12_layFewest 35 = .ok (.getfield 90, 3) := by decide +kernel
theorem dX12_layFewest_38 : decode cX12_layFewest 38 = .ok (.iload_n 2, 1) := by decide +kernel
theorem dX12_layFewest_39 : decode cX12_layFewest 39 = .ok (.aload_n 0, 1) := by decide +kernel
theorem dX12_layFewest_40 : decode cX12_layFewest 40 = .ok (.getfield 90, 3) := by decide +kernel
theorem dX12_layFewest_43 : decode cX12_layFewest 43 = .ok (.iload_n 2, 1) := by decide +kernel
theorem dX12_layFewest_44 : decode cX12_layFewest 44 = .ok (.iaload, 1) := by decide +kernel
theorem dX12_layFewest_45 : decode cX12_layFewest 45 = .ok (.iconst 1, 1) := by decide +kernel
theorem dX12_layFewest_46 : decode cX12_layFewest 46 = .ok (.aload_n 0, 1) := by decide +kernel
theorem dX12_layFewest_47 : decode cX12_layFewest 47 = .ok (.getfield 90, 3) := by decide +kernel
theorem dX12_layFewest_50 : decode cX12_layFewest 50 = .ok (.iload_n 3, 1) := by decide +kernel
theorem dX12_layFewest_51 : decode cX12_layFewest 51 = .ok (.iaload, 1) := by decide +kernel
theorem dX12_layFewest_52 : decode cX12_layFewest 52 = .ok (.iadd, 1) := by decide +kernel
theorem dX12_layFewest_53 : decode cX12_layFewest 53 = .ok (.aload_n 0, 1) := by decide +kernel
theorem dX12_layFewest_54 : decode cX12_layFewest 54 = .ok (.getfield 90, 3) := by decide +kernel
theorem dX12_layFewest_57 : decode cX12_layFewest 57 = .ok (.iload_n 2, 1) := by decide +kernel
theorem dX12_layFewest_58 : decode cX12_layFewest 58 = .ok (.iload_n 1, 1) := by decide +kernel
theorem dX12_layFewest_59 : decode cX12_layFewest 59 = .ok (.isub, 1) := by decide +kernel
theorem dX12_layFewest_60 : decode cX12_layFewest 60 = .ok (.iload_n 3, 1) := by decide +kernel
theorem dX12_layFewest_61 : decode cX12_layFewest 61 = .ok (.isub, 1) := by decide +kernel
theorem dX12_layFewest_62 : decode cX12_layFewest 62 = .ok (.iaload, 1) := by decide +kernel
theorem dX12_layFewest_63 : decode cX12_layFewest 63 = .ok (.iadd, 1) := by decide +kernel
theorem dX12_layFewest_64 : decode cX12_layFewest 64 = .ok (.invokestatic 327, 3) := by decide +kernel
theorem dX12_layFewest_67 : decode cX12_layFewest 67 = .ok (.iastore, 1) := by decide +kernel
theorem dX12_layFewest_68 : decode cX12_layFewest 68 = .ok (.iinc 3 1, 3) := by decide +kernel
theorem dX12_layFewest_71 : decode cX12_layFewest 71 = .ok (.goto (-44), 3) := by decide +kernel
theorem dX12_layFewest_74 : decode cX12_layFewest 74 = .ok (.iinc 2 1, 3) := by decide +kernel
theorem dX12_layFewest_77 : decode cX12_layFewest 77 = .ok (.goto (-75), 3) := by decide +kernel
theorem dX12_layFewest_80 : decode cX12_layFewest 80 = .ok (.return_, 1) := by decide +kernel
theorem dX12_ends_0 : decode cX12_ends 0 = .ok (.aload_n 0, 1) := by decide +kernel
theorem dX12_ends_1 : decode cX12_ends 1 = .ok (.iconst 0, 1) := by decide +kernel
theorem dX12_ends_2 : decode cX12_ends 2 = .ok (.putfield 111, 3) := by decide +kernel
theorem dX12_ends_5 : decode cX12_ends 5 = .ok (.aload_n 0, 1) := by decide +kernel
theorem dX12_ends_6 : decode cX12_ends 6 = .ok (.iload_n 1, 1) := by decide +kernel
theorem dX12_ends_7 : decode cX12_ends 7 = .ok (.invokevirtual 307, 3) := by decide +kernel
theorem dX12_ends_10 : decode cX12_ends 10 = .ok (.ifCond .eq 13, 3) := by decide +kernel
theorem dX12_ends_13 : decode cX12_ends 13 = .ok (.iload_n 2, 1) := by decide +kernel
theorem dX12_ends_14 : decode cX12_ends 14 = .ok (.i2l, 1) := by decide +kernel
theorem dX12_ends_15 : decode cX12_ends 15 = .ok (.lconst 0, 1) := by decide +kernel
theorem dX12_ends_16 : decode cX12_ends 16 = .ok (.lconst 1, 1) := by decide +kernel
theorem dX12_ends_17 : decode cX12_ends 17 = .ok (.invokestatic 232, 3) := by decide +kernel
theorem dX12_ends_20 : decode cX12_ends 20 = .ok (.ifCond .ne 5, 3) := by decide +kernel
theorem dX12_ends_23 : decode cX12_ends 23 = .ok (.iconst (-1), 1) := by decide +kernel
theorem dX12_ends_24 : decode cX12_ends 24 = .ok (.ireturn, 1) := by decide +kernel
theorem dX12_ends_25 : decode cX12_ends 25 = .ok (.aload_n 0, 1) := by decide +kernel
theorem dX12_ends_26 : decode cX12_ends 26 = .ok (.aload_n 0, 1) := by decide +kernel
theorem dX12_ends_27 : decode cX12_ends 27 = .ok (.iload_n 1, 1) := by decide +kernel
theorem dX12_ends_28 : decode cX12_ends 28 = .ok (.invokevirtual 312, 3) := by decide +kernel
theorem dX12_ends_31 : decode cX12_ends 31 = .ok (.invokevirtual 393, 3) := by decide +kernel
theorem dX12_ends_34 : decode cX12_ends 34 = .ok (.iconst 0, 1) := by decide +kernel
theorem dX12_ends_35 : decode cX12_ends 35 = .ok (.istore_n 3, 1) := by decide +kernel
theorem dX12_ends_36 : decode cX12_ends 36 = .ok (.iconst 0, 1) := by decide +kernel
theorem dX12_ends_37 : decode cX12_ends 37 = .ok (.istore 4, 2) := by decide +kernel
theorem dX12_ends_39 : decode cX12_ends 39 = .ok (.iload 4, 2) := by decide +kernel
theorem dX12_ends_41 : decode cX12_ends 41 = .ok (.aload_n 0, 1) := by decide +kernel
theorem dX12_ends_42 : decode cX12_ends 42 = .ok (.getfield 290, 3) := by decide +kernel
theorem dX12_ends_45 : decode cX12_ends 45 = .ok (.if_icmp .ge 42, 3) := by decide +kernel
theorem dX12_ends_48 : decode cX12_ends 48 = .ok (.iload_n 3, 1) := by decide +kernel
theorem dX12_ends_49 : decode cX12_ends 49 = .ok (.iload_n 2, 1) := by decide +kernel
theorem dX12_ends_50 : decode cX12_ends 50 = .ok (.ifCond .ne 17, 3) := by decide +kernel
theorem dX12_ends_53 : decode cX12_ends 53 = .ok (.aload_n 0, 1) := by decide +kernel
theorem dX12_ends_54 : decode cX12_ends 54 = .ok (.getfield 90, 3) := by decide +kernel
theorem dX12_ends_57 : decode cX12_ends 57 = .ok (.aload_n 0, 1) := by decide +kernel
theorem dX12_ends_58 : decode cX12_ends 58 = .ok (.iload 4, 2) := by decide +kernel
theorem dX12_ends_60 : decode cX12_ends 60 = .ok (.invokevirtual 379, 3) := by decide +kernel
theorem dX12_ends_63 : decode cX12_ends 63 = .ok (.iaload, 1) := by decide +kernel
theorem dX12_ends_64 : decode cX12_ends 64 = .ok (.goto 15, 3) := by decide +kernel
theorem dX12_ends_67 : decode cX12_ends 67 = .ok (.aload_n 0, 1) := by decide +kernel
theorem dX12_ends_68 : decode cX12_ends 68 = .ok (.iload 4, 2) := by decide +kernel
theorem dX12_ends_70 : decode cX12_ends 70 = .ok (.invokevirtual 379, 3) := by decide +kernel
theorem dX12_ends_73 : decode cX12_ends 73 = .ok (.aload_n 0, 1) := by decide +kernel
theorem dX12_ends_74 : decode cX12_ends 74 = .ok (.iload_n 1, 1) := by decide +kernel
theorem dX12_ends_75 : decode cX12_ends 75 = .ok (.invokevirtual 312, 3) := by decide +kernel
theorem dX12_ends_78 : decode cX12_ends 78 = .ok (.idiv, 1) := by decide +kernel
theorem dX12_ends_79 : decode cX12_ends 79 = .ok (.iadd, 1) := by decide +kernel
theorem dX12_ends_80 : decode cX12_ends 80 = .ok (.istore_n 3, 1) := by decide +kernel
theorem dX12_ends_81 : decode cX12_ends 81 = .ok (.iinc 4 1, 3) := by decide +kernel
theorem dX12_ends_84 : decode cX12_ends 84 = .ok (.goto (-45), 3) := by decide +kernel
theorem dX12_ends_87 : decode cX12_ends 87 = .ok (.iload_n 3, 1) := by decide +kernel
theorem dX12_ends_88 : decode cX12_ends 88 = .ok (.ireturn, 1) := by decide +kernel
theorem dX12_bays_0 : decode cX12_bays 0 = .ok (.aload_n 0, 1) := by decide +kernel
theorem dX12_bays_1 : decode cX12_bays 1 = .ok (.iconst 0, 1) := by decide +kernel
theorem dX12_bays_2 : decode cX12_bays 2 = .ok (.putfield 111, 3) := by decide +kernel
theorem dX12_bays_5 : decode cX12_bays 5 = .ok (.aload_n 0, 1) := by decide +kernel
theorem dX12_bays_6 : decode cX12_bays 6 = .ok (.iload_n 1, 1) := by decide +kernel
theorem dX12_bays_7 : decode cX12_bays 7 = .ok (.invokevirtual 307, 3) := by decide +kernel
theorem dX12_bays_10 : decode cX12_bays 10 = .ok (.ifCond .eq 15, 3) := by decide +kernel
theorem dX12_bays_13 : decode cX12_bays 13 = .ok (.iload_n 2, 1) := by decide +kernel
theorem dX12_bays_14 : decode cX12_bays 14 = .ok (.i2l, 1) := by decide +kernel
theorem dX12_bays_15 : decode cX12_bays 15 = .ok (.lconst 1, 1) := by decide +kernel
theorem dX12_bays_16 : decode cX12_bays 16 = .ok (.ldc2_w 396, 3) := by decide +kernel
theorem dX12_bays_19 : decode cX12_bays 19 = .ok (.invokestatic 232, 3) := by decide +kernel
theorem dX12_bays_22 : decode cX12_bays 22 = .ok (.ifCond .ne 5, 3) := by decide +kernel
theorem dX12_bays_25 : decode cX12_bays 25 = .ok (.iconst (-1), 1) := by decide +kernel
theorem dX12_bays_26 : decode cX12_bays 26 = .ok (.ireturn, 1) := by decide +kernel
theorem dX12_bays_27 : decode cX12_bays 27 = .ok (.iconst 0, 1) := by decide +kernel
theorem dX12_bays_28 : decode cX12_bays 28 = .ok (.istore_n 3, 1) := by decide +kernel
theorem dX12_bays_29 : decode cX12_bays 29 = .ok (.iconst 0, 1) := by decide +kernel
theorem dX12_bays_30 : decode cX12_bays 30 = .ok (.istore 4, 2) := by decide +kernel
theorem dX12_bays_32 : decode cX12_bays 32 = .ok (.iload 4, 2) := by decide +kernel
theorem dX12_bays_34 : decode cX12_bays 34 = .ok (.aload_n 0, 1) := by decide +kernel
theorem dX12_bays_35 : decode cX12_bays 35 = .ok (.getfield 290, 3) := by decide +kernel
theorem dX12_bays_38 : decode cX12_bays 38 = .ok (.if_icmp .ge 39, 3) := by decide +kernel
theorem dX12_bays_41 : decode cX12_bays 41 = .ok (.iload_n 2, 1) := by decide +kernel
theorem dX12_bays_42 : decode cX12_bays 42 = .ok (.aload_n 0, 1) := by decide +kernel
theorem dX12_bays_43 : decode cX12_bays 43 = .ok (.iload_n 1, 1) := by decide +kernel
theorem dX12_bays_44 : decode cX12_bays 44 = .ok (.invokevirtual 312, 3) := by decide +kernel
theorem dX12_bays_47 : decode cX12_bays 47 = .ok (.if_icmp .lt 30, 3) := by decide +kernel
theorem dX12_bays_50 : decode cX12_bays 50 = .ok (.iload_n 3, 1) := by decide +kernel
theorem dX12_bays_51 : decode cX12_bays 51 = .ok (.aload_n 0, 1) := by decide +kernel
theorem dX12_bays_52 : decode cX12_bays 52 = .ok (.iload_n 1, 1) := by decide +kernel
theorem dX12_bays_53 : decode cX12_bays 53 = .ok (.iload 4, 2) := by decide +kernel
theorem dX12_bays_55 : decode cX12_bays 55 = .ok (.invokevirtual 318, 3) := by decide +kernel
theorem dX12_bays_58 : decode cX12_bays 58 = .ok (.ifCond .eq 7, 3) := by decide +kernel
theorem dX12_bays_61 : decode cX12_bays 61 = .ok (.iconst 1, 1) := by decide +kernel
theorem dX12_bays_62 : decode cX12_bays 62 = .ok (.goto 4, 3) := by decide +kernel
theorem dX12_bays_65 : decode cX12_bays 65 = .ok (.iconst 0, 1) := by decide +kernel
theorem dX12_bays_66 : decode cX12_bays 66 = .ok (.iadd, 1) := by decide +kernel
theorem dX12_bays_67 : decode cX12_bays 67 = .ok (.istore_n 3, 1) := by decide +kernel
theorem dX12_bays_68 : decode cX12_bays 68 = .ok (.iload 4, 2) := by decide +kernel
theorem dX12_bays_70 : decode cX12_bays 70 = .ok (.iload_n 2, 1) := by decide +kernel
theorem dX12_bays_71 : decode cX12_bays 71 = .ok (.iadd, 1) := by decide +kernel
theorem dX12_bays_72 : decode cX12_bays 72 = .ok (.istore 4, 2) := by decide +kernel
theorem dX12_bays_74 : decode cX12_bays 74 = .ok (.goto (-42), 3) := by decide +kernel
theorem dX12_bays_77 : decode cX12_bays 77 = .ok (.iload_n 3, 1) := by decide +kernel
theorem dX12_bays_78 : decode cX12_bays 78 = .ok (.ireturn, 1) := by decide +kernel
theorem dX12_getsIn_0 : decode cX12_getsIn 0 = .ok (.aload_n 0, 1) := by decide +kernel
theorem dX12_getsIn_1 : decode cX12_getsIn 1 = .ok (.iconst 0, 1) := by decide +kernel
theorem dX12_getsIn_2 : decode cX12_getsIn 2 = .ok (.putfield 398, 3) := by decide +kernel
theorem dX12_getsIn_5 : decode cX12_getsIn 5 = .ok (.aload_n 0, 1) := by decide +kernel
theorem dX12_getsIn_6 : decode cX12_getsIn 6 = .ok (.iconst 0, 1) := by decide +kernel
theorem dX12_getsIn_7 : decode cX12_getsIn 7 = .ok (.putfield 401, 3) := by decide +kernel
theorem dX12_getsIn_10 : decode cX12_getsIn 10 = .ok (.iload_n 2, 1) := by decide +kernel
theorem dX12_getsIn_11 : decode cX12_getsIn 11 = .ok (.istore_n 3, 1) := by decide +kernel
theorem dX12_getsIn_12 : decode cX12_getsIn 12 = .ok (.iload_n 3, 1) := by decide +kernel
theorem dX12_getsIn_13 : decode cX12_getsIn 13 = .ok (.iload_n 2, 1) := by decide +kernel
theorem dX12_getsIn_14 : decode cX12_getsIn 14 = .ok (.iload_n 1, 1) := by decide +kernel
theorem dX12_getsIn_15 : decode cX12_getsIn 15 = .ok (.iadd, 1) := by decide +kernel
theorem dX12_getsIn_16 : decode cX12_getsIn 16 = .ok (.if_icmp .ge 30, 3) := by decide +kernel
theorem dX12_getsIn_19 : decode cX12_getsIn 19 = .ok (.aload_n 0, 1) := by decide +kernel
theorem dX12_getsIn_20 : decode cX12_getsIn 20 = .ok (.iload_n 3, 1) := by decide +kernel
theorem dX12_getsIn_21 : decode cX12_getsIn 21 = .ok (.invokevirtual 302, 3) := by decide +kernel
theorem dX12_getsIn_24 : decode cX12_getsIn 24 = .ok (.ifCond .eq 14, 3) := by decide +kernel
theorem dX12_getsIn_27 : decode cX12_getsIn 27 = .ok (.aload_n 0, 1) := by decide +kernel
theorem dX12_getsIn_28 : decode cX12_getsIn 28 = .ok (.getfield 55, 3) := by decide +kernel
theorem dX12_getsIn_31 : decode cX12_getsIn 31 = .ok (.iload_n 3, 1) := by decide +kernel
theorem dX12_getsIn_32 : decode cX12_getsIn 32 = .ok (.iaload, 1) := by decide +kernel
theorem dX12_getsIn_33 : decode cX12_getsIn 33 = .ok (.bipush (-2), 2) := by decide +kernel
theorem dX12_getsIn_35 : decode cX12_getsIn 35 = .ok (.if_icmp .ne 5, 3) := by decide +kernel
theorem dX12_getsIn_38 : decode cX12_getsIn 38 = .ok (.iconst 0, 1) := by decide +kernel
theorem dX12_getsIn_39 : decode cX12_getsIn 39 = .ok (.ireturn, 1) := by decide +kernel
theorem dX12_getsIn_40 : decode cX12_getsIn 40 = .ok (.iinc 3 1, 3) := by decide +kernel
theorem dX12_getsIn_43 : decode cX12_getsIn 43 = .ok (.goto (-31), 3) := by decide +kernel
theorem dX12_getsIn_46 : decode cX12_getsIn 46 = .ok (.iload_n 2, 1) := by decide +kernel
theorem dX12_getsIn_47 : decode cX12_getsIn 47 = .ok (.istore_n 3, 1) := by decide +kernel
theorem dX12_getsIn_48 : decode cX12_getsIn 48 = .ok (.iload_n 2, 1) := by decide +kernel
theorem dX12_getsIn_49 : decode cX12_getsIn 49 = .ok (.iload_n 1, 1) := by decide +kernel
theorem dX12_getsIn_50 : decode cX12_getsIn 50 = .ok (.iadd, 1) := by decide +kernel
theorem dX12_getsIn_51 : decode cX12_getsIn 51 = .ok (.iconst 1, 1) := by decide +kernel
theorem dX12_getsIn_52 : decode cX12_getsIn 52 = .ok (.isub, 1) := by decide +kernel
theorem dX12_getsIn_53 : decode cX12_getsIn 53 = .ok (.istore 4, 2) := by decide +kernel
theorem dX12_getsIn_55 : decode cX12_getsIn 55 = .ok (.iload 4, 2) := by decide +kernel
theorem dX12_getsIn_57 : decode cX12_getsIn 57 = .ok (.ifCond .lt 89, 3) := by decide +kernel
theorem dX12_getsIn_60 : decode cX12_getsIn 60 = .ok (.aload_n 0, 1) := by decide +kernel
theorem dX12_getsIn_61 : decode cX12_getsIn 61 = .ok (.getfield 55, 3) := by decide +kernel
theorem dX12_getsIn_64 : decode cX12_getsIn 64 = .ok (.iload 4, 2) := by decide +kernel
theorem dX12_getsIn_66 : decode cX12_getsIn 66 = .ok (.iaload, 1) := by decide +kernel
theorem dX12_getsIn_67 : decode cX12_getsIn 67 = .ok (.bipush (-2), 2) := by decide +kernel
theorem dX12_getsIn_69 : decode cX12_getsIn 69 = .ok (.if_icmp .eq 77, 3) := by decide +kernel
theorem dX12_getsIn_72 : decode cX12_getsIn 72 = .ok (.aload_n 0, 1) := by decide +kernel
theorem dX12_getsIn_73 : decode cX12_getsIn 73 = .ok (.getfield 55, 3) := by decide +kernel
theorem dX12_getsIn_76 : decode cX12_getsIn 76 = .ok (.iload 4, 2) := by decide +kernel
theorem dX12_getsIn_78 : decode cX12_getsIn 78 = .ok (.iaload, 1) := by decide +kernel
theorem dX12_getsIn_79 : decode cX12_getsIn 79 = .ok (.iload 4, 2) := by decide +kernel
theorem dX12_getsIn_81 : decode cX12_getsIn 81 = .ok (.if_icmp .ne 59, 3) := by decide +kernel
theorem dX12_getsIn_84 : decode cX12_getsIn 84 = .ok (.aload_n 0, 1) := by decide +kernel
theorem dX12_getsIn_85 : decode cX12_getsIn 85 = .ok (.iload 4, 2) := by decide +kernel
theorem dX12_getsIn_87 : decode cX12_getsIn 87 = .ok (.iload_n 1, 1) := by decide +kernel
theorem dX12_getsIn_88 : decode cX12_getsIn 88 = .ok (.iload_n 2, 1) := by decide +kernel
theorem dX12_getsIn_89 : decode cX12_getsIn 89 = .ok (.invokevirtual 404, 3) := by decide +kernel
theorem dX12_getsIn_92 : decode cX12_getsIn 92 = .ok (.ifCond .eq 6, 3) := by decide +kernel
theorem dX12_getsIn_95 : decode cX12_getsIn 95 = .ok (.goto 45, 3) := by decide +kernel
theorem dX12_getsIn_98 : decode cX12_getsIn 98 = .ok (.aload_n 0, 1) := by decide +kernel
theorem dX12_getsIn_99 : decode cX12_getsIn 99 = .ok (.aload_n 0, 1) := by decide +kernel
theorem dX12_getsIn_100 : decode cX12_getsIn 100 = .ok (.getfield 58, 3) := by decide +kernel
theorem dX12_getsIn_103 : decode cX12_getsIn 103 = .ok (.iload 4, 2) := by decide +kernel
theorem dX12_getsIn_105 : decode cX12_getsIn 105 = .ok (.iaload, 1) := by decide +kernel
theorem dX12_getsIn_106 : decode cX12_getsIn 106 = .ok (.invokevirtual 312, 3) := by decide +kernel
theorem dX12_getsIn_109 : decode cX12_getsIn 109 = .ok (.istore 5, 2) := by decide +kernel
theorem dX12_getsIn_111 : decode cX12_getsIn 111 = .ok (.iload 4, 2) := by decide +kernel
theorem dX12_getsIn_113 : decode cX12_getsIn 113 = .ok (.iload_n 3, 1) := by decide +kernel
theorem dX12_getsIn_114 : decode cX12_getsIn 114 = .ok (.iload 5, 2) := by decide +kernel
theorem dX12_getsIn_116 : decode cX12_getsIn 116 = .ok (.isub, 1) := by decide +kernel
theorem dX12_getsIn_117 : decode cX12_getsIn 117 = .ok (.invokestatic 327, 3) := by decide +kernel
theorem dX12_getsIn_120 : decode cX12_getsIn 120 = .ok (.istore 6, 2) := by decide +kernel
theorem dX12_getsIn_122 : decode cX12_getsIn 122 = .ok (.aload_n 0, 1) := by decide +kernel
theorem dX12_getsIn_123 : decode cX12_getsIn 123 = .ok (.iload 4, 2) := by decide +kernel
theorem dX12_getsIn_125 : decode cX12_getsIn 125 = .ok (.iload 6, 2) := by decide +kernel
theorem dX12_getsIn_127 : decode cX12_getsIn 127 = .ok (.iload 5, 2) := by decide +kernel
theorem dX12_getsIn_129 : decode cX12_getsIn 129 = .ok (.invokevirtual 408, 3) := by decide +kernel
theorem dX12_getsIn_132 : decode cX12_getsIn 132 = .ok (.ifCond .ne 5, 3) := by decide +kernel
theorem dX12_getsIn_135 : decode cX12_getsIn 135 = .ok (.iconst 0, 1) := by decide +kernel
theorem dX12_getsIn_136 : decode cX12_getsIn 136 = .ok (.ireturn, 1) := by decide +kernel
theorem dX12_getsIn_137 : decode cX12_getsIn 137 = .ok (.iload 6, 2) := by decide +kernel
theorem dX12_getsIn_139 : decode cX12_getsIn 139 = .ok (.istore_n 3, 1) := by decide +kernel
theorem dX12_getsIn_140 : decode cX12_getsIn 140 = .ok (.iinc 4 (-1), 3) := by decide +kernel
theorem dX12_getsIn_143 : decode cX12_getsIn 143 = .ok (.goto (-88), 3) := by decide +kernel
theorem dX12_getsIn_146 : decode cX12_getsIn 146 = .ok (.iload_n 2, 1) := by decide +kernel
theorem dX12_getsIn_147 : decode cX12_getsIn 147 = .ok (.iload_n 1, 1) := by decide +kernel
theorem dX12_getsIn_148 : decode cX12_getsIn 148 = .ok (.iadd, 1) := by decide +kernel
theorem dX12_getsIn_149 : decode cX12_getsIn 149 = .ok (.istore_n 3, 1) := by decide +kernel
theorem dX12_getsIn_150 : decode cX12_getsIn 150 = .ok (.aload_n 0, 1) := by decide +kernel
theorem dX12_getsIn_151 : decode cX12_getsIn 151 = .ok (.iload_n 2, 1) := by decide +kernel
theorem dX12_getsIn_152 : decode cX12_getsIn 152 = .ok (.invokevirtual 411, 3) := by decide +kernel
theorem dX12_getsIn_155 : decode cX12_getsIn 155 = .ok (.istore 4, 2) := by decide +kernel
theorem dX12_getsIn_157 : decode cX12_getsIn 157 = .ok (.iload 4, 2) := by decide +kernel
theorem dX12_getsIn_159 : decode cX12_getsIn 159 = .ok (.aload_n 0, 1) := by decide +kernel
theorem dX12_getsIn_160 : decode cX12_getsIn 160 = .ok (.getfield 290, 3) := by decide +kernel
theorem dX12_getsIn_163 : decode cX12_getsIn 163 = .ok (.if_icmp .ge 89, 3) := by decide +kernel
theorem dX12_getsIn_166 : decode cX12_getsIn 166 = .ok (.aload_n 0, 1) := by decide +kernel
theorem dX12_getsIn_167 : decode cX12_getsIn 167 = .ok (.getfield 55, 3) := by decide +kernel
theorem dX12_getsIn_170 : decode cX12_getsIn 170 = .ok (.iload 4, 2) := by decide +kernel
theorem dX12_getsIn_172 : decode cX12_getsIn 172 = .ok (.iaload, 1) := by decide +kernel
theorem dX12_getsIn_173 : decode cX12_getsIn 173 = .ok (.bipush (-2), 2) := by decide +kernel
theorem dX12_getsIn_175 : decode cX12_getsIn 175 = .ok (.if_icmp .eq 77, 3) := by decide +kernel
theorem dX12_getsIn_178 : decode cX12_getsIn 178 = .ok (.aload_n 0, 1) := by decide +kernel
theorem dX12_getsIn_179 : decode cX12_getsIn 179 = .ok (.getfield 55, 3) := by decide +kernel
theorem dX12_getsIn_182 : decode cX12_getsIn 182 = .ok (.iload 4, 2) := by decide +kernel
theorem dX12_getsIn_184 : decode cX12_getsIn 184 = .ok (.iaload, 1) := by decide +kernel
theorem dX12_getsIn_185 : decode cX12_getsIn 185 = .ok (.iload 4, 2) := by decide +kernel
theorem dX12_getsIn_187 : decode cX12_getsIn 187 = .ok (.if_icmp .ne 59, 3) := by decide +kernel
theorem dX12_getsIn_190 : decode cX12_getsIn 190 = .ok (.aload_n 0, 1) := by decide +kernel
theorem dX12_getsIn_191 : decode cX12_getsIn 191 = .ok (.iload 4, 2) := by decide +kernel
theorem dX12_getsIn_193 : decode cX12_getsIn 193 = .ok (.iload_n 1, 1) := by decide +kernel
theorem dX12_getsIn_194 : decode cX12_getsIn 194 = .ok (.iload_n 2, 1) := by decide +kernel
theorem dX12_getsIn_195 : decode cX12_getsIn 195 = .ok (.invokevirtual 404, 3) := by decide +kernel
theorem dX12_getsIn_198 : decode cX12_getsIn 198 = .ok (.ifCond .ne 6, 3) := by decide +kernel
theorem dX12_getsIn_201 : decode cX12_getsIn 201 = .ok (.goto 45, 3) := by decide +kernel
theorem dX12_getsIn_204 : decode cX12_getsIn 204 = .ok (.aload_n 0, 1) := by decide +kernel
theorem dX12_getsIn_205 : decode cX12_getsIn 205 = .ok (.aload_n 0, 1) := by decide +kernel
theorem dX12_getsIn_206 : decode cX12_getsIn 206 = .ok (.getfield 58, 3) := by decide +kernel
theorem dX12_getsIn_209 : decode cX12_getsIn 209 = .ok (.iload 4, 2) := by decide +kernel
theorem dX12_getsIn_211 : decode cX12_getsIn 211 = .ok (.iaload, 1) := by decide +kernel
theorem dX12_getsIn_212 : decode cX12_getsIn 212 = .ok (.invokevirtual 312, 3) := by decide +kernel
theorem dX12_getsIn_215 : decode cX12_getsIn 215 = .ok (.istore 5, 2) := by decide +kernel
theorem dX12_getsIn_217 : decode cX12_getsIn 217 = .ok (.iload 4, 2) := by decide +kernel
theorem dX12_getsIn_219 : decode cX12_getsIn 219 = .ok (.iload_n 3, 1) := by decide +kernel
theorem dX12_getsIn_220 : decode cX12_getsIn 220 = .ok (.invokestatic 414, 3) := by decide +kernel
theorem dX12_getsIn_223 : decode cX12_getsIn 223 = .ok (.istore 6, 2) := by decide +kernel
theorem dX12_getsIn_225 : decode cX12_getsIn 225 = .ok (.aload_n 0, 1) := by decide +kernel
theorem dX12_getsIn_226 : decode cX12_getsIn 226 = .ok (.iload 4, 2) := by decide +kernel
theorem dX12_getsIn_228 : decode cX12_getsIn 228 = .ok (.iload 6, 2) := by decide +kernel
theorem dX12_getsIn_230 : decode cX12_getsIn 230 = .ok (.iload 5, 2) := by decide +kernel
theorem dX12_getsIn_232 : decode cX12_getsIn 232 = .ok (.invokevirtual 408, 3) := by decide +kernel
theorem dX12_getsIn_235 : decode cX12_getsIn 235 = .ok (.ifCond .ne 5, 3) := by decide +kernel
theorem dX12_getsIn_238 : decode cX12_getsIn 238 = .ok (.iconst 0, 1) := by decide +kernel
theorem dX12_getsIn_239 : decode cX12_getsIn 239 = .ok (.ireturn, 1) := by decide +kernel
theorem dX12_getsIn_240 : decode cX12_getsIn 240 = .ok (.iload 6, 2) := by decide +kernel
theorem dX12_getsIn_242 : decode cX12_getsIn 242 = .ok (.iload 5, 2) := by decide +kernel
theorem dX12_getsIn_244 : decode cX12_getsIn 244 = .ok (.iadd, 1) := by decide +kernel
theorem dX12_getsIn_245 : decode cX12_getsIn 245 = .ok (.istore_n 3, 1) := by decide +kernel
theorem dX12_getsIn_246 : decode cX12_getsIn 246 = .ok (.iinc 4 1, 3) := by decide +kernel
theorem dX12_getsIn_249 : decode cX12_getsIn 249 = .ok (.goto (-92), 3) := by decide +kernel
theorem dX12_getsIn_252 : decode cX12_getsIn 252 = .ok (.iconst 1, 1) := by decide +kernel
theorem dX12_getsIn_253 : decode cX12_getsIn 253 = .ok (.ireturn, 1) := by decide +kernel
theorem dX12_isUp_0 : decode cX12_isUp 0 = .ok (.iconst 2, 1) := by decide +kernel
theorem dX12_isUp_1 : decode cX12_isUp 1 = .ok (.iload_n 1, 1) := by decide +kernel
theorem dX12_isUp_2 : decode cX12_isUp 2 = .ok (.imul, 1) := by decide +kernel
theorem dX12_isUp_3 : decode cX12_isUp 3 = .ok (.aload_n 0, 1) := by decide +kernel
theorem dX12_isUp_4 : decode cX12_isUp 4 = .ok (.aload_n 0, 1) := by decide +kernel
theorem dX12_isUp_5 : decode cX12_isUp 5 = .ok (.getfield 58, 3) := by decide +kernel
theorem dX12_isUp_8 : decode cX12_isUp 8 = .ok (.iload_n 1, 1) := by decide +kernel
theorem dX12_isUp_9 : decode cX12_isUp 9 = .ok (.iaload, 1) := by decide +kernel
theorem dX12_isUp_10 : decode cX12_isUp 10 = .ok (.invokevirtual 312, 3) := by decide +kernel
theorem dX12_isUp_13 : decode cX12_isUp 13 = .ok (.iadd, 1) := by decide +kernel
theorem dX12_isUp_14 : decode cX12_isUp 14 = .ok (.iconst 2, 1) := by decide +kernel
theorem dX12_isUp_15 : decode cX12_isUp 15 = .ok (.iload_n 3, 1) := by decide +kernel
theorem dX12_isUp_16 : decode cX12_isUp 16 = .ok (.imul, 1) := by decide +kernel
theorem dX12_isUp_17 : decode cX12_isUp 17 = .ok (.iload_n 2, 1) := by decide +kernel
theorem dX12_isUp_18 : decode cX12_isUp 18 = .ok (.iadd, 1) := by decide +kernel
theorem dX12_isUp_19 : decode cX12_isUp 19 = .ok (.if_icmp .lt 7, 3) := by decide +kernel
theorem dX12_isUp_22 : decode cX12_isUp 22 = .ok (.iconst 1, 1) := by decide +kernel
theorem dX12_isUp_23 : decode cX12_isUp 23 = .ok (.goto 4, 3) := by decide +kernel
theorem dX12_isUp_26 : decode cX12_isUp 26 = .ok (.iconst 0, 1) := by decide +kernel
theorem dX12_isUp_27 : decode cX12_isUp 27 = .ok (.ireturn, 1) := by decide +kernel
theorem dX12_firstOf_0 : decode cX12_firstOf 0 = .ok (.aload_n 0, 1) := by decide +kernel
theorem dX12_firstOf_1 : decode cX12_firstOf 1 = .ok (.getfield 55, 3) := by decide +kernel
theorem dX12_firstOf_4 : decode cX12_firstOf 4 = .ok (.iload_n 1, 1) := by decide +kernel
theorem dX12_firstOf_5 : decode cX12_firstOf 5 = .ok (.iaload, 1) := by decide +kernel
theorem dX12_firstOf_6 : decode cX12_firstOf 6 = .ok (.ifCond .lt 12, 3) := by decide +kernel
theorem dX12_firstOf_9 : decode cX12_firstOf 9 = .ok (.aload_n 0, 1) := by decide +kernel
theorem dX12_firstOf_10 : decode cX12_firstOf 10 = .ok (.getfield 55, 3) := by decide +kernel
theorem dX12_firstOf_13 : decode cX12_firstOf 13 = .ok (.iload_n 1, 1) := by decide +kernel
theorem dX12_firstOf_14 : decode cX12_firstOf 14 = .ok (.iaload, 1) := by decide +kernel
theorem dX12_firstOf_15 : decode cX12_firstOf 15 = .ok (.goto 4, 3) := by decide +kernel
theorem dX12_firstOf_18 : decode cX12_firstOf 18 = .ok (.iload_n 1, 1) := by decide +kernel
theorem dX12_firstOf_19 : decode cX12_firstOf 19 = .ok (.ireturn, 1) := by decide +kernel
theorem dX12_moves_0 : decode cX12_moves 0 = .ok (.iload_n 1, 1) := by decide +kernel
theorem dX12_moves_1 : decode cX12_moves 1 = .ok (.iload_n 2, 1) := by decide +kernel
theorem dX12_moves_2 : decode cX12_moves 2 = .ok (.invokestatic 327, 3) := by decide +kernel
theorem dX12_moves_5 : decode cX12_moves 5 = .ok (.istore 4, 2) := by decide +kernel
theorem dX12_moves_7 : decode cX12_moves 7 = .ok (.iload 4, 2) := by decide +kernel
theorem dX12_moves_9 : decode cX12_moves 9 = .ok (.iload_n 1, 1) := by decide +kernel
theorem dX12_moves_10 : decode cX12_moves 10 = .ok (.iload_n 2, 1) := by decide +kernel
theorem dX12_moves_11 : decode cX12_moves 11 = .ok (.invokestatic 414, 3) := by decide +kernel
theorem dX12_moves_14 : decode cX12_moves 14 = .ok (.iload_n 3, 1) := by decide +kernel
theorem dX12_moves_15 : decode cX12_moves 15 = .ok (.iadd, 1) := by decide +kernel
theorem dX12_moves_16 : decode cX12_moves 16 = .ok (.if_icmp .ge 32, 3) := by decide +kernel
theorem dX12_moves_19 : decode cX12_moves 19 = .ok (.aload_n 0, 1) := by decide +kernel
theorem dX12_moves_20 : decode cX12_moves 20 = .ok (.iload 4, 2) := by decide +kernel
theorem dX12_moves_22 : decode cX12_moves 22 = .ok (.invokevirtual 302, 3) := by decide +kernel
theorem dX12_moves_25 : decode cX12_moves 25 = .ok (.ifCond .eq 15, 3) := by decide +kernel
theorem dX12_moves_28 : decode cX12_moves 28 = .ok (.aload_n 0, 1) := by decide +kernel
theorem dX12_moves_29 : decode cX12_moves 29 = .ok (.getfield 55, 3) := by decide +kernel
theorem dX12_moves_32 : decode cX12_moves 32 = .ok (.iload 4, 2) := by decide +kernel
theorem dX12_moves_34 : decode cX12_moves 34 = .ok (.iaload, 1) := by decide +kernel
theorem dX12_moves_35 : decode cX12_moves 35 = .ok (.bipush (-2), 2) := by decide +kernel
theorem dX12_moves_37 : decode cX12_moves 37 = .ok (.if_icmp .ne 5, 3) := by decide +kernel
theorem dX12_moves_40 : decode cX12_moves 40 = .ok (.iconst 0, 1) := by decide +kernel
theorem dX12_moves_41 : decode cX12_moves 41 = .ok (.ireturn, 1) := by decide +kernel
theorem dX12_moves_42 : decode cX12_moves 42 = .ok (.iinc 4 1, 3) := by decide +kernel
theorem dX12_moves_45 : decode cX12_moves 45 = .ok (.goto (-38), 3) := by decide +kernel
theorem dX12_moves_48 : decode cX12_moves 48 = .ok (.aload_n 0, 1) := by decide +kernel
theorem dX12_moves_49 : decode cX12_moves 49 = .ok (.dup, 1) := by decide +kernel
theorem dX12_moves_50 : decode cX12_moves 50 = .ok (.getfield 398, 3) := by decide +kernel
theorem dX12_moves_53 : decode cX12_moves 53 = .ok (.iload_n 2, 1) := by decide +kernel
theorem dX12_moves_54 : decode cX12_moves 54 = .ok (.iload_n 1, 1) := by decide +kernel
theorem dX12_moves_55 : decode cX12_moves 55 = .ok (.isub, 1) := by decide +kernel
theorem dX12_moves_56 : decode cX12_moves 56 = .ok (.invokestatic 416, 3) := by decide +kernel
theorem dX12_moves_59 : decode cX12_moves 59 = .ok (.iadd, 1) := by decide +kernel
theorem dX12_moves_60 : decode cX12_moves 60 = .ok (.putfield 398, 3) := by decide +kernel
theorem dX12_moves_63 : decode cX12_moves 63 = .ok (.aload_n 0, 1) := by decide +kernel
theorem dX12_moves_64 : decode cX12_moves 64 = .ok (.dup, 1) := by decide +kernel
theorem dX12_moves_65 : decode cX12_moves 65 = .ok (.getfield 401, 3) := by decide +kernel
theorem dX12_moves_68 : decode cX12_moves 68 = .ok (.iload_n 2, 1) := by decide +kernel
theorem dX12_moves_69 : decode cX12_moves 69 = .ok (.iload_n 1, 1) := by decide +kernel
theorem dX12_moves_70 : decode cX12_moves 70 = .ok (.if_icmp .ne 7, 3) := by decide +kernel
theorem dX12_moves_73 : decode cX12_moves 73 = .ok (.iconst 0, 1) := by decide +kernel
theorem dX12_moves_74 : decode cX12_moves 74 = .ok (.goto 4, 3) := by decide +kernel
theorem dX12_moves_77 : decode cX12_moves 77 = .ok (.iconst 1, 1) := by decide +kernel
theorem dX12_moves_78 : decode cX12_moves 78 = .ok (.iadd, 1) := by decide +kernel
theorem dX12_moves_79 : decode cX12_moves 79 = .ok (.putfield 401, 3) := by decide +kernel
theorem dX12_moves_82 : decode cX12_moves 82 = .ok (.iconst 1, 1) := by decide +kernel
theorem dX12_moves_83 : decode cX12_moves 83 = .ok (.ireturn, 1) := by decide +kernel
theorem dX12_hearse_0 : decode cX12_hearse 0 = .ok (.aload_n 0, 1) := by decide +kernel
theorem dX12_hearse_1 : decode cX12_hearse 1 = .ok (.iconst 0, 1) := by decide +kernel
theorem dX12_hearse_2 : decode cX12_hearse 2 = .ok (.putfield 111, 3) := by decide +kernel
theorem dX12_hearse_5 : decode cX12_hearse 5 = .ok (.aload_n 0, 1) := by decide +kernel
theorem dX12_hearse_6 : decode cX12_hearse 6 = .ok (.iload_n 1, 1) := by decide +kernel
theorem dX12_hearse_7 : decode cX12_hearse 7 = .ok (.invokevirtual 307, 3) := by decide +kernel
theorem dX12_hearse_10 : decode cX12_hearse 10 = .ok (.ifCond .eq 15, 3) := by decide +kernel
theorem dX12_hearse_13 : decode cX12_hearse 13 = .ok (.iload_n 2, 1) := by decide +kernel
theorem dX12_hearse_14 : decode cX12_hearse 14 = .ok (.i2l, 1) := by decide +kernel
theorem dX12_hearse_15 : decode cX12_hearse 15 = .ok (.lconst 0, 1) := by decide +kernel
theorem dX12_hearse_16 : decode cX12_hearse 16 = .ok (.ldc2_w 305, 3) := by decide +kernel
theorem dX12_hearse_19 : decode cX12_hearse 19 = .ok (.invokestatic 232, 3) := by decide +kernel
theorem dX12_hearse_22 : decode cX12_hearse 22 = .ok (.ifCond .ne 5, 3) := by decide +kernel
theorem dX12_hearse_25 : decode cX12_hearse 25 = .ok (.iconst (-1), 1) := by decide +kernel
theorem dX12_hearse_26 : decode cX12_hearse 26 = .ok (.ireturn, 1) := by decide +kernel
theorem dX12_hearse_27 : decode cX12_hearse 27 = .ok (.iconst (-1), 1) := by decide +kernel
theorem dX12_hearse_28 : decode cX12_hearse 28 = .ok (.istore_n 3, 1) := by decide +kernel
theorem dX12_hearse_29 : decode cX12_hearse 29 = .ok (.iconst 0, 1) := by decide +kernel
theorem dX12_hearse_30 : decode cX12_hearse 30 = .ok (.istore 4, 2) := by decide +kernel
theorem dX12_hearse_32 : decode cX12_hearse 32 = .ok (.iconst 0, 1) := by decide +kernel
theorem dX12_hearse_33 : decode cX12_hearse 33 = .ok (.istore 5, 2) := by decide +kernel
theorem dX12_hearse_35 : decode cX12_hearse 35 = .ok (.iconst 0, 1) := by decide +kernel
theorem dX12_hearse_36 : decode cX12_hearse 36 = .ok (.istore 6, 2) := by decide +kernel
theorem dX12_hearse_38 : decode cX12_hearse 38 = .ok (.iload 6, 2) := by decide +kernel
theorem dX12_hearse_40 : decode cX12_hearse 40 = .ok (.aload_n 0, 1) := by decide +kernel
theorem dX12_hearse_41 : decode cX12_hearse 41 = .ok (.getfield 290, 3) := by decide +kernel
theorem dX12_hearse_44 : decode cX12_hearse 44 = .ok (.if_icmp .ge 55, 3) := by decide +kernel
theorem dX12_hearse_47 : decode cX12_hearse 47 = .ok (.aload_n 0, 1) := by decide +kernel
theorem dX12_hearse_48 : decode cX12_hearse 48 = .ok (.aload_n 0, 1) := by decide +kernel
theorem dX12_hearse_49 : decode cX12_hearse 49 = .ok (.iload_n 1, 1) := by decide +kernel
theorem dX12_hearse_50 : decode cX12_hearse 50 = .ok (.invokevirtual 312, 3) := by decide +kernel
theorem dX12_hearse_53 : decode cX12_hearse 53 = .ok (.iload 6, 2) := by decide +kernel
theorem dX12_hearse_55 : decode cX12_hearse 55 = .ok (.invokevirtual 419, 3) := by decide +kernel
theorem dX12_hearse_58 : decode cX12_hearse 58 = .ok (.ifCond .eq 35, 3) := by decide +kernel
theorem dX12_hearse_61 : decode cX12_hearse 61 = .ok (.iload_n 3, 1) := by decide +kernel
theorem dX12_hearse_62 : decode cX12_hearse 62 = .ok (.iconst (-1), 1) := by decide +kernel
theorem dX12_hearse_63 : decode cX12_hearse 63 = .ok (.if_icmp .eq 15, 3) := by decide +kernel
theorem dX12_hearse_66 : decode cX12_hearse 66 = .ok (.aload_n 0, 1) := by decide +kernel
theorem dX12_hearse_67 : decode cX12_hearse 67 = .ok (.getfield 398, 3) := by decide +kernel
theorem dX12_hearse_70 : decode cX12_hearse 70 = .ok (.iload 4, 2) := by decide +kernel
theorem dX12_hearse_72 : decode cX12_hearse 72 = .ok (.if_icmp .lt 6, 3) := by decide +kernel
theorem dX12_hearse_75 : decode cX12_hearse 75 = .ok (.goto 18, 3) := by decide +kernel
theorem dX12_hearse_78 : decode cX12_hearse 78 = .ok (.iload 6, 2) := by decide +kernel
theorem dX12_hearse_80 : decode cX12_hearse 80 = .ok (.istore_n 3, 1) := by decide +kernel
theorem dX12_hearse_81 : decode cX12_hearse 81 = .ok (.aload_n 0, 1) := by decide +kernel
theorem dX12_hearse_82 : decode cX12_hearse 82 = .ok (.getfield 398, 3) := by decide +kernel
theorem dX12_hearse_85 : decode cX12_hearse 85 = .ok (.istore 4, 2) := by decide +kernel
theorem dX12_hearse_87 : decode cX12_hearse 87 = .ok (.aload_n 0, 1) := by decide +kernel
theorem dX12_hearse_88 : decode cX12_hearse 88 = .ok (.getfield 401, 3) := by decide +kernel
theorem dX12_hearse_91 : decode cX12_hearse 91 = .ok (.istore 5, 2) := by decide +kernel
theorem dX12_hearse_93 : decode cX12_hearse 93 = .ok (.iinc 6 1, 3) := by decide +kernel
theorem dX12_hearse_96 : decode cX12_hearse 96 = .ok (.goto (-58), 3) := by decide +kernel
theorem dX12_hearse_99 : decode cX12_hearse 99 = .ok (.iload_n 3, 1) := by decide +kernel
theorem dX12_hearse_100 : decode cX12_hearse 100 = .ok (.iconst (-1), 1) := by decide +kernel
theorem dX12_hearse_101 : decode cX12_hearse 101 = .ok (.if_icmp .ne 7, 3) := by decide +kernel
theorem dX12_hearse_104 : decode cX12_hearse 104 = .ok (.iconst (-1), 1) := by decide +kernel
theorem dX12_hearse_105 : decode cX12_hearse 105 = .ok (.goto 23, 3) := by decide +kernel
theorem dX12_hearse_108 : decode cX12_hearse 108 = .ok (.iload_n 2, 1) := by decide +kernel
theorem dX12_hearse_109 : decode cX12_hearse 109 = .ok (.ifCond .ne 8, 3) := by decide +kernel
theorem dX12_hearse_112 : decode cX12_hearse 112 = .ok (.iload 4, 2) := by decide +kernel
theorem dX12_hearse_114 : decode cX12_hearse 114 = .ok (.goto 14, 3) := by decide +kernel
theorem dX12_hearse_117 : decode cX12_hearse 117 = .ok (.iload_n 2, 1) := by decide +kernel
theorem dX12_hearse_118 : decode cX12_hearse 118 = .ok (.iconst 1, 1) := by decide +kernel
theorem dX12_hearse_119 : decode cX12_hearse 119 = .ok (.if_icmp .ne 8, 3) := by decide +kernel
theorem dX12_hearse_122 : decode cX12_hearse 122 = .ok (.iload 5, 2) := by decide +kernel
theorem dX12_hearse_124 : decode cX12_hearse 124 = .ok (.goto 4, 3) := by decide +kernel
theorem dX12_hearse_127 : decode cX12_hearse 127 = .ok (.iload_n 3, 1) := by decide +kernel
theorem dX12_hearse_128 : decode cX12_hearse 128 = .ok (.ireturn, 1) := by decide +kernel
theorem dX12_gate_0 : decode cX12_gate 0 = .ok (.aload_n 0, 1) := by decide +kernel
theorem dX12_gate_1 : decode cX12_gate 1 = .ok (.iconst 0, 1) := by decide +kernel
theorem dX12_gate_2 : decode cX12_gate 2 = .ok (.putfield 111, 3) := by decide +kernel
theorem dX12_gate_5 : decode cX12_gate 5 = .ok (.aload_n 0, 1) := by decide +kernel
theorem dX12_gate_6 : decode cX12_gate 6 = .ok (.iload_n 1, 1) := by decide +kernel
theorem dX12_gate_7 : decode cX12_gate 7 = .ok (.invokevirtual 307, 3) := by decide +kernel
theorem dX12_gate_10 : decode cX12_gate 10 = .ok (.ifCond .eq 13, 3) := by decide +kernel
theorem dX12_gate_13 : decode cX12_gate 13 = .ok (.iload_n 2, 1) := by decide +kernel
theorem dX12_gate_14 : decode cX12_gate 14 = .ok (.i2l, 1) := by decide +kernel
theorem dX12_gate_15 : decode cX12_gate 15 = .ok (.lconst 0, 1) := by decide +kernel
theorem dX12_gate_16 : decode cX12_gate 16 = .ok (.lconst 1, 1) := by decide +kernel
theorem dX12_gate_17 : decode cX12_gate 17 = .ok (.invokestatic 232, 3) := by decide +kernel
theorem dX12_gate_20 : decode cX12_gate 20 = .ok (.ifCond .ne 7, 3) := by decide +kernel
theorem dX12_gate_23 : decode cX12_gate 23 = .ok (.ldc2_w 386, 3) := by decide +kernel
theorem dX12_gate_26 : decode cX12_gate 26 = .ok (.lreturn, 1) := by decide +kernel
theorem dX12_gate_27 : decode cX12_gate 27 = .ok (.iconst 0, 1) := by decide +kernel
theorem dX12_gate_28 : decode cX12_gate 28 = .ok (.istore_n 3, 1) := by decide +kernel
theorem dX12_gate_29 : decode cX12_gate 29 = .ok (.iload_n 3, 1) := by decide +kernel
theorem dX12_gate_30 : decode cX12_gate 30 = .ok (.bipush 20, 2) := by decide +kernel
theorem dX12_gate_32 : decode cX12_gate 32 = .ok (.if_icmp .ge 44, 3) := by decide +kernel
theorem dX12_gate_35 : decode cX12_gate 35 = .ok (.aload_n 0, 1) := by decide +kernel
theorem dX12_gate_36 : decode cX12_gate 36 = .ok (.getfield 93, 3) := by decide +kernel
theorem dX12_gate_39 : decode cX12_gate 39 = .ok (.iload_n 3, 1) := by decide +kernel
theorem dX12_gate_40 : decode cX12_gate 40 = .ok (.aload_n 0, 1) := by decide +kernel
theorem dX12_gate_41 : decode cX12_gate 41 = .ok (.getfield 55, 3) := by decide +kernel
theorem dX12_gate_44 : decode cX12_gate 44 = .ok (.iload_n 3, 1) := by decide +kernel
theorem dX12_gate_45 : decode cX12_gate 45 = .ok (.iaload, 1) := by decide +kernel
theorem dX12_gate_46 : decode cX12_gate 46 = .ok (.iastore, 1) := by decide +kernel
theorem dX12_gate_47 : decode cX12_gate 47 = .ok (.aload_n 0, 1) := by decide +kernel
theorem dX12_gate_48 : decode cX12_gate 48 = .ok (.getfield 55, 3) := by decide +kernel
theorem dX12_gate_51 : decode cX12_gate 51 = .ok (.iload_n 3, 1) := by decide +kernel
theorem dX12_gate_52 : decode cX12_gate 52 = .ok (.aload_n 0, 1) := by decide +kernel
theorem dX12_gate_53 : decode cX12_gate 53 = .ok (.getfield 55, 3) := by decide +kernel
theorem dX12_gate_56 : decode cX12_gate 56 = .ok (.iload_n 3, 1) := by decide +kernel
theorem dX12_gate_57 : decode cX12_gate 57 = .ok (.iaload, 1) := by decide +kernel
theorem dX12_gate_58 : decode cX12_gate 58 = .ok (.bipush (-2), 2) := by decide +kernel
theorem dX12_gate_60 : decode cX12_gate 60 = .ok (.if_icmp .ne 8, 3) := by decide +kernel
theorem dX12_gate_63 : decode cX12_gate 63 = .ok (.bipush (-2), 2) := by decide +kernel
theorem dX12_gate_65 : decode cX12_gate 65 = .ok (.goto 4, 3) := by decide +kernel
theorem dX12_gate_68 : decode cX12_gate 68 = .ok (.iconst (-1), 1) := by decide +kernel
theorem dX12_gate_69 : decode cX12_gate 69 = .ok (.iastore, 1) := by decide +kernel
theorem dX12_gate_70 : decode cX12_gate 70 = .ok (.iinc 3 1, 3) := by decide +kernel
theorem dX12_gate_73 : decode cX12_gate 73 = .ok (.goto (-44), 3) := by decide +kernel
theorem dX12_gate_76 : decode cX12_gate 76 = .ok (.iconst (-1), 1) := by decide +kernel
theorem dX12_gate_77 : decode cX12_gate 77 = .ok (.istore_n 3, 1) := by decide +kernel
theorem dX12_gate_78 : decode cX12_gate 78 = .ok (.lconst 0, 1) := by decide +kernel
theorem dX12_gate_79 : decode cX12_gate 79 = .ok (.lstore 4, 2) := by decide +kernel
theorem dX12_gate_81 : decode cX12_gate 81 = .ok (.iconst 0, 1) := by decide +kernel
theorem dX12_gate_82 : decode cX12_gate 82 = .ok (.istore 6, 2) := by decide +kernel
theorem dX12_gate_84 : decode cX12_gate 84 = .ok (.iload 6, 2) := by decide +kernel
theorem dX12_gate_86 : decode cX12_gate 86 = .ok (.aload_n 0, 1) := by decide +kernel
theorem dX12_gate_87 : decode cX12_gate 87 = .ok (.getfield 290, 3) := by decide +kernel
theorem dX12_gate_90 : decode cX12_gate 90 = .ok (.if_icmp .ge 72, 3) := by decide +kernel
theorem dX12_gate_93 : decode cX12_gate 93 = .ok (.aload_n 0, 1) := by decide +kernel
theorem dX12_gate_94 : decode cX12_gate 94 = .ok (.getfield 55, 3) := by decide +kernel
theorem dX12_gate_97 : decode cX12_gate 97 = .ok (.iload 6, 2) := by decide +kernel
theorem dX12_gate_99 : decode cX12_gate 99 = .ok (.iaload, 1) := by decide +kernel
theorem dX12_gate_100 : decode cX12_gate 100 = .ok (.bipush (-2), 2) := by decide +kernel
theorem dX12_gate_102 : decode cX12_gate 102 = .ok (.if_icmp .ne 6, 3) := by decide +kernel
theorem dX12_gate_105 : decode cX12_gate 105 = .ok (.goto 51, 3) := by decide +kernel
theorem dX12_gate_108 : decode cX12_gate 108 = .ok (.aload_n 0, 1) := by decide +kernel
theorem dX12_gate_109 : decode cX12_gate 109 = .ok (.getfield 55, 3) := by decide +kernel
theorem dX12_gate_112 : decode cX12_gate 112 = .ok (.iload 6, 2) := by decide +kernel
theorem dX12_gate_114 : decode cX12_gate 114 = .ok (.bipush (-2), 2) := by decide +kernel
theorem dX12_gate_116 : decode cX12_gate 116 = .ok (.iastore, 1) := by decide +kernel
theorem dX12_gate_117 : decode cX12_gate 117 = .ok (.aload_n 0, 1) := by decide +kernel
theorem dX12_gate_118 : decode cX12_gate 118 = .ok (.iload_n 1, 1) := by decide +kernel
theorem dX12_gate_119 : decode cX12_gate 119 = .ok (.iconst 0, 1) := by decide +kernel
theorem dX12_gate_120 : decode cX12_gate 120 = .ok (.invokevirtual 382, 3) := by decide +kernel
theorem dX12_gate_123 : decode cX12_gate 123 = .ok (.lstore 7, 2) := by decide +kernel
theorem dX12_gate_125 : decode cX12_gate 125 = .ok (.aload_n 0, 1) := by decide +kernel
theorem dX12_gate_126 : decode cX12_gate 126 = .ok (.getfield 55, 3) := by decide +kernel
theorem dX12_gate_129 : decode cX12_gate 129 = .ok (.iload 6, 2) := by decide +kernel
theorem dX12_gate_131 : decode cX12_gate 131 = .ok (.iconst (-1), 1) := by decide +kernel
theorem dX12_gate_132 : decode cX12_gate 132 = .ok (.iastore, 1) := by decide +kernel
theorem dX12_gate_133 : decode cX12_gate 133 = .ok (.iload_n 3, 1) := by decide +kernel
theorem dX12_gate_134 : decode cX12_gate 134 = .ok (.iconst (-1), 1) := by decide +kernel
theorem dX12_gate_135 : decode cX12_gate 135 = .ok (.if_icmp .eq 14, 3) := by decide +kernel
theorem dX12_gate_138 : decode cX12_gate 138 = .ok (.lload 7, 2) := by decide +kernel
theorem dX12_gate_140 : decode cX12_gate 140 = .ok (.lload 4, 2) := by decide +kernel
theorem dX12_gate_142 : decode cX12_gate 142 = .ok (.lcmp, 1) := by decide +kernel
theorem dX12_gate_143 : decode cX12_gate 143 = .ok (.ifCond .gt 6, 3) := by decide +kernel
theorem dX12_gate_146 : decode cX12_gate 146 = .ok (.goto 10, 3) := by decide +kernel
theorem dX12_gate_149 : decode cX12_gate 149 = .ok (.iload 6, 2) := by decide +kernel
theorem dX12_gate_151 : decode cX12_gate 151 = .ok (.istore_n 3, 1) := by decide +kernel
theorem dX12_gate_152 : decode cX12_gate 152 = .ok (.lload 7, 2) := by decide +kernel
theorem dX12_gate_154 : decode cX12_gate 154 = .ok (.lstore 4, 2) := by decide +kernel
theorem dX12_gate_156 : decode cX12_gate 156 = .ok (.iinc 6 1, 3) := by decide +kernel
theorem dX12_gate_159 : decode cX12_gate 159 = .ok (.goto (-75), 3) := by decide +kernel
theorem dX12_gate_162 : decode cX12_gate 162 = .ok (.iconst 0, 1) := by decide +kernel
theorem dX12_gate_163 : decode cX12_gate 163 = .ok (.istore 6, 2) := by decide +kernel
theorem dX12_gate_165 : decode cX12_gate 165 = .ok (.iload 6, 2) := by decide +kernel
theorem dX12_gate_167 : decode cX12_gate 167 = .ok (.bipush 20, 2) := by decide +kernel
theorem dX12_gate_169 : decode cX12_gate 169 = .ok (.if_icmp .ge 23, 3) := by decide +kernel
theorem dX12_gate_172 : decode cX12_gate 172 = .ok (.aload_n 0, 1) := by decide +kernel
theorem dX12_gate_173 : decode cX12_gate 173 = .ok (.getfield 55, 3) := by decide +kernel
theorem dX12_gate_176 : decode cX12_gate 176 = .ok (.iload 6, 2) := by decide +kernel
theorem dX12_gate_178 : decode cX12_gate 178 = .ok (.aload_n 0, 1) := by decide +kernel
theorem dX12_gate_179 : decode cX12_gate 179 = .ok (.getfield 93, 3) := by decide +kernel
theorem dX12_gate_182 : decode cX12_gate 182 = .ok (.iload 6, 2) := by decide +kernel
theorem dX12_gate_184 : decode cX12_gate 184 = .ok (.iaload, 1) := by decide +kernel
theorem dX12_gate_185 : decode cX12_gate 185 = .ok (.iastore, 1) := by decide +kernel
theorem dX12_gate_186 : decode cX12_gate 186 = .ok (.iinc 6 1, 3) := by decide +kernel
theorem dX12_gate_189 : decode cX12_gate 189 = .ok (.goto (-24), 3) := by decide +kernel
theorem dX12_gate_192 : decode cX12_gate 192 = .ok (.iload_n 3, 1) := by decide +kernel
theorem dX12_gate_193 : decode cX12_gate 193 = .ok (.iconst (-1), 1) := by decide +kernel
theorem dX12_gate_194 : decode cX12_gate 194 = .ok (.if_icmp .ne 9, 3) := by decide +kernel
theorem dX12_gate_197 : decode cX12_gate 197 = .ok (.ldc2_w 386, 3) := by decide +kernel
theorem dX12_gate_200 : decode cX12_gate 200 = .ok (.goto 14, 3) := by decide +kernel
theorem dX12_gate_203 : decode cX12_gate 203 = .ok (.iload_n 2, 1) := by decide +kernel
theorem dX12_gate_204 : decode cX12_gate 204 = .ok (.ifCond .ne 8, 3) := by decide +kernel
theorem dX12_gate_207 : decode cX12_gate 207 = .ok (.iload_n 3, 1) := by decide +kernel
theorem dX12_gate_208 : decode cX12_gate 208 = .ok (.i2l, 1) := by decide +kernel
theorem dX12_gate_209 : decode cX12_gate 209 = .ok (.goto 5, 3) := by decide +kernel
theorem dX12_gate_212 : decode cX12_gate 212 = .ok (.lload 4, 2) := by decide +kernel
theorem dX12_gate_214 : decode cX12_gate 214 = .ok (.lreturn, 1) := by decide +kernel
theorem dX12_isTaken_0 : decode cX12_isTaken 0 = .ok (.aload_n 0, 1) := by decide +kernel
theorem dX12_isTaken_1 : decode cX12_isTaken 1 = .ok (.iload_n 1, 1) := by decide +kernel
theorem dX12_isTaken_2 : decode cX12_isTaken 2 = .ok (.invokevirtual 302, 3) := by decide +kernel
theorem dX12_isTaken_5 : decode cX12_isTaken 5 = .ok (.ifCond .eq 14, 3) := by decide +kernel
theorem dX12_isTaken_8 : decode cX12_isTaken 8 = .ok (.aload_n 0, 1) := by decide +kernel
theorem dX12_isTaken_9 : decode cX12_isTaken 9 = .ok (.getfield 55, 3) := by decide +kernel
theorem dX12_isTaken_12 : decode cX12_isTaken 12 = .ok (.iload_n 1, 1) := by decide +kernel
theorem dX12_isTaken_13 : decode cX12_isTaken 13 = .ok (.iaload, 1) := by decide +kernel
theorem dX12_isTaken_14 : decode cX12_isTaken 14 = .ok (.bipush (-2), 2) := by decide +kernel
theorem dX12_isTaken_16 : decode cX12_isTaken 16 = .ok (.if_icmp .ne 5, 3) := by decide +kernel
theorem dX12_isTaken_19 : decode cX12_isTaken 19 = .ok (.iconst 1, 1) := by decide +kernel
theorem dX12_isTaken_20 : decode cX12_isTaken 20 = .ok (.ireturn, 1) := by decide +kernel
theorem dX12_isTaken_21 : decode cX12_isTaken 21 = .ok (.iconst 0, 1) := by decide +kernel
theorem dX12_isTaken_22 : decode cX12_isTaken 22 = .ok (.istore_n 3, 1) := by decide +kernel
theorem dX12_isTaken_23 : decode cX12_isTaken 23 = .ok (.iload_n 3, 1) := by decide +kernel
theorem dX12_isTaken_24 : decode cX12_isTaken 24 = .ok (.aload_n 0, 1) := by decide +kernel
theorem dX12_isTaken_25 : decode cX12_isTaken 25 = .ok (.getfield 422, 3) := by decide +kernel
theorem dX12_isTaken_28 : decode cX12_isTaken 28 = .ok (.if_icmp .ge 34, 3) := by decide +kernel
theorem dX12_isTaken_31 : decode cX12_isTaken 31 = .ok (.iload_n 2, 1) := by decide +kernel
theorem dX12_isTaken_32 : decode cX12_isTaken 32 = .ok (.iload_n 3, 1) := by decide +kernel
theorem dX12_isTaken_33 : decode cX12_isTaken 33 = .ok (.invokestatic 255, 3) := by decide +kernel
theorem dX12_isTaken_36 : decode cX12_isTaken 36 = .ok (.ifCond .eq 20, 3) := by decide +kernel
theorem dX12_isTaken_39 : decode cX12_isTaken 39 = .ok (.aload_n 0, 1) := by decide +kernel
theorem dX12_isTaken_40 : decode cX12_isTaken 40 = .ok (.getfield 55, 3) := by decide +kernel
theorem dX12_isTaken_43 : decode cX12_isTaken 43 = .ok (.iload_n 1, 1) := by decide +kernel
theorem dX12_isTaken_44 : decode cX12_isTaken 44 = .ok (.iaload, 1) := by decide +kernel
theorem dX12_isTaken_45 : decode cX12_isTaken 45 = .ok (.aload_n 0, 1) := by decide +kernel
theorem dX12_isTaken_46 : decode cX12_isTaken 46 = .ok (.getfield 96, 3) := by decide +kernel
theorem dX12_isTaken_49 : decode cX12_isTaken 49 = .ok (.iload_n 3, 1) := by decide +kernel
theorem dX12_isTaken_50 : decode cX12_isTaken 50 = .ok (.iaload, 1) := by decide +kernel
theorem dX12_isTaken_51 : decode cX12_isTaken 51 = .ok (.if_icmp .ne 5, 3) := by decide +kernel
theorem dX12_isTaken_54 : decode cX12_isTaken 54 = .ok (.iconst 1, 1) := by decide +kernel
theorem dX12_isTaken_55 : decode cX12_isTaken 55 = .ok (.ireturn, 1) := by decide +kernel
theorem dX12_isTaken_56 : decode cX12_isTaken 56 = .ok (.iinc 3 1, 3) := by decide +kernel
theorem dX12_isTaken_59 : decode cX12_isTaken 59 = .ok (.goto (-36), 3) := by decide +kernel
theorem dX12_isTaken_62 : decode cX12_isTaken 62 = .ok (.iconst 0, 1) := by decide +kernel
theorem dX12_isTaken_63 : decode cX12_isTaken 63 = .ok (.ireturn, 1) := by decide +kernel
theorem dX12_couldCome_0 : decode cX12_couldCome 0 = .ok (.aload_n 0, 1) := by decide +kernel
theorem dX12_couldCome_1 : decode cX12_couldCome 1 = .ok (.aload_n 0, 1) := by decide +kernel
theorem dX12_couldCome_2 : decode cX12_couldCome 2 = .ok (.getfield 96, 3) := by decide +kernel
theorem dX12_couldCome_5 : decode cX12_couldCome 5 = .ok (.iload_n 1, 1) := by decide +kernel
theorem dX12_couldCome_6 : decode cX12_couldCome 6 = .ok (.iaload, 1) := by decide +kernel
theorem dX12_couldCome_7 : decode cX12_couldCome 7 = .ok (.iconst 1, 1) := by decide +kernel
theorem dX12_couldCome_8 : decode cX12_couldCome 8 = .ok (.isub, 1) := by decide +kernel
theorem dX12_couldCome_9 : decode cX12_couldCome 9 = .ok (.iload_n 2, 1) := by decide +kernel
theorem dX12_couldCome_10 : decode cX12_couldCome 10 = .ok (.invokevirtual 425, 3) := by decide +kernel
theorem dX12_couldCome_13 : decode cX12_couldCome 13 = .ok (.ifCond .ne 33, 3) := by decide +kernel
theorem dX12_couldCome_16 : decode cX12_couldCome 16 = .ok (.aload_n 0, 1) := by decide +kernel
theorem dX12_couldCome_17 : decode cX12_couldCome 17 = .ok (.aload_n 0, 1) := by decide +kernel
theorem dX12_couldCome_18 : decode cX12_couldCome 18 = .ok (.getfield 96, 3) := by decide +kernel
theorem dX12_couldCome_21 : decode cX12_couldCome 21 = .ok (.iload_n 1, 1) := by decide +kernel
theorem dX12_couldCome_22 : decode cX12_couldCome 22 = .ok (.iaload, 1) := by decide +kernel
theorem dX12_couldCome_23 : decode cX12_couldCome 23 = .ok (.aload_n 0, 1) := by decide +kernel
theorem dX12_couldCome_24 : decode cX12_couldCome 24 = .ok (.aload_n 0, 1) := by decide +kernel
theorem dX12_couldCome_25 : decode cX12_couldCome 25 = .ok (.getfield 58, 3) := by decide +kernel
theorem dX12_couldCome_28 : decode cX12_couldCome 28 = .ok (.aload_n 0, 1) := by decide +kernel
theorem dX12_couldCome_29 : decode cX12_couldCome 29 = .ok (.getfield 96, 3) := by decide +kernel
theorem dX12_couldCome_32 : decode cX12_couldCome 32 = .ok (.iload_n 1, 1) := by decide +kernel
theorem dX12_couldCome_33 : decode cX12_couldCome 33 = .ok (.iaload, 1) := by decide +kernel
theorem dX12_couldCome_34 : decode cX12_couldCome 34 = .ok (.iaload, 1) := by decide +kernel
theorem dX12_couldCome_35 : decode cX12_couldCome 35 = .ok (.invokevirtual 312, 3) := by decide +kernel
theorem dX12_couldCome_38 : decode cX12_couldCome 38 = .ok (.iadd, 1) := by decide +kernel
theorem dX12_couldCome_39 : decode cX12_couldCome 39 = .ok (.iload_n 2, 1) := by decide +kernel
theorem dX12_couldCome_40 : decode cX12_couldCome 40 = .ok (.invokevirtual 425, 3) := by decide +kernel
theorem dX12_couldCome_43 : decode cX12_couldCome 43 = .ok (.ifCond .eq 7, 3) := by decide +kernel
theorem dX12_couldCome_46 : decode cX12_couldCome 46 = .ok (.iconst 1, 1) := by decide +kernel
theorem dX12_couldCome_47 : decode cX12_couldCome 47 = .ok (.goto 4, 3) := by decide +kernel
theorem dX12_couldCome_50 : decode cX12_couldCome 50 = .ok (.iconst 0, 1) := by decide +kernel
theorem dX12_couldCome_51 : decode cX12_couldCome 51 = .ok (.ireturn, 1) := by decide +kernel
theorem dX12_layWays_0 : decode cX12_layWays 0 = .ok (.aload_n 0, 1) := by decide +kernel
theorem dX12_layWays_1 : decode cX12_layWays 1 = .ok (.aload_n 0, 1) := by decide +kernel
theorem dX12_layWays_2 : decode cX12_layWays 2 = .ok (.invokevirtual 339, 3) := by decide +kernel
theorem dX12_layWays_5 : decode cX12_layWays 5 = .ok (.putfield 422, 3) := by decide +kernel
theorem dX12_layWays_8 : decode cX12_layWays 8 = .ok (.aload_n 0, 1) := by decide +kernel
theorem dX12_layWays_9 : decode cX12_layWays 9 = .ok (.getfield 284, 3) := by decide +kernel
theorem dX12_layWays_12 : decode cX12_layWays 12 = .ok (.ifCond .eq 12, 3) := by decide +kernel
theorem dX12_layWays_15 : decode cX12_layWays 15 = .ok (.aload_n 0, 1) := by decide +kernel
theorem dX12_layWays_16 : decode cX12_layWays 16 = .ok (.getfield 422, 3) := by decide +kernel
theorem dX12_layWays_19 : decode cX12_layWays 19 = .ok (.bipush 12, 2) := by decide +kernel
theorem dX12_layWays_21 : decode cX12_layWays 21 = .ok (.if_icmp .le 5, 3) := by decide +kernel
theorem dX12_layWays_24 : decode cX12_layWays 24 = .ok (.iconst 0, 1) := by decide +kernel
theorem dX12_layWays_25 : decode cX12_layWays 25 = .ok (.ireturn, 1) := by decide +kernel
theorem dX12_layWays_26 : decode cX12_layWays 26 = .ok (.iconst 0, 1) := by decide +kernel
theorem dX12_layWays_27 : decode cX12_layWays 27 = .ok (.istore_n 1, 1) := by decide +kernel
theorem dX12_layWays_28 : decode cX12_layWays 28 = .ok (.iconst 0, 1) := by decide +kernel
theorem dX12_layWays_29 : decode cX12_layWays 29 = .ok (.istore_n 2, 1) := by decide +kernel
theorem dX12_layWays_30 : decode cX12_layWays 30 = .ok (.iload_n 2, 1) := by decide +kernel
theorem dX12_layWays_31 : decode cX12_layWays 31 = .ok (.aload_n 0, 1) := by decide +kernel
theorem dX12_layWays_32 : decode cX12_layWays 32 = .ok (.getfield 290, 3) := by decide +kernel
theorem dX12_layWays_35 : decode cX12_layWays 35 = .ok (.if_icmp .ge 32, 3) := by decide +kernel
theorem dX12_layWays_38 : decode cX12_layWays 38 = .ok (.aload_n 0, 1) := by decide +kernel
theorem dX12_layWays_39 : decode cX12_layWays 39 = .ok (.getfield 55, 3) := by decide +kernel
theorem dX12_layWays_42 : decode cX12_layWays 42 = .ok (.iload_n 2, 1) := by decide +kernel
theorem dX12_layWays_43 : decode cX12_layWays 43 = .ok (.iaload, 1) := by decide +kernel
theorem dX12_layWays_44 : decode cX12_layWays 44 = .ok (.iload_n 2, 1) := by decide +kernel
theorem dX12_layWays_45 : decode cX12_layWays 45 = .ok (.if_icmp .eq 6, 3) := by decide +kernel
theorem dX12_layWays_48 : decode cX12_layWays 48 = .ok (.goto 13, 3) := by decide +kernel
theorem dX12_layWays_51 : decode cX12_layWays 51 = .ok (.aload_n 0, 1) := by decide +kernel
theorem dX12_layWays_52 : decode cX12_layWays 52 = .ok (.getfield 96, 3) := by decide +kernel
theorem dX12_layWays_55 : decode cX12_layWays 55 = .ok (.iload_n 1, 1) := by decide +kernel
theorem dX12_layWays_56 : decode cX12_layWays 56 = .ok (.iload_n 2, 1) := by decide +kernel
theorem dX12_layWays_57 : decode cX12_layWays 57 = .ok (.iastore, 1) := by decide +kernel
theorem dX12_layWays_58 : decode cX12_layWays 58 = .ok (.iinc 1 1, 3) := by decide +kernel
theorem dX12_layWays_61 : decode cX12_layWays 61 = .ok (.iinc 2 1, 3) := by decide +kernel
theorem dX12_layWays_64 : decode cX12_layWays 64 = .ok (.goto (-34), 3) := by decide +kernel
theorem dX12_layWays_67 : decode cX12_layWays 67 = .ok (.iconst 0, 1) := by decide +kernel
theorem dX12_layWays_68 : decode cX12_layWays 68 = .ok (.istore_n 2, 1) := by decide +kernel
theorem dX12_layWays_69 : decode cX12_layWays 69 = .ok (.iload_n 2, 1) := by decide +kernel
theorem dX12_layWays_70 : decode cX12_layWays 70 = .ok (.iconst 1, 1) := by decide +kernel
theorem dX12_layWays_71 : decode cX12_layWays 71 = .ok (.aload_n 0, 1) := by decide +kernel
theorem dX12_layWays_72 : decode cX12_layWays 72 = .ok (.getfield 422, 3) := by decide +kernel
theorem dX12_layWays_75 : decode cX12_layWays 75 = .ok (.ishl, 1) := by decide +kernel
theorem dX12_layWays_76 : decode cX12_layWays 76 = .ok (.if_icmp .ge 84, 3) := by decide +kernel
theorem dX12_layWays_79 : decode cX12_layWays 79 = .ok (.aload_n 0, 1) := by decide +kernel
theorem dX12_layWays_80 : decode cX12_layWays 80 = .ok (.getfield 99, 3) := by decide +kernel
theorem dX12_layWays_83 : decode cX12_layWays 83 = .ok (.iload_n 2, 1) := by decide +kernel
theorem dX12_layWays_84 : decode cX12_layWays 84 = .ok (.iload_n 2, 1) := by decide +kernel
theorem dX12_layWays_85 : decode cX12_layWays 85 = .ok (.ifCond .ne 7, 3) := by decide +kernel
theorem dX12_layWays_88 : decode cX12_layWays 88 = .ok (.lconst 1, 1) := by decide +kernel
theorem dX12_layWays_89 : decode cX12_layWays 89 = .ok (.goto 4, 3) := by decide +kernel
theorem dX12_layWays_92 : decode cX12_layWays 92 = .ok (.lconst 0, 1) := by decide +kernel
theorem dX12_layWays_93 : decode cX12_layWays 93 = .ok (.lastore, 1) := by decide +kernel
theorem dX12_layWays_94 : decode cX12_layWays 94 = .ok (.iconst 0, 1) := by decide +kernel
theorem dX12_layWays_95 : decode cX12_layWays 95 = .ok (.istore_n 3, 1) := by decide +kernel
theorem dX12_layWays_96 : decode cX12_layWays 96 = .ok (.iload_n 3, 1) := by decide +kernel
theorem dX12_layWays_97 : decode cX12_layWays 97 = .ok (.aload_n 0, 1) := by decide +kernel
theorem dX12_layWays_98 : decode cX12_layWays 98 = .ok (.getfield 422, 3) := by decide +kernel
theorem dX12_layWays_101 : decode cX12_layWays 101 = .ok (.if_icmp .ge 53, 3) := by decide +kernel
theorem dX12_layWays_104 : decode cX12_layWays 104 = .ok (.iload_n 2, 1) := by decide +kernel
theorem dX12_layWays_105 : decode cX12_layWays 105 = .ok (.iload_n 3, 1) := by decide +kernel
theorem dX12_layWays_106 : decode cX12_layWays 106 = .ok (.invokestatic 255, 3) := by decide +kernel
theorem dX12_layWays_109 : decode cX12_layWays 109 = .ok (.ifCond .eq 39, 3) := by decide +kernel
theorem dX12_layWays_112 : decode cX12_layWays 112 = .ok (.aload_n 0, 1) := by decide +kernel
theorem dX12_layWays_113 : decode cX12_layWays 113 = .ok (.iload_n 3, 1) := by decide +kernel
theorem dX12_layWays_114 : decode cX12_layWays 114 = .ok (.iload_n 2, 1) := by decide +kernel
theorem dX12_layWays_115 : decode cX12_layWays 115 = .ok (.iconst 1, 1) := by decide +kernel
theorem dX12_layWays_116 : decode cX12_layWays 116 = .ok (.iload_n 3, 1) := by decide +kernel
theorem dX12_layWays_117 : decode cX12_layWays 117 = .ok (.ishl, 1) := by decide +kernel
theorem dX12_layWays_118 : decode cX12_layWays 118 = .ok (.iconst (-1), 1) := by decide +kernel
theorem dX12_layWays_119 : decode cX12_layWays 119 = .ok (.ixor, 1) := by decide +kernel
theorem dX12_layWays_120 : decode cX12_layWays 120 = .ok (.iand, 1) := by decide +kernel
theorem dX12_layWays_121 : decode cX12_layWays 121 = .ok (.invokevirtual 428, 3) := by decide +kernel
theorem dX12_layWays_124 : decode cX12_layWays 124 = .ok (.ifCond .eq 24, 3) := by decide +kernel
theorem dX12_layWays_127 : decode cX12_layWays 127 = .ok (.aload_n 0, 1) := by decide +kernel
theorem dX12_layWays_128 : decode cX12_layWays 128 = .ok (.getfield 99, 3) := by decide +kernel
theorem dX12_layWays_131 : decode cX12_layWays 131 = .ok (.iload_n 2, 1) := by decide +kernel
theorem dX12_layWays_132 : decode cX12_layWays 132 = .ok (.dup2, 1) := by decide +kernel
theorem dX12_layWays_133 : decode cX12_layWays 133 = .ok (.laload, 1) := by decide +kernel
theorem dX12_layWays_134 : decode cX12_layWays 134 = .ok (.aload_n 0, 1) := by decide +kernel
theorem dX12_layWays_135 : decode cX12_layWays 135 = .ok (.getfield 99, 3) := by decide +kernel
theorem dX12_layWays_138 : decode cX12_layWays 138 = .ok (.iload_n 2, 1) := by decide +kernel
theorem dX12_layWays_139 : decode cX12_layWays 139 = .ok (.iconst 1, 1) := by decide +kernel
theorem dX12_layWays_140 : decode cX12_layWays 140 = .ok (.iload_n 3, 1) := by decide +kernel
theorem dX12_layWays_141 : decode cX12_layWays 141 = .ok (.ishl, 1) := by decide +kernel
theorem dX12_layWays_142 : decode cX12_layWays 142 = .ok (.iconst (-1), 1) := by decide +kernel
theorem dX12_layWays_143 : decode cX12_layWays 143 = .ok (.ixor, 1) := by decide +kernel
theorem dX12_layWays_144 : decode cX12_layWays 144 = .ok (.iand, 1) := by decide +kernel
theorem dX12_layWays_145 : decode cX12_layWays 145 = .ok (.laload, 1) := by decide +kernel
theorem dX12_layWays_146 : decode cX12_layWays 146 = .ok (.ladd, 1) := by decide +kernel
theorem dX12_layWays_147 : decode cX12_layWays 147 = .ok (.lastore, 1) := by decide +kernel
theorem dX12_layWays_148 : decode cX12_layWays 148 = .ok (.iinc 3 1, 3) := by decide +kernel
theorem dX12_layWays_151 : decode cX12_layWays 151 = .ok (.goto (-55), 3) := by decide +kernel
theorem dX12_layWays_154 : decode cX12_layWays 154 = .ok (.iinc 2 1, 3) := by decide +kernel
theorem dX12_layWays_157 : decode cX12_layWays 157 = .ok (.goto (-88), 3) := by decide +kernel
theorem dX12_layWays_160 : decode cX12_layWays 160 = .ok (.iconst 1, 1) := by decide +kernel
theorem dX12_layWays_161 : decode cX12_layWays 161 = .ok (.ireturn, 1) := by decide +kernel
theorem dX12_came_0 : decode cX12_came 0 = .ok (.aload_n 0, 1) := by decide +kernel
theorem dX12_came_1 : decode cX12_came 1 = .ok (.iconst 0, 1) := by decide +kernel
theorem dX12_came_2 : decode cX12_came 2 = .ok (.putfield 111, 3) := by decide +kernel
theorem dX12_came_5 : decode cX12_came 5 = .ok (.aload_n 0, 1) := by decide +kernel
theorem dX12_came_6 : decode cX12_came 6 = .ok (.invokevirtual 431, 3) := by decide +kernel
theorem dX12_came_9 : decode cX12_came 9 = .ok (.ifCond .eq 19, 3) := by decide +kernel
theorem dX12_came_12 : decode cX12_came 12 = .ok (.aload_n 0, 1) := by decide +kernel
theorem dX12_came_13 : decode cX12_came 13 = .ok (.getfield 99, 3) := by decide +kernel
theorem dX12_came_16 : decode cX12_came 16 = .ok (.iconst 1, 1) := by decide +kernel
theorem dX12_came_17 : decode cX12_came 17 = .ok (.aload_n 0, 1) := by decide +kernel
theorem dX12_came_18 : decode cX12_came 18 = .ok (.getfield 422, 3) := by decide +kernel
theorem dX12_came_21 : decode cX12_came 21 = .ok (.ishl, 1) := by decide +kernel
theorem dX12_came_22 : decode cX12_came 22 = .ok (.iconst 1, 1) := by decide +kernel
theorem dX12_came_23 : decode cX12_came 23 = .ok (.isub, 1) := by decide +kernel
theorem dX12_came_24 : decode cX12_came 24 = .ok (.laload, 1) := by decide +kernel
theorem dX12_came_25 : decode cX12_came 25 = .ok (.goto 6, 3) := by decide +kernel
theorem dX12_came_28 : decode cX12_came 28 = .ok (.ldc2_w 386, 3) := by decide +kernel
theorem dX12_came_31 : decode cX12_came 31 = .ok (.lreturn, 1) := by decide +kernel
theorem dX12_last_0 : decode cX12_last 0 = .ok (.aload_n 0, 1) := by decide +kernel
theorem dX12_last_1 : decode cX12_last 1 = .ok (.iconst 0, 1) := by decide +kernel
theorem dX12_last_2 : decode cX12_last 2 = .ok (.putfield 111, 3) := by decide +kernel
theorem dX12_last_5 : decode cX12_last 5 = .ok (.aload_n 0, 1) := by decide +kernel
theorem dX12_last_6 : decode cX12_last 6 = .ok (.invokevirtual 431, 3) := by decide +kernel
theorem dX12_last_9 : decode cX12_last 9 = .ok (.ifCond .ne 5, 3) := by decide +kernel
theorem dX12_last_12 : decode cX12_last 12 = .ok (.iconst (-1), 1) := by decide +kernel
theorem dX12_last_13 : decode cX12_last 13 = .ok (.ireturn, 1) := by decide +kernel
theorem dX12_last_14 : decode cX12_last 14 = .ok (.iconst 0, 1) := by decide +kernel
theorem dX12_last_15 : decode cX12_last 15 = .ok (.istore_n 1, 1) := by decide +kernel
theorem dX12_last_16 : decode cX12_last 16 = .ok (.iconst 1, 1) := by decide +kernel
theorem dX12_last_17 : decode cX12_last 17 = .ok (.aload_n 0, 1) := by decide +kernel
theorem dX12_last_18 : decode cX12_last 18 = .ok (.getfield 422, 3) := by decide +kernel
theorem dX12_last_21 : decode cX12_last 21 = .ok (.ishl, 1) := by decide +kernel
theorem dX12_last_22 : decode cX12_last 22 = .ok (.iconst 1, 1) := by decide +kernel
theorem dX12_last_23 : decode cX12_last 23 = .ok (.isub, 1) := by decide +kernel
theorem dX12_last_24 : decode cX12_last 24 = .ok (.istore_n 2, 1) := by decide +kernel
theorem dX12_last_25 : decode cX12_last 25 = .ok (.iconst 0, 1) := by decide +kernel
theorem dX12_last_26 : decode cX12_last 26 = .ok (.istore_n 3, 1) := by decide +kernel
theorem dX12_last_27 : decode cX12_last 27 = .ok (.iload_n 3, 1) := by decide +kernel
theorem dX12_last_28 : decode cX12_last 28 = .ok (.aload_n 0, 1) := by decide +kernel
theorem dX12_last_29 : decode cX12_last 29 = .ok (.getfield 422, 3) := by decide +kernel
theorem dX12_last_32 : decode cX12_last 32 = .ok (.if_icmp .ge 56, 3) := by decide +kernel
theorem dX12_last_35 : decode cX12_last 35 = .ok (.iload_n 1, 1) := by decide +kernel
theorem dX12_last_36 : decode cX12_last 36 = .ok (.aload_n 0, 1) := by decide +kernel
theorem dX12_last_37 : decode cX12_last 37 = .ok (.iload_n 3, 1) := by decide +kernel
theorem dX12_last_38 : decode cX12_last 38 = .ok (.iload_n 2, 1) := by decide +kernel
theorem dX12_last_39 : decode cX12_last 39 = .ok (.iconst 1, 1) := by decide +kernel
theorem dX12_last_40 : decode cX12_last 40 = .ok (.iload_n 3, 1) := by decide +kernel
theorem dX12_last_41 : decode cX12_last 41 = .ok (.ishl, 1) := by decide +kernel
theorem dX12_last_42 : decode cX12_last 42 = .ok (.iconst (-1), 1) := by decide +kernel
theorem dX12_last_43 : decode cX12_last 43 = .ok (.ixor, 1) := by decide +kernel
theorem dX12_last_44 : decode cX12_last 44 = .ok (.iand, 1) := by decide +kernel
theorem dX12_last_45 : decode cX12_last 45 = .ok (.invokevirtual 428, 3) := by decide +kernel
theorem dX12_last_48 : decode cX12_last 48 = .ok (.ifCond .eq 31, 3) := by decide +kernel
theorem dX12_last_51 : decode cX12_last 51 = .ok (.aload_n 0, 1) := by decide +kernel
theorem dX12_last_52 : decode cX12_last 52 = .ok (.getfield 99, 3) := by decide +kernel
theorem dX12_last_55 : decode cX12_last 55 = .ok (.iload_n 2, 1) := by decide +kernel
theorem dX12_last_56 : decode cX12_last 56 = .ok (.iconst 1, 1) := by decide +kernel
theorem dX12_last_57 : decode cX12_last 57 = .ok (.iload_n 3, 1) := by decide +kernel
theorem dX12_last_58 : decode cX12_last 58 = .ok (.ishl, 1) := by decide +kernel
theorem dX12_last_59 : decode cX12_last 59 = .ok (.iconst (-1), 1) := by decide +kernel
theorem dX12_last_60 : decode cX12_last 60 = .ok (.ixor, 1) := by decide +kernel
theorem dX12_last_61 : decode cX12_last 61 = .ok (.iand, 1) := by decide +kernel
theorem dX12_last_62 : decode cX12_last 62 = .ok (.laload, 1) := by decide +kernel
theorem dX12_last_63 : decode cX12_last 63 = .ok (.lconst 0, 1) := by decide +kernel
theorem dX12_last_64 : decode cX12_last 64 = .ok (.lcmp, 1) := by decide +kernel
theorem dX12_last_65 : decode cX12_last 65 = .ok (.ifCond .le 14, 3) := by decide +kernel
theorem dX12_last_68 : decode cX12_last 68 = .ok (.iconst 1, 1) := by decide +kernel
theorem dX12_last_69 : decode cX12_last 69 = .ok (.aload_n 0, 1) := by decide +kernel
theorem dX12_last_70 : decode cX12_last 70 = .ok (.getfield 96, 3) := by decide +kernel
theorem dX12_last_73 : decode cX12_last 73 = .ok (.iload_n 3, 1) := by decide +kernel
theorem dX12_last_74 : decode cX12_last 74 = .ok (.iaload, 1) := by decide +kernel
theorem dX12_last_75 : decode cX12_last 75 = .ok (.ishl, 1) := by decide +kernel
theorem dX12_last_76 : decode cX12_last 76 = .ok (.goto 4, 3) := by decide +kernel
theorem dX12_last_79 : decode cX12_last 79 = .ok (.iconst 0, 1) := by decide +kernel
theorem dX12_last_80 : decode cX12_last 80 = .ok (.ior, 1) := by decide +kernel
theorem dX12_last_81 : decode cX12_last 81 = .ok (.istore_n 1, 1) := by decide +kernel
theorem dX12_last_82 : decode cX12_last 82 = .ok (.iinc 3 1, 3) := by decide +kernel
theorem dX12_last_85 : decode cX12_last 85 = .ok (.goto (-58), 3) := by decide +kernel
theorem dX12_last_88 : decode cX12_last 88 = .ok (.iload_n 1, 1) := by decide +kernel
theorem dX12_last_89 : decode cX12_last 89 = .ok (.ireturn, 1) := by decide +kernel
theorem dX12_isSeek_0 : decode cX12_isSeek 0 = .ok (.iload_n 1, 1) := by decide +kernel
theorem dX12_isSeek_1 : decode cX12_isSeek 1 = .ok (.i2l, 1) := by decide +kernel
theorem dX12_isSeek_2 : decode cX12_isSeek 2 = .ok (.lconst 1, 1) := by decide +kernel
theorem dX12_isSeek_3 : decode cX12_isSeek 3 = .ok (.ldc2_w 434, 3) := by decide +kernel
theorem dX12_isSeek_6 : decode cX12_isSeek 6 = .ok (.invokestatic 232, 3) := by decide +kernel
theorem dX12_isSeek_9 : decode cX12_isSeek 9 = .ok (.ifCond .eq 57, 3) := by decide +kernel
theorem dX12_isSeek_12 : decode cX12_isSeek 12 = .ok (.iload_n 2, 1) := by decide +kernel
theorem dX12_isSeek_13 : decode cX12_isSeek 13 = .ok (.i2l, 1) := by decide +kernel
theorem dX12_isSeek_14 : decode cX12_isSeek 14 = .ok (.lconst 0, 1) := by decide +kernel
theorem dX12_isSeek_15 : decode cX12_isSeek 15 = .ok (.ldc2_w 310, 3) := by decide +kernel
theorem dX12_isSeek_18 : decode cX12_isSeek 18 = .ok (.invokestatic 232, 3) := by decide +kernel
theorem dX12_isSeek_21 : decode cX12_isSeek 21 = .ok (.ifCond .eq 45, 3) := by decide +kernel
theorem dX12_isSeek_24 : decode cX12_isSeek 24 = .ok (.iload_n 3, 1) := by decide +kernel
theorem dX12_isSeek_25 : decode cX12_isSeek 25 = .ok (.i2l, 1) := by decide +kernel
theorem dX12_isSeek_26 : decode cX12_isSeek 26 = .ok (.lconst 0, 1) := by decide +kernel
theorem dX12_isSeek_27 : decode cX12_isSeek 27 = .ok (.ldc2_w 434, 3) := by decide +kernel
theorem dX12_isSeek_30 : decode cX12_isSeek 30 = .ok (.invokestatic 232, 3) := by decide +kernel
theorem dX12_isSeek_33 : decode cX12_isSeek 33 = .ok (.ifCond .eq 33, 3) := by decide +kernel
theorem dX12_isSeek_36 : decode cX12_isSeek 36 = .ok (.iload 4, 2) := by decide +kernel
theorem dX12_isSeek_38 : decode cX12_isSeek 38 = .ok (.i2l, 1) := by decide +kernel
theorem dX12_isSeek_39 : decode cX12_isSeek 39 = .ok (.lconst 0, 1) := by decide +kernel
theorem dX12_isSeek_40 : decode cX12_isSeek 40 = .ok (.ldc2_w 436, 3) := by decide +kernel
theorem dX12_isSeek_43 : decode cX12_isSeek 43 = .ok (.invokestatic 232, 3) := by decide +kernel
theorem dX12_isSeek_46 : decode cX12_isSeek 46 = .ok (.ifCond .eq 20, 3) := by decide +kernel
theorem dX12_isSeek_49 : decode cX12_isSeek 49 = .ok (.iload 5, 2) := by decide +kernel
theorem dX12_isSeek_51 : decode cX12_isSeek 51 = .ok (.i2l, 1) := by decide +kernel
theorem dX12_isSeek_52 : decode cX12_isSeek 52 = .ok (.lconst 0, 1) := by decide +kernel
theorem dX12_isSeek_53 : decode cX12_isSeek 53 = .ok (.ldc2_w 438, 3) := by decide +kernel
theorem dX12_isSeek_56 : decode cX12_isSeek 56 = .ok (.invokestatic 232, 3) := by decide +kernel
theorem dX12_isSeek_59 : decode cX12_isSeek 59 = .ok (.ifCond .eq 7, 3) := by decide +kernel
theorem dX12_isSeek_62 : decode cX12_isSeek 62 = .ok (.iconst 1, 1) := by decide +kernel
theorem dX12_isSeek_63 : decode cX12_isSeek 63 = .ok (.goto 4, 3) := by decide +kernel
theorem dX12_isSeek_66 : decode cX12_isSeek 66 = .ok (.iconst 0, 1) := by decide +kernel
theorem dX12_isSeek_67 : decode cX12_isSeek 67 = .ok (.ireturn, 1) := by decide +kernel
theorem dX12_costOf_0 : decode cX12_costOf 0 = .ok (.sipush 1000, 3) := by decide +kernel
theorem dX12_costOf_3 : decode cX12_costOf 3 = .ok (.iload 5, 2) := by decide +kernel
theorem dX12_costOf_5 : decode cX12_costOf 5 = .ok (.imul, 1) := by decide +kernel
theorem dX12_costOf_6 : decode cX12_costOf 6 = .ok (.istore 6, 2) := by decide +kernel
theorem dX12_costOf_8 : decode cX12_costOf 8 = .ok (.aload_n 0, 1) := by decide +kernel
theorem dX12_costOf_9 : decode cX12_costOf 9 = .ok (.iconst (-1), 1) := by decide +kernel
theorem dX12_costOf_10 : decode cX12_costOf 10 = .ok (.putfield 440, 3) := by decide +kernel
theorem dX12_costOf_13 : decode cX12_costOf 13 = .ok (.iload_n 1, 1) := by decide +kernel
theorem dX12_costOf_14 : decode cX12_costOf 14 = .ok (.istore 7, 2) := by decide +kernel
theorem dX12_costOf_16 : decode cX12_costOf 16 = .ok (.iload 7, 2) := by decide +kernel
theorem dX12_costOf_18 : decode cX12_costOf 18 = .ok (.ifCond .le 67, 3) := by decide +kernel
theorem dX12_costOf_21 : decode cX12_costOf 21 = .ok (.sipush 1000, 3) := by decide +kernel
theorem dX12_costOf_24 : decode cX12_costOf 24 = .ok (.iload 4, 2) := by decide +kernel
theorem dX12_costOf_26 : decode cX12_costOf 26 = .ok (.imul, 1) := by decide +kernel
theorem dX12_costOf_27 : decode cX12_costOf 27 = .ok (.iload 7, 2) := by decide +kernel
theorem dX12_costOf_29 : decode cX12_costOf 29 = .ok (.iload_n 3, 1) := by decide +kernel
theorem dX12_costOf_30 : decode cX12_costOf 30 = .ok (.isub, 1) := by decide +kernel
theorem dX12_costOf_31 : decode cX12_costOf 31 = .ok (.invokestatic 416, 3) := by decide +kernel
theorem dX12_costOf_34 : decode cX12_costOf 34 = .ok (.imul, 1) := by decide +kernel
theorem dX12_costOf_35 : decode cX12_costOf 35 = .ok (.istore 8, 2) := by decide +kernel
theorem dX12_costOf_37 : decode cX12_costOf 37 = .ok (.iload 8, 2) := by decide +kernel
theorem dX12_costOf_39 : decode cX12_costOf 39 = .ok (.iload 6, 2) := by decide +kernel
theorem dX12_costOf_41 : decode cX12_costOf 41 = .ok (.if_icmp .gt 9, 3) := by decide +kernel
theorem dX12_costOf_44 : decode cX12_costOf 44 = .ok (.aload_n 0, 1) := by decide +kernel
theorem dX12_costOf_45 : decode cX12_costOf 45 = .ok (.iload 7, 2) := by decide +kernel
theorem dX12_costOf_47 : decode cX12_costOf 47 = .ok (.putfield 440, 3) := by decide +kernel
theorem dX12_costOf_50 : decode cX12_costOf 50 = .ok (.iload_n 2, 1) := by decide +kernel
theorem dX12_costOf_51 : decode cX12_costOf 51 = .ok (.i2l, 1) := by decide +kernel
theorem dX12_costOf_52 : decode cX12_costOf 52 = .ok (.iload 8, 2) := by decide +kernel
theorem dX12_costOf_54 : decode cX12_costOf 54 = .ok (.iload 6, 2) := by decide +kernel
theorem dX12_costOf_56 : decode cX12_costOf 56 = .ok (.invokestatic 327, 3) := by decide +kernel
theorem dX12_costOf_59 : decode cX12_costOf 59 = .ok (.i2l, 1) := by decide +kernel
theorem dX12_costOf_60 : decode cX12_costOf 60 = .ok (.lmul, 1) := by decide +kernel
theorem dX12_costOf_61 : decode cX12_costOf 61 = .ok (.ldc2_w 310, 3) := by decide +kernel
theorem dX12_costOf_64 : decode cX12_costOf 64 = .ok (.iload_n 2, 1) := by decide +kernel
theorem dX12_costOf_65 : decode cX12_costOf 65 = .ok (.i2l, 1) := by decide +kernel
theorem dX12_costOf_66 : decode cX12_costOf 66 = .ok (.lsub, 1) := by decide +kernel
theorem dX12_costOf_67 : decode cX12_costOf 67 = .ok (.iload 6, 2) := by decide +kernel
theorem dX12_costOf_69 : decode cX12_costOf 69 = .ok (.i2l, 1) := by decide +kernel
theorem dX12_costOf_70 : decode cX12_costOf 70 = .ok (.lmul, 1) := by decide +kernel
theorem dX12_costOf_71 : decode cX12_costOf 71 = .ok (.ladd, 1) := by decide +kernel
theorem dX12_costOf_72 : decode cX12_costOf 72 = .ok (.ldc2_w 310, 3) := by decide +kernel
theorem dX12_costOf_75 : decode cX12_costOf 75 = .ok (.ldiv, 1) := by decide +kernel
theorem dX12_costOf_76 : decode cX12_costOf 76 = .ok (.l2i, 1) := by decide +kernel
theorem dX12_costOf_77 : decode cX12_costOf 77 = .ok (.istore 6, 2) := by decide +kernel
theorem dX12_costOf_79 : decode cX12_costOf 79 = .ok (.iinc 7 (-1), 3) := by decide +kernel
theorem dX12_costOf_82 : decode cX12_costOf 82 = .ok (.goto (-66), 3) := by decide +kernel
theorem dX12_costOf_85 : decode cX12_costOf 85 = .ok (.iload 6, 2) := by decide +kernel
theorem dX12_costOf_87 : decode cX12_costOf 87 = .ok (.ireturn, 1) := by decide +kernel
theorem dX12_seek_0 : decode cX12_seek 0 = .ok (.aload_n 0, 1) := by decide +kernel
theorem dX12_seek_1 : decode cX12_seek 1 = .ok (.iconst 0, 1) := by decide +kernel
theorem dX12_seek_2 : decode cX12_seek 2 = .ok (.putfield 111, 3) := by decide +kernel
theorem dX12_seek_5 : decode cX12_seek 5 = .ok (.aload_n 0, 1) := by decide +kernel
theorem dX12_seek_6 : decode cX12_seek 6 = .ok (.iload_n 1, 1) := by decide +kernel
theorem dX12_seek_7 : decode cX12_seek 7 = .ok (.iload_n 2, 1) := by decide +kernel
theorem dX12_seek_8 : decode cX12_seek 8 = .ok (.iload_n 3, 1) := by decide +kernel
theorem dX12_seek_9 : decode cX12_seek 9 = .ok (.iload 4, 2) := by decide +kernel
theorem dX12_seek_11 : decode cX12_seek 11 = .ok (.iload 5, 2) := by decide +kernel
theorem dX12_seek_13 : decode cX12_seek 13 = .ok (.invokevirtual 442, 3) := by decide +kernel
theorem dX12_seek_16 : decode cX12_seek 16 = .ok (.ifCond .eq 17, 3) := by decide +kernel
theorem dX12_seek_19 : decode cX12_seek 19 = .ok (.aload_n 0, 1) := by decide +kernel
theorem dX12_seek_20 : decode cX12_seek 20 = .ok (.iload_n 1, 1) := by decide +kernel
theorem dX12_seek_21 : decode cX12_seek 21 = .ok (.iload_n 2, 1) := by decide +kernel
theorem dX12_seek_22 : decode cX12_seek 22 = .ok (.iload_n 3, 1) := by decide +kernel
theorem dX12_seek_23 : decode cX12_seek 23 = .ok (.iload 4, 2) := by decide +kernel
theorem dX12_seek_25 : decode cX12_seek 25 = .ok (.iload 5, 2) := by decide +kernel
theorem dX12_seek_27 : decode cX12_seek 27 = .ok (.invokevirtual 446, 3) := by decide +kernel
theorem dX12_seek_30 : decode cX12_seek 30 = .ok (.goto 4, 3) := by decide +kernel
theorem dX12_seek_33 : decode cX12_seek 33 = .ok (.iconst (-1), 1) := by decide +kernel
theorem dX12_seek_34 : decode cX12_seek 34 = .ok (.ireturn, 1) := by decide +kernel
theorem dX12_take_0 : decode cX12_take 0 = .ok (.aload_n 0, 1) := by decide +kernel
theorem dX12_take_1 : decode cX12_take 1 = .ok (.iconst 0, 1) := by decide +kernel
theorem dX12_take_2 : decode cX12_take 2 = .ok (.putfield 111, 3) := by decide +kernel
theorem dX12_take_5 : decode cX12_take 5 = .ok (.aload_n 0, 1) := by decide +kernel
theorem dX12_take_6 : decode cX12_take 6 = .ok (.iload_n 1, 1) := by decide +kernel
theorem dX12_take_7 : decode cX12_take 7 = .ok (.iload_n 2, 1) := by decide +kernel
theorem dX12_take_8 : decode cX12_take 8 = .ok (.iload_n 3, 1) := by decide +kernel
theorem dX12_take_9 : decode cX12_take 9 = .ok (.iload 4, 2) := by decide +kernel
theorem dX12_take_11 : decode cX12_take 11 = .ok (.iload 5, 2) := by decide +kernel
theorem dX12_take_13 : decode cX12_take 13 = .ok (.invokevirtual 442, 3) := by decide +kernel
theorem dX12_take_16 : decode cX12_take 16 = .ok (.ifCond .ne 5, 3) := by decide +kernel
theorem dX12_take_19 : decode cX12_take 19 = .ok (.iconst (-1), 1) := by decide +kernel
theorem dX12_take_20 : decode cX12_take 20 = .ok (.ireturn, 1) := by decide +kernel
theorem dX12_take_21 : decode cX12_take 21 = .ok (.aload_n 0, 1) := by decide +kernel
theorem dX12_take_22 : decode cX12_take 22 = .ok (.iload_n 1, 1) := by decide +kernel
theorem dX12_take_23 : decode cX12_take 23 = .ok (.iload_n 2, 1) := by decide +kernel
theorem dX12_take_24 : decode cX12_take 24 = .ok (.iload_n 3, 1) := by decide +kernel
theorem dX12_take_25 : decode cX12_take 25 = .ok (.iload 4, 2) := by decide +kernel
theorem dX12_take_27 : decode cX12_take 27 = .ok (.iload 5, 2) := by decide +kernel
theorem dX12_take_29 : decode cX12_take 29 = .ok (.invokevirtual 446, 3) := by decide +kernel
theorem dX12_take_32 : decode cX12_take 32 = .ok (.istore 6, 2) := by decide +kernel
theorem dX12_take_34 : decode cX12_take 34 = .ok (.iload 6, 2) := by decide +kernel
theorem dX12_take_36 : decode cX12_take 36 = .ok (.ifCond .ge 7, 3) := by decide +kernel
theorem dX12_take_39 : decode cX12_take 39 = .ok (.iconst (-1), 1) := by decide +kernel
theorem dX12_take_40 : decode cX12_take 40 = .ok (.goto 7, 3) := by decide +kernel
theorem dX12_take_43 : decode cX12_take 43 = .ok (.aload_n 0, 1) := by decide +kernel
theorem dX12_take_44 : decode cX12_take 44 = .ok (.getfield 440, 3) := by decide +kernel
theorem dX12_take_47 : decode cX12_take 47 = .ok (.ireturn, 1) := by decide +kernel
theorem dX12_gaps_0 : decode cX12_gaps 0 = .ok (.aload_n 0, 1) := by decide +kernel
theorem dX12_gaps_1 : decode cX12_gaps 1 = .ok (.iconst 0, 1) := by decide +kernel
theorem dX12_gaps_2 : decode cX12_gaps 2 = .ok (.putfield 111, 3) := by decide +kernel
theorem dX12_gaps_5 : decode cX12_gaps 5 = .ok (.aload_n 0, 1) := by decide +kernel
theorem dX12_gaps_6 : decode cX12_gaps 6 = .ok (.getfield 284, 3) := by decide +kernel
theorem dX12_gaps_9 : decode cX12_gaps 9 = .ok (.ifCond .eq 15, 3) := by decide +kernel
theorem dX12_gaps_12 : decode cX12_gaps 12 = .ok (.iload_n 1, 1) := by decide +kernel
theorem dX12_gaps_13 : decode cX12_gaps 13 = .ok (.i2l, 1) := by decide +kernel
theorem dX12_gaps_14 : decode cX12_gaps 14 = .ok (.lconst 0, 1) := by decide +kernel
theorem dX12_gaps_15 : decode cX12_gaps 15 = .ok (.ldc2_w 450, 3) := by decide +kernel
theorem dX12_gaps_18 : decode cX12_gaps 18 = .ok (.invokestatic 232, 3) := by decide +kernel
theorem dX12_gaps_21 : decode cX12_gaps 21 = .ok (.ifCond .ne 5, 3) := by decide +kernel
theorem dX12_gaps_24 : decode cX12_gaps 24 = .ok (.iconst (-1), 1) := by decide +kernel
theorem dX12_gaps_25 : decode cX12_gaps 25 = .ok (.ireturn, 1) := by decide +kernel
theorem dX12_gaps_26 : decode cX12_gaps 26 = .ok (.bipush 20, 2) := by decide +kernel
theorem dX12_gaps_28 : decode cX12_gaps 28 = .ok (.istore_n 2, 1) := by decide +kernel
theorem dX12_gaps_29 : decode cX12_gaps 29 = .ok (.iconst 0, 1) := by decide +kernel
theorem dX12_gaps_30 : decode cX12_gaps 30 = .ok (.istore_n 3, 1) := by decide +kernel
theorem dX12_gaps_31 : decode cX12_gaps 31 = .ok (.iload_n 3, 1) := by decide +kernel
theorem dX12_gaps_32 : decode cX12_gaps 32 = .ok (.aload_n 0, 1) := by decide +kernel
theorem dX12_gaps_33 : decode cX12_gaps 33 = .ok (.getfield 284, 3) := by decide +kernel
theorem dX12_gaps_36 : decode cX12_gaps 36 = .ok (.if_icmp .ge 19, 3) := by decide +kernel
theorem dX12_gaps_39 : decode cX12_gaps 39 = .ok (.iload_n 2, 1) := by decide +kernel
theorem dX12_gaps_40 : decode cX12_gaps 40 = .ok (.aload_n 0, 1) := by decide +kernel
theorem dX12_gaps_41 : decode cX12_gaps 41 = .ok (.iload_n 3, 1) := by decide +kernel
theorem dX12_gaps_42 : decode cX12_gaps 42 = .ok (.invokevirtual 312, 3) := by decide +kernel
theorem dX12_gaps_45 : decode cX12_gaps 45 = .ok (.invokestatic 327, 3) := by decide +kernel
theorem dX12_gaps_48 : decode cX12_gaps 48 = .ok (.istore_n 2, 1) := by decide +kernel
theorem dX12_gaps_49 : decode cX12_gaps 49 = .ok (.iinc 3 1, 3) := by decide +kernel
theorem dX12_gaps_52 : decode cX12_gaps 52 = .ok (.goto (-21), 3) := by decide +kernel
theorem dX12_gaps_55 : decode cX12_gaps 55 = .ok (.iconst 0, 1) := by decide +kernel
theorem dX12_gaps_56 : decode cX12_gaps 56 = .ok (.istore_n 3, 1) := by decide +kernel
theorem dX12_gaps_57 : decode cX12_gaps 57 = .ok (.iconst 0, 1) := by decide +kernel
theorem dX12_gaps_58 : decode cX12_gaps 58 = .ok (.istore 4, 2) := by decide +kernel
theorem dX12_gaps_60 : decode cX12_gaps 60 = .ok (.iconst 0, 1) := by decide +kernel
theorem dX12_gaps_61 : decode cX12_gaps 61 = .ok (.istore 5, 2) := by decide +kernel
theorem dX12_gaps_63 : decode cX12_gaps 63 = .ok (.iconst 0, 1) := by decide +kernel
theorem dX12_gaps_64 : decode cX12_gaps 64 = .ok (.istore 6, 2) := by decide +kernel
theorem dX12_gaps_66 : decode cX12_gaps 66 = .ok (.iconst 0, 1) := by decide +kernel
theorem dX12_gaps_67 : decode cX12_gaps 67 = .ok (.istore 7, 2) := by decide +kernel
theorem dX12_gaps_69 : decode cX12_gaps 69 = .ok (.iload 7, 2) := by decide +kernel
theorem dX12_gaps_71 : decode cX12_gaps 71 = .ok (.aload_n 0, 1) := by decide +kernel
theorem dX12_gaps_72 : decode cX12_gaps 72 = .ok (.getfield 290, 3) := by decide +kernel
theorem dX12_gaps_75 : decode cX12_gaps 75 = .ok (.if_icmp .ge 63, 3) := by decide +kernel
theorem dX12_gaps_78 : decode cX12_gaps 78 = .ok (.aload_n 0, 1) := by decide +kernel
theorem dX12_gaps_79 : decode cX12_gaps 79 = .ok (.iload 7, 2) := by decide +kernel
theorem dX12_gaps_81 : decode cX12_gaps 81 = .ok (.invokevirtual 379, 3) := by decide +kernel
theorem dX12_gaps_84 : decode cX12_gaps 84 = .ok (.istore 8, 2) := by decide +kernel
theorem dX12_gaps_86 : decode cX12_gaps 86 = .ok (.iload_n 3, 1) := by decide +kernel
theorem dX12_gaps_87 : decode cX12_gaps 87 = .ok (.iload 8, 2) := by decide +kernel
theorem dX12_gaps_89 : decode cX12_gaps 89 = .ok (.invokestatic 414, 3) := by decide +kernel
theorem dX12_gaps_92 : decode cX12_gaps 92 = .ok (.istore_n 3, 1) := by decide +kernel
theorem dX12_gaps_93 : decode cX12_gaps 93 = .ok (.iload 4, 2) := by decide +kernel
theorem dX12_gaps_95 : decode cX12_gaps 95 = .ok (.iload 8, 2) := by decide +kernel
theorem dX12_gaps_97 : decode cX12_gaps 97 = .ok (.ifCond .le 7, 3) := by decide +kernel
theorem dX12_gaps_100 : decode cX12_gaps 100 = .ok (.iconst 1, 1) := by decide +kernel
theorem dX12_gaps_101 : decode cX12_gaps 101 = .ok (.goto 4, 3) := by decide +kernel
theorem dX12_gaps_104 : decode cX12_gaps 104 = .ok (.iconst 0, 1) := by decide +kernel
theorem dX12_gaps_105 : decode cX12_gaps 105 = .ok (.iadd, 1) := by decide +kernel
theorem dX12_gaps_106 : decode cX12_gaps 106 = .ok (.istore 4, 2) := by decide +kernel
theorem dX12_gaps_108 : decode cX12_gaps 108 = .ok (.iload 5, 2) := by decide +kernel
theorem dX12_gaps_110 : decode cX12_gaps 110 = .ok (.iload 8, 2) := by decide +kernel
theorem dX12_gaps_112 : decode cX12_gaps 112 = .ok (.iadd, 1) := by decide +kernel
theorem dX12_gaps_113 : decode cX12_gaps 113 = .ok (.istore 5, 2) := by decide +kernel
theorem dX12_gaps_115 : decode cX12_gaps 115 = .ok (.iload 6, 2) := by decide +kernel
theorem dX12_gaps_117 : decode cX12_gaps 117 = .ok (.iload 8, 2) := by decide +kernel
theorem dX12_gaps_119 : decode cX12_gaps 119 = .ok (.iload_n 2, 1) := by decide +kernel
theorem dX12_gaps_120 : decode cX12_gaps 120 = .ok (.if_icmp .ge 8, 3) := by decide +kernel
theorem dX12_gaps_123 : decode cX12_gaps 123 = .ok (.iload 8, 2) := by decide +kernel
theorem dX12_gaps_125 : decode cX12_gaps 125 = .ok (.goto 4, 3) := by decide +kernel
theorem dX12_gaps_128 : decode cX12_gaps 128 = .ok (.iconst 0, 1) := by decide +kernel
theorem dX12_gaps_129 : decode cX12_gaps 129 = .ok (.iadd, 1) := by decide +kernel
theorem dX12_gaps_130 : decode cX12_gaps 130 = .ok (.istore 6, 2) := by decide +kernel
theorem dX12_gaps_132 : decode cX12_gaps 132 = .ok (.iinc 7 1, 3) := by decide +kernel
theorem dX12_gaps_135 : decode cX12_gaps 135 = .ok (.goto (-66), 3) := by decide +kernel
theorem dX12_gaps_138 : decode cX12_gaps 138 = .ok (.iload_n 1, 1) := by decide +kernel
theorem dX12_gaps_139 : decode cX12_gaps 139 = .ok (.ifCond .ne 7, 3) := by decide +kernel
theorem dX12_gaps_142 : decode cX12_gaps 142 = .ok (.iload_n 3, 1) := by decide +kernel
theorem dX12_gaps_143 : decode cX12_gaps 143 = .ok (.goto 25, 3) := by decide +kernel
theorem dX12_gaps_146 : decode cX12_gaps 146 = .ok (.iload_n 1, 1) := by decide +kernel
theorem dX12_gaps_147 : decode cX12_gaps 147 = .ok (.iconst 1, 1) := by decide +kernel
theorem dX12_gaps_148 : decode cX12_gaps 148 = .ok (.if_icmp .ne 8, 3) := by decide +kernel
theorem dX12_gaps_151 : decode cX12_gaps 151 = .ok (.iload 4, 2) := by decide +kernel
theorem dX12_gaps_153 : decode cX12_gaps 153 = .ok (.goto 15, 3) := by decide +kernel
theorem dX12_gaps_156 : decode cX12_gaps 156 = .ok (.iload_n 1, 1) := by decide +kernel
theorem dX12_gaps_157 : decode cX12_gaps 157 = .ok (.iconst 2, 1) := by decide +kernel
theorem dX12_gaps_158 : decode cX12_gaps 158 = .ok (.if_icmp .ne 8, 3) := by decide +kernel
theorem dX12_gaps_161 : decode cX12_gaps 161 = .ok (.iload 5, 2) := by decide +kernel
theorem dX12_gaps_163 : decode cX12_gaps 163 = .ok (.goto 5, 3) := by decide +kernel
theorem dX12_gaps_166 : decode cX12_gaps 166 = .ok (.iload 6, 2) := by decide +kernel
theorem dX12_gaps_168 : decode cX12_gaps 168 = .ok (.ireturn, 1) := by decide +kernel
theorem dX12_image_0 : decode cX12_image 0 = .ok (.aload_n 0, 1) := by decide +kernel
theorem dX12_image_1 : decode cX12_image 1 = .ok (.iconst 0, 1) := by decide +kernel
theorem dX12_image_2 : decode cX12_image 2 = .ok (.putfield 111, 3) := by decide +kernel
theorem dX12_image_5 : decode cX12_image 5 = .ok (.aload_n 0, 1) := by decide +kernel
theorem dX12_image_6 : decode cX12_image 6 = .ok (.getfield 284, 3) := by decide +kernel
theorem dX12_image_9 : decode cX12_image 9 = .ok (.ifCond .ne 5, 3) := by decide +kernel
theorem dX12_image_12 : decode cX12_image 12 = .ok (.iconst (-1), 1) := by decide +kernel
theorem dX12_image_13 : decode cX12_image 13 = .ok (.ireturn, 1) := by decide +kernel
theorem dX12_image_14 : decode cX12_image 14 = .ok (.iconst 0, 1) := by decide +kernel
theorem dX12_image_15 : decode cX12_image 15 = .ok (.istore_n 1, 1) := by decide +kernel
theorem dX12_image_16 : decode cX12_image 16 = .ok (.iload_n 1, 1) := by decide +kernel
theorem dX12_image_17 : decode cX12_image 17 = .ok (.bipush 20, 2) := by decide +kernel
theorem dX12_image_19 : decode cX12_image 19 = .ok (.if_icmp .ge 33, 3) := by decide +kernel
theorem dX12_image_22 : decode cX12_image 22 = .ok (.aload_n 0, 1) := by decide +kernel
theorem dX12_image_23 : decode cX12_image 23 = .ok (.getfield 102, 3) := by decide +kernel
theorem dX12_image_26 : decode cX12_image 26 = .ok (.iload_n 1, 1) := by decide +kernel
theorem dX12_image_27 : decode cX12_image 27 = .ok (.aload_n 0, 1) := by decide +kernel
theorem dX12_image_28 : decode cX12_image 28 = .ok (.getfield 55, 3) := by decide +kernel
theorem dX12_image_31 : decode cX12_image 31 = .ok (.iload_n 1, 1) := by decide +kernel
theorem dX12_image_32 : decode cX12_image 32 = .ok (.iaload, 1) := by decide +kernel
theorem dX12_image_33 : decode cX12_image 33 = .ok (.iastore, 1) := by decide +kernel
theorem dX12_image_34 : decode cX12_image 34 = .ok (.aload_n 0, 1) := by decide +kernel
theorem dX12_image_35 : decode cX12_image 35 = .ok (.getfield 105, 3) := by decide +kernel
theorem dX12_image_38 : decode cX12_image 38 = .ok (.iload_n 1, 1) := by decide +kernel
theorem dX12_image_39 : decode cX12_image 39 = .ok (.aload_n 0, 1) := by decide +kernel
theorem dX12_image_40 : decode cX12_image 40 = .ok (.getfield 58, 3) := by decide +kernel
theorem dX12_image_43 : decode cX12_image 43 = .ok (.iload_n 1, 1) := by decide +kernel
theorem dX12_image_44 : decode cX12_image 44 = .ok (.iaload, 1) := by decide +kernel
theorem dX12_image_45 : decode cX12_image 45 = .ok (.iastore, 1) := by decide +kernel
theorem dX12_image_46 : decode cX12_image 46 = .ok (.iinc 1 1, 3) := by decide +kernel
theorem dX12_image_49 : decode cX12_image 49 = .ok (.goto (-33), 3) := by decide +kernel
theorem dX12_image_52 : decode cX12_image 52 = .ok (.iconst 0, 1) := by decide +kernel
theorem dX12_image_53 : decode cX12_image 53 = .ok (.istore_n 1, 1) := by decide +kernel
theorem dX12_image_54 : decode cX12_image 54 = .ok (.iload_n 1, 1) := by decide +kernel
theorem dX12_image_55 : decode cX12_image 55 = .ok (.iconst 3, 1) := by decide +kernel
theorem dX12_image_56 : decode cX12_image 56 = .ok (.if_icmp .ge 21, 3) := by decide +kernel
theorem dX12_image_59 : decode cX12_image 59 = .ok (.aload_n 0, 1) := by decide +kernel
theorem dX12_image_60 : decode cX12_image 60 = .ok (.getfield 108, 3) := by decide +kernel
theorem dX12_image_63 : decode cX12_image 63 = .ok (.iload_n 1, 1) := by decide +kernel
theorem dX12_image_64 : decode cX12_image 64 = .ok (.aload_n 0, 1) := by decide +kernel
theorem dX12_image_65 : decode cX12_image 65 = .ok (.getfield 61, 3) := by decide +kernel
theorem dX12_image_68 : decode cX12_image 68 = .ok (.iload_n 1, 1) := by decide +kernel
theorem dX12_image_69 : decode cX12_image 69 = .ok (.iaload, 1) := by decide +kernel
theorem dX12_image_70 : decode cX12_image 70 = .ok (.iastore, 1) := by decide +kernel
theorem dX12_image_71 : decode cX12_image 71 = .ok (.iinc 1 1, 3) := by decide +kernel
theorem dX12_image_74 : decode cX12_image 74 = .ok (.goto (-20), 3) := by decide +kernel
theorem dX12_image_77 : decode cX12_image 77 = .ok (.aload_n 0, 1) := by decide +kernel
theorem dX12_image_78 : decode cX12_image 78 = .ok (.iconst 1, 1) := by decide +kernel
theorem dX12_image_79 : decode cX12_image 79 = .ok (.putfield 299, 3) := by decide +kernel
theorem dX12_image_82 : decode cX12_image 82 = .ok (.aload_n 0, 1) := by decide +kernel
theorem dX12_image_83 : decode cX12_image 83 = .ok (.invokevirtual 339, 3) := by decide +kernel
theorem dX12_image_86 : decode cX12_image 86 = .ok (.ireturn, 1) := by decide +kernel
theorem dX12_back_0 : decode cX12_back 0 = .ok (.aload_n 0, 1) := by decide +kernel
theorem dX12_back_1 : decode cX12_back 1 = .ok (.iconst 0, 1) := by decide +kernel
theorem dX12_back_2 : decode cX12_back 2 = .ok (.putfield 111, 3) := by decide +kernel
theorem dX12_back_5 : decode cX12_back 5 = .ok (.aload_n 0, 1) := by decide +kernel
theorem dX12_back_6 : decode cX12_back 6 = .ok (.getfield 299, 3) := by decide +kernel
theorem dX12_back_9 : decode cX12_back 9 = .ok (.ifCond .ne 5, 3) := by decide +kernel
theorem dX12_back_12 : decode cX12_back 12 = .ok (.iconst (-1), 1) := by decide +kernel
theorem dX12_back_13 : decode cX12_back 13 = .ok (.ireturn, 1) := by decide +kernel
theorem dX12_back_14 : decode cX12_back 14 = .ok (.iconst 0, 1) := by decide +kernel
theorem dX12_back_15 : decode cX12_back 15 = .ok (.istore_n 1, 1) := by decide +kernel
theorem dX12_back_16 : decode cX12_back 16 = .ok (.iload_n 1, 1) := by decide +kernel
theorem dX12_back_17 : decode cX12_back 17 = .ok (.bipush 20, 2) := by decide +kernel
theorem dX12_back_19 : decode cX12_back 19 = .ok (.if_icmp .ge 33, 3) := by decide +kernel
theorem dX12_back_22 : decode cX12_back 22 = .ok (.aload_n 0, 1) := by decide +kernel
theorem dX12_back_23 : decode cX12_back 23 = .ok (.getfield 55, 3) := by decide +kernel
theorem dX12_back_26 : decode cX12_back 26 = .ok (.iload_n 1, 1) := by decide +kernel
theorem dX12_back_27 : decode cX12_back 27 = .ok (.aload_n 0, 1) := by decide +kernel
theorem dX12_back_28 : decode cX12_back 28 = .ok (.getfield 102, 3) := by decide +kernel
theorem dX12_back_31 : decode cX12_back 31 = .ok (.iload_n 1, 1) := by decide +kernel
theorem dX12_back_32 : decode cX12_back 32 = .ok (.iaload, 1) := by decide +kernel
theorem dX12_back_33 : decode cX12_back 33 = .ok (.iastore, 1) := by decide +kernel
theorem dX12_back_34 : decode cX12_back 34 = .ok (.aload_n 0, 1) := by decide +kernel
theorem dX12_back_35 : decode cX12_back 35 = .ok (.getfield 58, 3) := by decide +kernel
theorem dX12_back_38 : decode cX12_back 38 = .ok (.iload_n 1, 1) := by decide +kernel
theorem dX12_back_39 : decode cX12_back 39 = .ok (.aload_n 0, 1) := by decide +kernel
theorem dX12_back_40 : decode cX12_back 40 = .ok (.getfield 105, 3) := by decide +kernel
theorem dX12_back_43 : decode cX12_back 43 = .ok (.iload_n 1, 1) := by decide +kernel
theorem dX12_back_44 : decode cX12_back 44 = .ok (.iaload, 1) := by decide +kernel
theorem dX12_back_45 : decode cX12_back 45 = .ok (.iastore, 1) := by decide +kernel
theorem dX12_back_46 : decode cX12_back 46 = .ok (.iinc 1 1, 3) := by decide +kernel
theorem dX12_back_49 : decode cX12_back 49 = .ok (.goto (-33), 3) := by decide +kernel
theorem dX12_back_52 : decode cX12_back 52 = .ok (.iconst 0, 1) := by decide +kernel
theorem dX12_back_53 : decode cX12_back 53 = .ok (.istore_n 1, 1) := by decide +kernel
theorem dX12_back_54 : decode cX12_back 54 = .ok (.iload_n 1, 1) := by decide +kernel
theorem dX12_back_55 : decode cX12_back 55 = .ok (.iconst 3, 1) := by decide +kernel
theorem dX12_back_56 : decode cX12_back 56 = .ok (.if_icmp .ge 21, 3) := by decide +kernel
theorem dX12_back_59 : decode cX12_back 59 = .ok (.aload_n 0, 1) := by decide +kernel
theorem dX12_back_60 : decode cX12_back 60 = .ok (.getfield 61, 3) := by decide +kernel
theorem dX12_back_63 : decode cX12_back 63 = .ok (.iload_n 1, 1) := by decide +kernel
theorem dX12_back_64 : decode cX12_back 64 = .ok (.aload_n 0, 1) := by decide +kernel
theorem dX12_back_65 : decode cX12_back 65 = .ok (.getfield 108, 3) := by decide +kernel
theorem dX12_back_68 : decode cX12_back 68 = .ok (.iload_n 1, 1) := by decide +kernel
theorem dX12_back_69 : decode cX12_back 69 = .ok (.iaload, 1) := by decide +kernel
theorem dX12_back_70 : decode cX12_back 70 = .ok (.iastore, 1) := by decide +kernel
theorem dX12_back_71 : decode cX12_back 71 = .ok (.iinc 1 1, 3) := by decide +kernel
theorem dX12_back_74 : decode cX12_back 74 = .ok (.goto (-20), 3) := by decide +kernel
theorem dX12_back_77 : decode cX12_back 77 = .ok (.aload_n 0, 1) := by decide +kernel
theorem dX12_back_78 : decode cX12_back 78 = .ok (.iconst 0, 1) := by decide +kernel
theorem dX12_back_79 : decode cX12_back 79 = .ok (.putfield 296, 3) := by decide +kernel
theorem dX12_back_82 : decode cX12_back 82 = .ok (.aload_n 0, 1) := by decide +kernel
theorem dX12_back_83 : decode cX12_back 83 = .ok (.invokevirtual 339, 3) := by decide +kernel
theorem dX12_back_86 : decode cX12_back 86 = .ok (.ireturn, 1) := by decide +kernel
theorem dX12_count_0 : decode cX12_count 0 = .ok (.aload_n 0, 1) := by decide +kernel
theorem dX12_count_1 : decode cX12_count 1 = .ok (.iconst 0, 1) := by decide +kernel
theorem dX12_count_2 : decode cX12_count 2 = .ok (.putfield 111, 3) := by decide +kernel
theorem dX12_count_5 : decode cX12_count 5 = .ok (.iload_n 1, 1) := by decide +kernel
theorem dX12_count_6 : decode cX12_count 6 = .ok (.tableswitch 134 0 10 #[58, 63, 68, 73, 78, 83, 101, 119, 124, 124, 124], 58) := by decide +kernel
theorem dX12_count_64 : decode cX12_count 64 = .ok (.aload_n 0, 1) := by decide +kernel
theorem dX12_count_65 : decode cX12_count 65 = .ok (.getfield 290, 3) := by decide +kernel
theorem dX12_count_68 : decode cX12_count 68 = .ok (.ireturn, 1) := by decide +kernel
theorem dX12_count_69 : decode cX12_count 69 = .ok (.aload_n 0, 1) := by decide +kernel
theorem dX12_count_70 : decode cX12_count 70 = .ok (.getfield 284, 3) := by decide +kernel
theorem dX12_count_73 : decode cX12_count 73 = .ok (.ireturn, 1) := by decide +kernel
theorem dX12_count_74 : decode cX12_count 74 = .ok (.aload_n 0, 1) := by decide +kernel
theorem dX12_count_75 : decode cX12_count 75 = .ok (.getfield 279, 3) := by decide +kernel
theorem dX12_count_78 : decode cX12_count 78 = .ok (.ireturn, 1) := by decide +kernel
theorem dX12_count_79 : decode cX12_count 79 = .ok (.aload_n 0, 1) := by decide +kernel
theorem dX12_count_80 : decode cX12_count 80 = .ok (.getfield 124, 3) := by decide +kernel
theorem dX12_count_83 : decode cX12_count 83 = .ok (.ireturn, 1) := by decide +kernel
theorem dX12_count_84 : decode cX12_count 84 = .ok (.aload_n 0, 1) := by decide +kernel
theorem dX12_count_85 : decode cX12_count 85 = .ok (.invokevirtual 339, 3) := by decide +kernel
theorem dX12_count_88 : decode cX12_count 88 = .ok (.ireturn, 1) := by decide +kernel
theorem dX12_count_89 : decode cX12_count 89 = .ok (.aload_n 0, 1) := by decide +kernel
theorem dX12_count_90 : decode cX12_count 90 = .ok (.getfield 284, 3) := by decide +kernel
theorem dX12_count_93 : decode cX12_count 93 = .ok (.ifCond .ne 7, 3) := by decide +kernel
theorem dX12_count_96 : decode cX12_count 96 = .ok (.iconst 0, 1) := by decide +kernel
theorem dX12_count_97 : decode cX12_count 97 = .ok (.goto 9, 3) := by decide +kernel
theorem dX12_count_100 : decode cX12_count 100 = .ok (.aload_n 0, 1) := by decide +kernel
theorem dX12_count_101 : decode cX12_count 101 = .ok (.getfield 37, 3) := by decide +kernel
theorem dX12_count_104 : decode cX12_count 104 = .ok (.iconst 1, 1) := by decide +kernel
theorem dX12_count_105 : decode cX12_count 105 = .ok (.iaload, 1) := by decide +kernel
theorem dX12_count_106 : decode cX12_count 106 = .ok (.ireturn, 1) := by decide +kernel
theorem dX12_count_107 : decode cX12_count 107 = .ok (.aload_n 0, 1) := by decide +kernel
theorem dX12_count_108 : decode cX12_count 108 = .ok (.getfield 284, 3) := by decide +kernel
theorem dX12_count_111 : decode cX12_count 111 = .ok (.ifCond .ne 7, 3) := by decide +kernel
theorem dX12_count_114 : decode cX12_count 114 = .ok (.iconst 0, 1) := by decide +kernel
theorem dX12_count_115 : decode cX12_count 115 = .ok (.goto 9, 3) := by decide +kernel
theorem dX12_count_118 : decode cX12_count 118 = .ok (.aload_n 0, 1) := by decide +kernel
theorem dX12_count_119 : decode cX12_count 119 = .ok (.getfield 37, 3) := by decide +kernel
theorem dX12_count_122 : decode cX12_count 122 = .ok (.iconst 2, 1) := by decide +kernel
theorem dX12_count_123 : decode cX12_count 123 = .ok (.iaload, 1) := by decide +kernel
theorem dX12_count_124 : decode cX12_count 124 = .ok (.ireturn, 1) := by decide +kernel
theorem dX12_count_125 : decode cX12_count 125 = .ok (.aload_n 0, 1) := by decide +kernel
theorem dX12_count_126 : decode cX12_count 126 = .ok (.getfield 296, 3) := by decide +kernel
theorem dX12_count_129 : decode cX12_count 129 = .ok (.ireturn, 1) := by decide +kernel
theorem dX12_count_130 : decode cX12_count 130 = .ok (.aload_n 0, 1) := by decide +kernel
theorem dX12_count_131 : decode cX12_count 131 = .ok (.getfield 61, 3) := by decide +kernel
theorem dX12_count_134 : decode cX12_count 134 = .ok (.iload_n 1, 1) := by decide +kernel
theorem dX12_count_135 : decode cX12_count 135 = .ok (.bipush 8, 2) := by decide +kernel
theorem dX12_count_137 : decode cX12_count 137 = .ok (.isub, 1) := by decide +kernel
theorem dX12_count_138 : decode cX12_count 138 = .ok (.iaload, 1) := by decide +kernel
theorem dX12_count_139 : decode cX12_count 139 = .ok (.ireturn, 1) := by decide +kernel
theorem dX12_count_140 : decode cX12_count 140 = .ok (.ldc_w 452, 3) := by decide +kernel
theorem dX12_count_143 : decode cX12_count 143 = .ok (.ireturn, 1) := by decide +kernel

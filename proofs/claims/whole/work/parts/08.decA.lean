theorem dX0_init_0 : decode cX0_init 0 = .ok (.aload_n 0, 1) := by decide +kernel
theorem dX0_init_1 : decode cX0_init 1 = .ok (.invokespecial 3, 3) := by decide +kernel
theorem dX0_init_4 : decode cX0_init 4 = .ok (.aload_n 0, 1) := by decide +kernel
theorem dX0_init_5 : decode cX0_init 5 = .ok (.bipush 40, 2) := by decide +kernel
theorem dX0_init_7 : decode cX0_init 7 = .ok (.anewarray 9, 3) := by decide +kernel
theorem dX0_init_10 : decode cX0_init 10 = .ok (.putfield 11, 3) := by decide +kernel
theorem dX0_init_13 : decode cX0_init 13 = .ok (.iconst 0, 1) := by decide +kernel
theorem dX0_init_14 : decode cX0_init 14 = .ok (.istore_n 1, 1) := by decide +kernel
theorem dX0_init_15 : decode cX0_init 15 = .ok (.iload_n 1, 1) := by decide +kernel
theorem dX0_init_16 : decode cX0_init 16 = .ok (.bipush 40, 2) := by decide +kernel
theorem dX0_init_18 : decode cX0_init 18 = .ok (.if_icmp .ge 22, 3) := by decide +kernel
theorem dX0_init_21 : decode cX0_init 21 = .ok (.aload_n 0, 1) := by decide +kernel
theorem dX0_init_22 : decode cX0_init 22 = .ok (.getfield 11, 3) := by decide +kernel
theorem dX0_init_25 : decode cX0_init 25 = .ok (.iload_n 1, 1) := by decide +kernel
theorem dX0_init_26 : decode cX0_init 26 = .ok (.new 9, 3) := by decide +kernel
theorem dX0_init_29 : decode cX0_init 29 = .ok (.dup, 1) := by decide +kernel
theorem dX0_init_30 : decode cX0_init 30 = .ok (.invokespecial 17, 3) := by decide +kernel
theorem dX0_init_33 : decode cX0_init 33 = .ok (.aastore, 1) := by decide +kernel
theorem dX0_init_34 : decode cX0_init 34 = .ok (.iinc 1 1, 3) := by decide +kernel
theorem dX0_init_37 : decode cX0_init 37 = .ok (.goto (-22), 3) := by decide +kernel
theorem dX0_init_40 : decode cX0_init 40 = .ok (.return_, 1) := by decide +kernel
theorem dX0_forget_0 : decode cX0_forget 0 = .ok (.aload_n 0, 1) := by decide +kernel
theorem dX0_forget_1 : decode cX0_forget 1 = .ok (.iconst 0, 1) := by decide +kernel
theorem dX0_forget_2 : decode cX0_forget 2 = .ok (.putfield 18, 3) := by decide +kernel
theorem dX0_forget_5 : decode cX0_forget 5 = .ok (.return_, 1) := by decide +kernel
theorem dX0_keep_0 : decode cX0_keep 0 = .ok (.aload_n 0, 1) := by decide +kernel
theorem dX0_keep_1 : decode cX0_keep 1 = .ok (.getfield 11, 3) := by decide +kernel
theorem dX0_keep_4 : decode cX0_keep 4 = .ok (.aload_n 0, 1) := by decide +kernel
theorem dX0_keep_5 : decode cX0_keep 5 = .ok (.getfield 22, 3) := by decide +kernel
theorem dX0_keep_8 : decode cX0_keep 8 = .ok (.aaload, 1) := by decide +kernel
theorem dX0_keep_9 : decode cX0_keep 9 = .ok (.aload_n 1, 1) := by decide +kernel
theorem dX0_keep_10 : decode cX0_keep 10 = .ok (.invokevirtual 25, 3) := by decide +kernel
theorem dX0_keep_13 : decode cX0_keep 13 = .ok (.aload_n 0, 1) := by decide +kernel
theorem dX0_keep_14 : decode cX0_keep 14 = .ok (.aload_n 0, 1) := by decide +kernel
theorem dX0_keep_15 : decode cX0_keep 15 = .ok (.getfield 22, 3) := by decide +kernel
theorem dX0_keep_18 : decode cX0_keep 18 = .ok (.iconst 1, 1) := by decide +kernel
theorem dX0_keep_19 : decode cX0_keep 19 = .ok (.iadd, 1) := by decide +kernel
theorem dX0_keep_20 : decode cX0_keep 20 = .ok (.bipush 40, 2) := by decide +kernel
theorem dX0_keep_22 : decode cX0_keep 22 = .ok (.irem, 1) := by decide +kernel
theorem dX0_keep_23 : decode cX0_keep 23 = .ok (.putfield 22, 3) := by decide +kernel
theorem dX0_keep_26 : decode cX0_keep 26 = .ok (.aload_n 0, 1) := by decide +kernel
theorem dX0_keep_27 : decode cX0_keep 27 = .ok (.aload_n 0, 1) := by decide +kernel
theorem dX0_keep_28 : decode cX0_keep 28 = .ok (.getfield 18, 3) := by decide +kernel
theorem dX0_keep_31 : decode cX0_keep 31 = .ok (.iconst 1, 1) := by decide +kernel
theorem dX0_keep_32 : decode cX0_keep 32 = .ok (.iadd, 1) := by decide +kernel
theorem dX0_keep_33 : decode cX0_keep 33 = .ok (.bipush 40, 2) := by decide +kernel
theorem dX0_keep_35 : decode cX0_keep 35 = .ok (.invokestatic 29, 3) := by decide +kernel
theorem dX0_keep_38 : decode cX0_keep 38 = .ok (.putfield 18, 3) := by decide +kernel
theorem dX0_keep_41 : decode cX0_keep 41 = .ok (.return_, 1) := by decide +kernel
theorem dX0_restore_0 : decode cX0_restore 0 = .ok (.aload_n 0, 1) := by decide +kernel
theorem dX0_restore_1 : decode cX0_restore 1 = .ok (.getfield 18, 3) := by decide +kernel
theorem dX0_restore_4 : decode cX0_restore 4 = .ok (.ifCond .le 42, 3) := by decide +kernel
theorem dX0_restore_7 : decode cX0_restore 7 = .ok (.aload_n 0, 1) := by decide +kernel
theorem dX0_restore_8 : decode cX0_restore 8 = .ok (.aload_n 0, 1) := by decide +kernel
theorem dX0_restore_9 : decode cX0_restore 9 = .ok (.getfield 22, 3) := by decide +kernel
theorem dX0_restore_12 : decode cX0_restore 12 = .ok (.bipush 40, 2) := by decide +kernel
theorem dX0_restore_14 : decode cX0_restore 14 = .ok (.iadd, 1) := by decide +kernel
theorem dX0_restore_15 : decode cX0_restore 15 = .ok (.iconst 1, 1) := by decide +kernel
theorem dX0_restore_16 : decode cX0_restore 16 = .ok (.isub, 1) := by decide +kernel
theorem dX0_restore_17 : decode cX0_restore 17 = .ok (.bipush 40, 2) := by decide +kernel
theorem dX0_restore_19 : decode cX0_restore 19 = .ok (.irem, 1) := by decide +kernel
theorem dX0_restore_20 : decode cX0_restore 20 = .ok (.putfield 22, 3) := by decide +kernel
theorem dX0_restore_23 : decode cX0_restore 23 = .ok (.aload_n 1, 1) := by decide +kernel
theorem dX0_restore_24 : decode cX0_restore 24 = .ok (.aload_n 0, 1) := by decide +kernel
theorem dX0_restore_25 : decode cX0_restore 25 = .ok (.getfield 11, 3) := by decide +kernel
theorem dX0_restore_28 : decode cX0_restore 28 = .ok (.aload_n 0, 1) := by decide +kernel
theorem dX0_restore_29 : decode cX0_restore 29 = .ok (.getfield 22, 3) := by decide +kernel
theorem dX0_restore_32 : decode cX0_restore 32 = .ok (.aaload, 1) := by decide +kernel
theorem dX0_restore_33 : decode cX0_restore 33 = .ok (.invokevirtual 25, 3) := by decide +kernel
theorem dX0_restore_36 : decode cX0_restore 36 = .ok (.aload_n 0, 1) := by decide +kernel
theorem dX0_restore_37 : decode cX0_restore 37 = .ok (.dup, 1) := by decide +kernel
theorem dX0_restore_38 : decode cX0_restore 38 = .ok (.getfield 18, 3) := by decide +kernel
theorem dX0_restore_41 : decode cX0_restore 41 = .ok (.iconst 1, 1) := by decide +kernel
theorem dX0_restore_42 : decode cX0_restore 42 = .ok (.isub, 1) := by decide +kernel
theorem dX0_restore_43 : decode cX0_restore 43 = .ok (.putfield 18, 3) := by decide +kernel
theorem dX0_restore_46 : decode cX0_restore 46 = .ok (.return_, 1) := by decide +kernel
theorem dX1_init_0 : decode cX1_init 0 = .ok (.aload_n 0, 1) := by decide +kernel
theorem dX1_init_1 : decode cX1_init 1 = .ok (.invokespecial 3, 3) := by decide +kernel
theorem dX1_init_4 : decode cX1_init 4 = .ok (.aload_n 0, 1) := by decide +kernel
theorem dX1_init_5 : decode cX1_init 5 = .ok (.aload_n 1, 1) := by decide +kernel
theorem dX1_init_6 : decode cX1_init 6 = .ok (.putfield 9, 3) := by decide +kernel
theorem dX1_init_9 : decode cX1_init 9 = .ok (.aload_n 0, 1) := by decide +kernel
theorem dX1_init_10 : decode cX1_init 10 = .ok (.aload_n 2, 1) := by decide +kernel
theorem dX1_init_11 : decode cX1_init 11 = .ok (.putfield 15, 3) := by decide +kernel
theorem dX1_init_14 : decode cX1_init 14 = .ok (.return_, 1) := by decide +kernel
theorem dX1_weigh_0 : decode cX1_weigh 0 = .ok (.aload_n 0, 1) := by decide +kernel
theorem dX1_weigh_1 : decode cX1_weigh 1 = .ok (.lconst 1, 1) := by decide +kernel
theorem dX1_weigh_2 : decode cX1_weigh 2 = .ok (.putfield 19, 3) := by decide +kernel
theorem dX1_weigh_5 : decode cX1_weigh 5 = .ok (.aload_n 0, 1) := by decide +kernel
theorem dX1_weigh_6 : decode cX1_weigh 6 = .ok (.iconst 0, 1) := by decide +kernel
theorem dX1_weigh_7 : decode cX1_weigh 7 = .ok (.putfield 23, 3) := by decide +kernel
theorem dX1_weigh_10 : decode cX1_weigh 10 = .ok (.aload_n 0, 1) := by decide +kernel
theorem dX1_weigh_11 : decode cX1_weigh 11 = .ok (.iconst 0, 1) := by decide +kernel
theorem dX1_weigh_12 : decode cX1_weigh 12 = .ok (.putfield 27, 3) := by decide +kernel
theorem dX1_weigh_15 : decode cX1_weigh 15 = .ok (.iconst 0, 1) := by decide +kernel
theorem dX1_weigh_16 : decode cX1_weigh 16 = .ok (.istore_n 1, 1) := by decide +kernel
theorem dX1_weigh_17 : decode cX1_weigh 17 = .ok (.iload_n 1, 1) := by decide +kernel
theorem dX1_weigh_18 : decode cX1_weigh 18 = .ok (.aload_n 0, 1) := by decide +kernel
theorem dX1_weigh_19 : decode cX1_weigh 19 = .ok (.getfield 9, 3) := by decide +kernel
theorem dX1_weigh_22 : decode cX1_weigh 22 = .ok (.getfield 30, 3) := by decide +kernel
theorem dX1_weigh_25 : decode cX1_weigh 25 = .ok (.if_icmp .ge 39, 3) := by decide +kernel
theorem dX1_weigh_28 : decode cX1_weigh 28 = .ok (.aload_n 0, 1) := by decide +kernel
theorem dX1_weigh_29 : decode cX1_weigh 29 = .ok (.getfield 15, 3) := by decide +kernel
theorem dX1_weigh_32 : decode cX1_weigh 32 = .ok (.iload_n 1, 1) := by decide +kernel
theorem dX1_weigh_33 : decode cX1_weigh 33 = .ok (.invokevirtual 35, 3) := by decide +kernel
theorem dX1_weigh_36 : decode cX1_weigh 36 = .ok (.ifCond .eq 22, 3) := by decide +kernel
theorem dX1_weigh_39 : decode cX1_weigh 39 = .ok (.aload_n 0, 1) := by decide +kernel
theorem dX1_weigh_40 : decode cX1_weigh 40 = .ok (.getfield 15, 3) := by decide +kernel
theorem dX1_weigh_43 : decode cX1_weigh 43 = .ok (.iload_n 1, 1) := by decide +kernel
theorem dX1_weigh_44 : decode cX1_weigh 44 = .ok (.iconst 1, 1) := by decide +kernel
theorem dX1_weigh_45 : decode cX1_weigh 45 = .ok (.isub, 1) := by decide +kernel
theorem dX1_weigh_46 : decode cX1_weigh 46 = .ok (.invokevirtual 41, 3) := by decide +kernel
theorem dX1_weigh_49 : decode cX1_weigh 49 = .ok (.iconst (-1), 1) := by decide +kernel
theorem dX1_weigh_50 : decode cX1_weigh 50 = .ok (.if_icmp .ne 8, 3) := by decide +kernel
theorem dX1_weigh_53 : decode cX1_weigh 53 = .ok (.aload_n 0, 1) := by decide +kernel
theorem dX1_weigh_54 : decode cX1_weigh 54 = .ok (.iload_n 1, 1) := by decide +kernel
theorem dX1_weigh_55 : decode cX1_weigh 55 = .ok (.invokevirtual 45, 3) := by decide +kernel
theorem dX1_weigh_58 : decode cX1_weigh 58 = .ok (.iinc 1 1, 3) := by decide +kernel
theorem dX1_weigh_61 : decode cX1_weigh 61 = .ok (.goto (-44), 3) := by decide +kernel
theorem dX1_weigh_64 : decode cX1_weigh 64 = .ok (.return_, 1) := by decide +kernel
theorem dX1_addChain_0 : decode cX1_addChain 0 = .ok (.iconst 0, 1) := by decide +kernel
theorem dX1_addChain_1 : decode cX1_addChain 1 = .ok (.istore_n 2, 1) := by decide +kernel
theorem dX1_addChain_2 : decode cX1_addChain 2 = .ok (.iconst 0, 1) := by decide +kernel
theorem dX1_addChain_3 : decode cX1_addChain 3 = .ok (.istore_n 3, 1) := by decide +kernel
theorem dX1_addChain_4 : decode cX1_addChain 4 = .ok (.iload_n 1, 1) := by decide +kernel
theorem dX1_addChain_5 : decode cX1_addChain 5 = .ok (.istore 4, 2) := by decide +kernel
theorem dX1_addChain_7 : decode cX1_addChain 7 = .ok (.iload_n 1, 1) := by decide +kernel
theorem dX1_addChain_8 : decode cX1_addChain 8 = .ok (.istore 5, 2) := by decide +kernel
theorem dX1_addChain_10 : decode cX1_addChain 10 = .ok (.iload_n 1, 1) := by decide +kernel
theorem dX1_addChain_11 : decode cX1_addChain 11 = .ok (.istore 6, 2) := by decide +kernel
theorem dX1_addChain_13 : decode cX1_addChain 13 = .ok (.iload 6, 2) := by decide +kernel
theorem dX1_addChain_15 : decode cX1_addChain 15 = .ok (.aload_n 0, 1) := by decide +kernel
theorem dX1_addChain_16 : decode cX1_addChain 16 = .ok (.getfield 9, 3) := by decide +kernel
theorem dX1_addChain_19 : decode cX1_addChain 19 = .ok (.getfield 30, 3) := by decide +kernel
theorem dX1_addChain_22 : decode cX1_addChain 22 = .ok (.if_icmp .ge 54, 3) := by decide +kernel
theorem dX1_addChain_25 : decode cX1_addChain 25 = .ok (.aload_n 0, 1) := by decide +kernel
theorem dX1_addChain_26 : decode cX1_addChain 26 = .ok (.getfield 15, 3) := by decide +kernel
theorem dX1_addChain_29 : decode cX1_addChain 29 = .ok (.iload 6, 2) := by decide +kernel
theorem dX1_addChain_31 : decode cX1_addChain 31 = .ok (.invokevirtual 41, 3) := by decide +kernel
theorem dX1_addChain_34 : decode cX1_addChain 34 = .ok (.iconst (-1), 1) := by decide +kernel
theorem dX1_addChain_35 : decode cX1_addChain 35 = .ok (.if_icmp .eq 41, 3) := by decide +kernel
theorem dX1_addChain_38 : decode cX1_addChain 38 = .ok (.aload_n 0, 1) := by decide +kernel
theorem dX1_addChain_39 : decode cX1_addChain 39 = .ok (.getfield 15, 3) := by decide +kernel
theorem dX1_addChain_42 : decode cX1_addChain 42 = .ok (.iload 6, 2) := by decide +kernel
theorem dX1_addChain_44 : decode cX1_addChain 44 = .ok (.invokevirtual 35, 3) := by decide +kernel
theorem dX1_addChain_47 : decode cX1_addChain 47 = .ok (.ifCond .eq 17, 3) := by decide +kernel
theorem dX1_addChain_50 : decode cX1_addChain 50 = .ok (.iinc 2 1, 3) := by decide +kernel
theorem dX1_addChain_53 : decode cX1_addChain 53 = .ok (.iload_n 3, 1) := by decide +kernel
theorem dX1_addChain_54 : decode cX1_addChain 54 = .ok (.iconst 1, 1) := by decide +kernel
theorem dX1_addChain_55 : decode cX1_addChain 55 = .ok (.iload 6, 2) := by decide +kernel
theorem dX1_addChain_57 : decode cX1_addChain 57 = .ok (.ishl, 1) := by decide +kernel
theorem dX1_addChain_58 : decode cX1_addChain 58 = .ok (.ior, 1) := by decide +kernel
theorem dX1_addChain_59 : decode cX1_addChain 59 = .ok (.istore_n 3, 1) := by decide +kernel
theorem dX1_addChain_60 : decode cX1_addChain 60 = .ok (.iload 6, 2) := by decide +kernel
theorem dX1_addChain_62 : decode cX1_addChain 62 = .ok (.istore 4, 2) := by decide +kernel
theorem dX1_addChain_64 : decode cX1_addChain 64 = .ok (.iload 6, 2) := by decide +kernel
theorem dX1_addChain_66 : decode cX1_addChain 66 = .ok (.iconst 1, 1) := by decide +kernel
theorem dX1_addChain_67 : decode cX1_addChain 67 = .ok (.iadd, 1) := by decide +kernel
theorem dX1_addChain_68 : decode cX1_addChain 68 = .ok (.istore 5, 2) := by decide +kernel
theorem dX1_addChain_70 : decode cX1_addChain 70 = .ok (.iinc 6 1, 3) := by decide +kernel
theorem dX1_addChain_73 : decode cX1_addChain 73 = .ok (.goto (-60), 3) := by decide +kernel
theorem dX1_addChain_76 : decode cX1_addChain 76 = .ok (.aload_n 0, 1) := by decide +kernel
theorem dX1_addChain_77 : decode cX1_addChain 77 = .ok (.getfield 9, 3) := by decide +kernel
theorem dX1_addChain_80 : decode cX1_addChain 80 = .ok (.iload_n 1, 1) := by decide +kernel
theorem dX1_addChain_81 : decode cX1_addChain 81 = .ok (.iconst 1, 1) := by decide +kernel
theorem dX1_addChain_82 : decode cX1_addChain 82 = .ok (.isub, 1) := by decide +kernel
theorem dX1_addChain_83 : decode cX1_addChain 83 = .ok (.invokevirtual 49, 3) := by decide +kernel
theorem dX1_addChain_86 : decode cX1_addChain 86 = .ok (.istore 6, 2) := by decide +kernel
theorem dX1_addChain_88 : decode cX1_addChain 88 = .ok (.aload_n 0, 1) := by decide +kernel
theorem dX1_addChain_89 : decode cX1_addChain 89 = .ok (.getfield 9, 3) := by decide +kernel
theorem dX1_addChain_92 : decode cX1_addChain 92 = .ok (.iload 5, 2) := by decide +kernel
theorem dX1_addChain_94 : decode cX1_addChain 94 = .ok (.invokevirtual 49, 3) := by decide +kernel
theorem dX1_addChain_97 : decode cX1_addChain 97 = .ok (.istore 7, 2) := by decide +kernel
theorem dX1_addChain_99 : decode cX1_addChain 99 = .ok (.aload_n 0, 1) := by decide +kernel
theorem dX1_addChain_100 : decode cX1_addChain 100 = .ok (.iload_n 2, 1) := by decide +kernel
theorem dX1_addChain_101 : decode cX1_addChain 101 = .ok (.invokevirtual 52, 3) := by decide +kernel
theorem dX1_addChain_104 : decode cX1_addChain 104 = .ok (.iload 6, 2) := by decide +kernel
theorem dX1_addChain_106 : decode cX1_addChain 106 = .ok (.ifCond .eq 33, 3) := by decide +kernel
theorem dX1_addChain_109 : decode cX1_addChain 109 = .ok (.iload 7, 2) := by decide +kernel
theorem dX1_addChain_111 : decode cX1_addChain 111 = .ok (.ifCond .eq 28, 3) := by decide +kernel
theorem dX1_addChain_114 : decode cX1_addChain 114 = .ok (.aload_n 0, 1) := by decide +kernel
theorem dX1_addChain_115 : decode cX1_addChain 115 = .ok (.dup, 1) := by decide +kernel
theorem dX1_addChain_116 : decode cX1_addChain 116 = .ok (.getfield 19, 3) := by decide +kernel
theorem dX1_addChain_119 : decode cX1_addChain 119 = .ok (.iload_n 2, 1) := by decide +kernel
theorem dX1_addChain_120 : decode cX1_addChain 120 = .ok (.iconst 1, 1) := by decide +kernel
theorem dX1_addChain_121 : decode cX1_addChain 121 = .ok (.isub, 1) := by decide +kernel
theorem dX1_addChain_122 : decode cX1_addChain 122 = .ok (.lshl, 1) := by decide +kernel
theorem dX1_addChain_123 : decode cX1_addChain 123 = .ok (.putfield 19, 3) := by decide +kernel
theorem dX1_addChain_126 : decode cX1_addChain 126 = .ok (.aload_n 0, 1) := by decide +kernel
theorem dX1_addChain_127 : decode cX1_addChain 127 = .ok (.dup, 1) := by decide +kernel
theorem dX1_addChain_128 : decode cX1_addChain 128 = .ok (.getfield 23, 3) := by decide +kernel
theorem dX1_addChain_131 : decode cX1_addChain 131 = .ok (.iload_n 3, 1) := by decide +kernel
theorem dX1_addChain_132 : decode cX1_addChain 132 = .ok (.ior, 1) := by decide +kernel
theorem dX1_addChain_133 : decode cX1_addChain 133 = .ok (.putfield 23, 3) := by decide +kernel
theorem dX1_addChain_136 : decode cX1_addChain 136 = .ok (.goto 49, 3) := by decide +kernel
theorem dX1_addChain_139 : decode cX1_addChain 139 = .ok (.iload 6, 2) := by decide +kernel
theorem dX1_addChain_141 : decode cX1_addChain 141 = .ok (.ifCond .eq 19, 3) := by decide +kernel
theorem dX1_addChain_144 : decode cX1_addChain 144 = .ok (.aload_n 0, 1) := by decide +kernel
theorem dX1_addChain_145 : decode cX1_addChain 145 = .ok (.dup, 1) := by decide +kernel
theorem dX1_addChain_146 : decode cX1_addChain 146 = .ok (.getfield 23, 3) := by decide +kernel
theorem dX1_addChain_149 : decode cX1_addChain 149 = .ok (.iconst 1, 1) := by decide +kernel
theorem dX1_addChain_150 : decode cX1_addChain 150 = .ok (.iload 4, 2) := by decide +kernel
theorem dX1_addChain_152 : decode cX1_addChain 152 = .ok (.ishl, 1) := by decide +kernel
theorem dX1_addChain_153 : decode cX1_addChain 153 = .ok (.ior, 1) := by decide +kernel
theorem dX1_addChain_154 : decode cX1_addChain 154 = .ok (.putfield 23, 3) := by decide +kernel
theorem dX1_addChain_157 : decode cX1_addChain 157 = .ok (.goto 28, 3) := by decide +kernel
theorem dX1_addChain_160 : decode cX1_addChain 160 = .ok (.iload 7, 2) := by decide +kernel
theorem dX1_addChain_162 : decode cX1_addChain 162 = .ok (.ifCond .eq 18, 3) := by decide +kernel
theorem dX1_addChain_165 : decode cX1_addChain 165 = .ok (.aload_n 0, 1) := by decide +kernel
theorem dX1_addChain_166 : decode cX1_addChain 166 = .ok (.dup, 1) := by decide +kernel
theorem dX1_addChain_167 : decode cX1_addChain 167 = .ok (.getfield 23, 3) := by decide +kernel
theorem dX1_addChain_170 : decode cX1_addChain 170 = .ok (.iconst 1, 1) := by decide +kernel
theorem dX1_addChain_171 : decode cX1_addChain 171 = .ok (.iload_n 1, 1) := by decide +kernel
theorem dX1_addChain_172 : decode cX1_addChain 172 = .ok (.ishl, 1) := by decide +kernel
theorem dX1_addChain_173 : decode cX1_addChain 173 = .ok (.ior, 1) := by decide +kernel
theorem dX1_addChain_174 : decode cX1_addChain 174 = .ok (.putfield 23, 3) := by decide +kernel
theorem dX1_addChain_177 : decode cX1_addChain 177 = .ok (.goto 8, 3) := by decide +kernel
theorem dX1_addChain_180 : decode cX1_addChain 180 = .ok (.aload_n 0, 1) := by decide +kernel
theorem dX1_addChain_181 : decode cX1_addChain 181 = .ok (.lconst 0, 1) := by decide +kernel
theorem dX1_addChain_182 : decode cX1_addChain 182 = .ok (.putfield 19, 3) := by decide +kernel
theorem dX1_addChain_185 : decode cX1_addChain 185 = .ok (.return_, 1) := by decide +kernel
theorem dX1_mix_0 : decode cX1_mix 0 = .ok (.iconst 1, 1) := by decide +kernel
theorem dX1_mix_1 : decode cX1_mix 1 = .ok (.istore_n 2, 1) := by decide +kernel
theorem dX1_mix_2 : decode cX1_mix 2 = .ok (.iload_n 2, 1) := by decide +kernel
theorem dX1_mix_3 : decode cX1_mix 3 = .ok (.iload_n 1, 1) := by decide +kernel
theorem dX1_mix_4 : decode cX1_mix 4 = .ok (.if_icmp .gt 36, 3) := by decide +kernel
theorem dX1_mix_7 : decode cX1_mix 7 = .ok (.aload_n 0, 1) := by decide +kernel
theorem dX1_mix_8 : decode cX1_mix 8 = .ok (.dup, 1) := by decide +kernel
theorem dX1_mix_9 : decode cX1_mix 9 = .ok (.getfield 27, 3) := by decide +kernel
theorem dX1_mix_12 : decode cX1_mix 12 = .ok (.iconst 1, 1) := by decide +kernel
theorem dX1_mix_13 : decode cX1_mix 13 = .ok (.iadd, 1) := by decide +kernel
theorem dX1_mix_14 : decode cX1_mix 14 = .ok (.putfield 27, 3) := by decide +kernel
theorem dX1_mix_17 : decode cX1_mix 17 = .ok (.aload_n 0, 1) := by decide +kernel
theorem dX1_mix_18 : decode cX1_mix 18 = .ok (.aload_n 0, 1) := by decide +kernel
theorem dX1_mix_19 : decode cX1_mix 19 = .ok (.getfield 19, 3) := by decide +kernel
theorem dX1_mix_22 : decode cX1_mix 22 = .ok (.aload_n 0, 1) := by decide +kernel
theorem dX1_mix_23 : decode cX1_mix 23 = .ok (.getfield 27, 3) := by decide +kernel
theorem dX1_mix_26 : decode cX1_mix 26 = .ok (.i2l, 1) := by decide +kernel
theorem dX1_mix_27 : decode cX1_mix 27 = .ok (.lmul, 1) := by decide +kernel
theorem dX1_mix_28 : decode cX1_mix 28 = .ok (.iload_n 2, 1) := by decide +kernel
theorem dX1_mix_29 : decode cX1_mix 29 = .ok (.i2l, 1) := by decide +kernel
theorem dX1_mix_30 : decode cX1_mix 30 = .ok (.ldiv, 1) := by decide +kernel
theorem dX1_mix_31 : decode cX1_mix 31 = .ok (.putfield 19, 3) := by decide +kernel
theorem dX1_mix_34 : decode cX1_mix 34 = .ok (.iinc 2 1, 3) := by decide +kernel
theorem dX1_mix_37 : decode cX1_mix 37 = .ok (.goto (-35), 3) := by decide +kernel
theorem dX1_mix_40 : decode cX1_mix 40 = .ok (.return_, 1) := by decide +kernel
theorem dX2_init_0 : decode cX2_init 0 = .ok (.aload_n 0, 1) := by decide +kernel
theorem dX2_init_1 : decode cX2_init 1 = .ok (.invokespecial 3, 3) := by decide +kernel
theorem dX2_init_4 : decode cX2_init 4 = .ok (.aload_n 0, 1) := by decide +kernel
theorem dX2_init_5 : decode cX2_init 5 = .ok (.bipush 20, 2) := by decide +kernel
theorem dX2_init_7 : decode cX2_init 7 = .ok (.newarray .int, 2) := by decide +kernel
theorem dX2_init_9 : decode cX2_init 9 = .ok (.putfield 9, 3) := by decide +kernel
theorem dX2_init_12 : decode cX2_init 12 = .ok (.aload_n 0, 1) := by decide +kernel
theorem dX2_init_13 : decode cX2_init 13 = .ok (.bipush 20, 2) := by decide +kernel
theorem dX2_init_15 : decode cX2_init 15 = .ok (.newarray .int, 2) := by decide +kernel
theorem dX2_init_17 : decode cX2_init 17 = .ok (.putfield 15, 3) := by decide +kernel
theorem dX2_init_20 : decode cX2_init 20 = .ok (.return_, 1) := by decide +kernel
theorem dX2_measure_0 : decode cX2_measure 0 = .ok (.aload_n 0, 1) := by decide +kernel
theorem dX2_measure_1 : decode cX2_measure 1 = .ok (.iconst 0, 1) := by decide +kernel
theorem dX2_measure_2 : decode cX2_measure 2 = .ok (.putfield 18, 3) := by decide +kernel
theorem dX2_measure_5 : decode cX2_measure 5 = .ok (.iconst 0, 1) := by decide +kernel
theorem dX2_measure_6 : decode cX2_measure 6 = .ok (.istore 4, 2) := by decide +kernel
theorem dX2_measure_8 : decode cX2_measure 8 = .ok (.iconst 0, 1) := by decide +kernel
theorem dX2_measure_9 : decode cX2_measure 9 = .ok (.istore 5, 2) := by decide +kernel
theorem dX2_measure_11 : decode cX2_measure 11 = .ok (.iload 5, 2) := by decide +kernel
theorem dX2_measure_13 : decode cX2_measure 13 = .ok (.aload_n 1, 1) := by decide +kernel
theorem dX2_measure_14 : decode cX2_measure 14 = .ok (.getfield 22, 3) := by decide +kernel
theorem dX2_measure_17 : decode cX2_measure 17 = .ok (.if_icmp .ge 122, 3) := by decide +kernel
theorem dX2_measure_20 : decode cX2_measure 20 = .ok (.aload_n 1, 1) := by decide +kernel
theorem dX2_measure_21 : decode cX2_measure 21 = .ok (.iload 5, 2) := by decide +kernel
theorem dX2_measure_23 : decode cX2_measure 23 = .ok (.invokevirtual 27, 3) := by decide +kernel
theorem dX2_measure_26 : decode cX2_measure 26 = .ok (.ifCond .ne 23, 3) := by decide +kernel
theorem dX2_measure_29 : decode cX2_measure 29 = .ok (.aload_n 2, 1) := by decide +kernel
theorem dX2_measure_30 : decode cX2_measure 30 = .ok (.iload 5, 2) := by decide +kernel
theorem dX2_measure_32 : decode cX2_measure 32 = .ok (.invokevirtual 31, 3) := by decide +kernel
theorem dX2_measure_35 : decode cX2_measure 35 = .ok (.iconst (-1), 1) := by decide +kernel
theorem dX2_measure_36 : decode cX2_measure 36 = .ok (.if_icmp .ne 13, 3) := by decide +kernel
theorem dX2_measure_39 : decode cX2_measure 39 = .ok (.iload 5, 2) := by decide +kernel
theorem dX2_measure_41 : decode cX2_measure 41 = .ok (.iload_n 3, 1) := by decide +kernel
theorem dX2_measure_42 : decode cX2_measure 42 = .ok (.if_icmp .eq 7, 3) := by decide +kernel
theorem dX2_measure_45 : decode cX2_measure 45 = .ok (.iconst 1, 1) := by decide +kernel
theorem dX2_measure_46 : decode cX2_measure 46 = .ok (.goto 4, 3) := by decide +kernel
theorem dX2_measure_49 : decode cX2_measure 49 = .ok (.iconst 0, 1) := by decide +kernel
theorem dX2_measure_50 : decode cX2_measure 50 = .ok (.istore 6, 2) := by decide +kernel
theorem dX2_measure_52 : decode cX2_measure 52 = .ok (.iload 6, 2) := by decide +kernel
theorem dX2_measure_54 : decode cX2_measure 54 = .ok (.ifCond .eq 48, 3) := by decide +kernel
theorem dX2_measure_57 : decode cX2_measure 57 = .ok (.iload 4, 2) := by decide +kernel
theorem dX2_measure_59 : decode cX2_measure 59 = .ok (.ifCond .ne 43, 3) := by decide +kernel
theorem dX2_measure_62 : decode cX2_measure 62 = .ok (.aload_n 0, 1) := by decide +kernel
theorem dX2_measure_63 : decode cX2_measure 63 = .ok (.getfield 18, 3) := by decide +kernel
theorem dX2_measure_66 : decode cX2_measure 66 = .ok (.bipush 20, 2) := by decide +kernel
theorem dX2_measure_68 : decode cX2_measure 68 = .ok (.if_icmp .ge 34, 3) := by decide +kernel
theorem dX2_measure_71 : decode cX2_measure 71 = .ok (.aload_n 0, 1) := by decide +kernel
theorem dX2_measure_72 : decode cX2_measure 72 = .ok (.getfield 9, 3) := by decide +kernel
theorem dX2_measure_75 : decode cX2_measure 75 = .ok (.aload_n 0, 1) := by decide +kernel
theorem dX2_measure_76 : decode cX2_measure 76 = .ok (.getfield 18, 3) := by decide +kernel
theorem dX2_measure_79 : decode cX2_measure 79 = .ok (.iload 5, 2) := by decide +kernel
theorem dX2_measure_81 : decode cX2_measure 81 = .ok (.iastore, 1) := by decide +kernel
theorem dX2_measure_82 : decode cX2_measure 82 = .ok (.aload_n 0, 1) := by decide +kernel
theorem dX2_measure_83 : decode cX2_measure 83 = .ok (.getfield 15, 3) := by decide +kernel
theorem dX2_measure_86 : decode cX2_measure 86 = .ok (.aload_n 0, 1) := by decide +kernel
theorem dX2_measure_87 : decode cX2_measure 87 = .ok (.getfield 18, 3) := by decide +kernel
theorem dX2_measure_90 : decode cX2_measure 90 = .ok (.iconst 0, 1) := by decide +kernel
theorem dX2_measure_91 : decode cX2_measure 91 = .ok (.iastore, 1) := by decide +kernel
theorem dX2_measure_92 : decode cX2_measure 92 = .ok (.aload_n 0, 1) := by decide +kernel
theorem dX2_measure_93 : decode cX2_measure 93 = .ok (.dup, 1) := by decide +kernel
theorem dX2_measure_94 : decode cX2_measure 94 = .ok (.getfield 18, 3) := by decide +kernel
theorem dX2_measure_97 : decode cX2_measure 97 = .ok (.iconst 1, 1) := by decide +kernel
theorem dX2_measure_98 : decode cX2_measure 98 = .ok (.iadd, 1) := by decide +kernel
theorem dX2_measure_99 : decode cX2_measure 99 = .ok (.putfield 18, 3) := by decide +kernel
theorem dX2_measure_102 : decode cX2_measure 102 = .ok (.iload 6, 2) := by decide +kernel
theorem dX2_measure_104 : decode cX2_measure 104 = .ok (.ifCond .eq 25, 3) := by decide +kernel
theorem dX2_measure_107 : decode cX2_measure 107 = .ok (.aload_n 0, 1) := by decide +kernel
theorem dX2_measure_108 : decode cX2_measure 108 = .ok (.getfield 18, 3) := by decide +kernel
theorem dX2_measure_111 : decode cX2_measure 111 = .ok (.ifCond .le 18, 3) := by decide +kernel
theorem dX2_measure_114 : decode cX2_measure 114 = .ok (.aload_n 0, 1) := by decide +kernel
theorem dX2_measure_115 : decode cX2_measure 115 = .ok (.getfield 15, 3) := by decide +kernel
theorem dX2_measure_118 : decode cX2_measure 118 = .ok (.aload_n 0, 1) := by decide +kernel
theorem dX2_measure_119 : decode cX2_measure 119 = .ok (.getfield 18, 3) := by decide +kernel
theorem dX2_measure_122 : decode cX2_measure 122 = .ok (.iconst 1, 1) := by decide +kernel
theorem dX2_measure_123 : decode cX2_measure 123 = .ok (.isub, 1) := by decide +kernel
theorem dX2_measure_124 : decode cX2_measure 124 = .ok (.dup2, 1) := by decide +kernel
theorem dX2_measure_125 : decode cX2_measure 125 = .ok (.iaload, 1) := by decide +kernel
theorem dX2_measure_126 : decode cX2_measure 126 = .ok (.iconst 1, 1) := by decide +kernel
theorem dX2_measure_127 : decode cX2_measure 127 = .ok (.iadd, 1) := by decide +kernel
theorem dX2_measure_128 : decode cX2_measure 128 = .ok (.iastore, 1) := by decide +kernel
theorem dX2_measure_129 : decode cX2_measure 129 = .ok (.iload 6, 2) := by decide +kernel
theorem dX2_measure_131 : decode cX2_measure 131 = .ok (.istore 4, 2) := by decide +kernel
theorem dX2_measure_133 : decode cX2_measure 133 = .ok (.iinc 5 1, 3) := by decide +kernel
theorem dX2_measure_136 : decode cX2_measure 136 = .ok (.goto (-125), 3) := by decide +kernel
theorem dX2_measure_139 : decode cX2_measure 139 = .ok (.return_, 1) := by decide +kernel
theorem dX2_placesIn_0 : decode cX2_placesIn 0 = .ok (.iload_n 0, 1) := by decide +kernel
theorem dX2_placesIn_1 : decode cX2_placesIn 1 = .ok (.iload_n 1, 1) := by decide +kernel
theorem dX2_placesIn_2 : decode cX2_placesIn 2 = .ok (.if_icmp .ge 7, 3) := by decide +kernel
theorem dX2_placesIn_5 : decode cX2_placesIn 5 = .ok (.iconst 0, 1) := by decide +kernel
theorem dX2_placesIn_6 : decode cX2_placesIn 6 = .ok (.goto 8, 3) := by decide +kernel
theorem dX2_placesIn_9 : decode cX2_placesIn 9 = .ok (.iload_n 0, 1) := by decide +kernel
theorem dX2_placesIn_10 : decode cX2_placesIn 10 = .ok (.iload_n 1, 1) := by decide +kernel
theorem dX2_placesIn_11 : decode cX2_placesIn 11 = .ok (.isub, 1) := by decide +kernel
theorem dX2_placesIn_12 : decode cX2_placesIn 12 = .ok (.iconst 1, 1) := by decide +kernel
theorem dX2_placesIn_13 : decode cX2_placesIn 13 = .ok (.iadd, 1) := by decide +kernel
theorem dX2_placesIn_14 : decode cX2_placesIn 14 = .ok (.ireturn, 1) := by decide +kernel
theorem dX2_startOf_0 : decode cX2_startOf 0 = .ok (.iload_n 1, 1) := by decide +kernel
theorem dX2_startOf_1 : decode cX2_startOf 1 = .ok (.ifCond .lt 20, 3) := by decide +kernel
theorem dX2_startOf_4 : decode cX2_startOf 4 = .ok (.iload_n 1, 1) := by decide +kernel
theorem dX2_startOf_5 : decode cX2_startOf 5 = .ok (.aload_n 0, 1) := by decide +kernel
theorem dX2_startOf_6 : decode cX2_startOf 6 = .ok (.getfield 18, 3) := by decide +kernel
theorem dX2_startOf_9 : decode cX2_startOf 9 = .ok (.if_icmp .ge 12, 3) := by decide +kernel
theorem dX2_startOf_12 : decode cX2_startOf 12 = .ok (.aload_n 0, 1) := by decide +kernel
theorem dX2_startOf_13 : decode cX2_startOf 13 = .ok (.getfield 9, 3) := by decide +kernel
theorem dX2_startOf_16 : decode cX2_startOf 16 = .ok (.iload_n 1, 1) := by decide +kernel
theorem dX2_startOf_17 : decode cX2_startOf 17 = .ok (.iaload, 1) := by decide +kernel
theorem dX2_startOf_18 : decode cX2_startOf 18 = .ok (.goto 4, 3) := by decide +kernel
theorem dX2_startOf_21 : decode cX2_startOf 21 = .ok (.iconst 0, 1) := by decide +kernel
theorem dX2_startOf_22 : decode cX2_startOf 22 = .ok (.ireturn, 1) := by decide +kernel
theorem dX2_sizeOf_0 : decode cX2_sizeOf 0 = .ok (.iload_n 1, 1) := by decide +kernel
theorem dX2_sizeOf_1 : decode cX2_sizeOf 1 = .ok (.ifCond .lt 20, 3) := by decide +kernel
theorem dX2_sizeOf_4 : decode cX2_sizeOf 4 = .ok (.iload_n 1, 1) := by decide +kernel
theorem dX2_sizeOf_5 : decode cX2_sizeOf 5 = .ok (.aload_n 0, 1) := by decide +kernel
theorem dX2_sizeOf_6 : decode cX2_sizeOf 6 = .ok (.getfield 18, 3) := by decide +kernel
theorem dX2_sizeOf_9 : decode cX2_sizeOf 9 = .ok (.if_icmp .ge 12, 3) := by decide +kernel
theorem dX2_sizeOf_12 : decode cX2_sizeOf 12 = .ok (.aload_n 0, 1) := by decide +kernel
theorem dX2_sizeOf_13 : decode cX2_sizeOf 13 = .ok (.getfield 15, 3) := by decide +kernel
theorem dX2_sizeOf_16 : decode cX2_sizeOf 16 = .ok (.iload_n 1, 1) := by decide +kernel
theorem dX2_sizeOf_17 : decode cX2_sizeOf 17 = .ok (.iaload, 1) := by decide +kernel
theorem dX2_sizeOf_18 : decode cX2_sizeOf 18 = .ok (.goto 4, 3) := by decide +kernel
theorem dX2_sizeOf_21 : decode cX2_sizeOf 21 = .ok (.iconst 0, 1) := by decide +kernel
theorem dX2_sizeOf_22 : decode cX2_sizeOf 22 = .ok (.ireturn, 1) := by decide +kernel
theorem dX2_placesFor_0 : decode cX2_placesFor 0 = .ok (.iconst 0, 1) := by decide +kernel
theorem dX2_placesFor_1 : decode cX2_placesFor 1 = .ok (.istore_n 2, 1) := by decide +kernel
theorem dX2_placesFor_2 : decode cX2_placesFor 2 = .ok (.iconst 0, 1) := by decide +kernel
theorem dX2_placesFor_3 : decode cX2_placesFor 3 = .ok (.istore_n 3, 1) := by decide +kernel
theorem dX2_placesFor_4 : decode cX2_placesFor 4 = .ok (.iload_n 3, 1) := by decide +kernel
theorem dX2_placesFor_5 : decode cX2_placesFor 5 = .ok (.aload_n 0, 1) := by decide +kernel
theorem dX2_placesFor_6 : decode cX2_placesFor 6 = .ok (.getfield 18, 3) := by decide +kernel
theorem dX2_placesFor_9 : decode cX2_placesFor 9 = .ok (.if_icmp .ge 22, 3) := by decide +kernel
theorem dX2_placesFor_12 : decode cX2_placesFor 12 = .ok (.iload_n 2, 1) := by decide +kernel
theorem dX2_placesFor_13 : decode cX2_placesFor 13 = .ok (.aload_n 0, 1) := by decide +kernel
theorem dX2_placesFor_14 : decode cX2_placesFor 14 = .ok (.getfield 15, 3) := by decide +kernel
theorem dX2_placesFor_17 : decode cX2_placesFor 17 = .ok (.iload_n 3, 1) := by decide +kernel
theorem dX2_placesFor_18 : decode cX2_placesFor 18 = .ok (.iaload, 1) := by decide +kernel
theorem dX2_placesFor_19 : decode cX2_placesFor 19 = .ok (.iload_n 1, 1) := by decide +kernel
theorem dX2_placesFor_20 : decode cX2_placesFor 20 = .ok (.invokestatic 37, 3) := by decide +kernel
theorem dX2_placesFor_23 : decode cX2_placesFor 23 = .ok (.iadd, 1) := by decide +kernel
theorem dX2_placesFor_24 : decode cX2_placesFor 24 = .ok (.istore_n 2, 1) := by decide +kernel
theorem dX2_placesFor_25 : decode cX2_placesFor 25 = .ok (.iinc 3 1, 3) := by decide +kernel
theorem dX2_placesFor_28 : decode cX2_placesFor 28 = .ok (.goto (-24), 3) := by decide +kernel
theorem dX2_placesFor_31 : decode cX2_placesFor 31 = .ok (.iload_n 2, 1) := by decide +kernel
theorem dX2_placesFor_32 : decode cX2_placesFor 32 = .ok (.ireturn, 1) := by decide +kernel
theorem dX2_placeFor_0 : decode cX2_placeFor 0 = .ok (.iload_n 2, 1) := by decide +kernel
theorem dX2_placeFor_1 : decode cX2_placeFor 1 = .ok (.istore_n 3, 1) := by decide +kernel
theorem dX2_placeFor_2 : decode cX2_placeFor 2 = .ok (.iconst 0, 1) := by decide +kernel
theorem dX2_placeFor_3 : decode cX2_placeFor 3 = .ok (.istore 4, 2) := by decide +kernel
theorem dX2_placeFor_5 : decode cX2_placeFor 5 = .ok (.iload 4, 2) := by decide +kernel
theorem dX2_placeFor_7 : decode cX2_placeFor 7 = .ok (.aload_n 0, 1) := by decide +kernel
theorem dX2_placeFor_8 : decode cX2_placeFor 8 = .ok (.getfield 18, 3) := by decide +kernel
theorem dX2_placeFor_11 : decode cX2_placeFor 11 = .ok (.if_icmp .ge 43, 3) := by decide +kernel
theorem dX2_placeFor_14 : decode cX2_placeFor 14 = .ok (.aload_n 0, 1) := by decide +kernel
theorem dX2_placeFor_15 : decode cX2_placeFor 15 = .ok (.getfield 15, 3) := by decide +kernel
theorem dX2_placeFor_18 : decode cX2_placeFor 18 = .ok (.iload 4, 2) := by decide +kernel
theorem dX2_placeFor_20 : decode cX2_placeFor 20 = .ok (.iaload, 1) := by decide +kernel
theorem dX2_placeFor_21 : decode cX2_placeFor 21 = .ok (.iload_n 1, 1) := by decide +kernel
theorem dX2_placeFor_22 : decode cX2_placeFor 22 = .ok (.invokestatic 37, 3) := by decide +kernel
theorem dX2_placeFor_25 : decode cX2_placeFor 25 = .ok (.istore 5, 2) := by decide +kernel
theorem dX2_placeFor_27 : decode cX2_placeFor 27 = .ok (.iload_n 3, 1) := by decide +kernel
theorem dX2_placeFor_28 : decode cX2_placeFor 28 = .ok (.iload 5, 2) := by decide +kernel
theorem dX2_placeFor_30 : decode cX2_placeFor 30 = .ok (.if_icmp .ge 13, 3) := by decide +kernel
theorem dX2_placeFor_33 : decode cX2_placeFor 33 = .ok (.aload_n 0, 1) := by decide +kernel
theorem dX2_placeFor_34 : decode cX2_placeFor 34 = .ok (.getfield 9, 3) := by decide +kernel
theorem dX2_placeFor_37 : decode cX2_placeFor 37 = .ok (.iload 4, 2) := by decide +kernel
theorem dX2_placeFor_39 : decode cX2_placeFor 39 = .ok (.iaload, 1) := by decide +kernel
theorem dX2_placeFor_40 : decode cX2_placeFor 40 = .ok (.iload_n 3, 1) := by decide +kernel
theorem dX2_placeFor_41 : decode cX2_placeFor 41 = .ok (.iadd, 1) := by decide +kernel
theorem dX2_placeFor_42 : decode cX2_placeFor 42 = .ok (.ireturn, 1) := by decide +kernel
theorem dX2_placeFor_43 : decode cX2_placeFor 43 = .ok (.iload_n 3, 1) := by decide +kernel
theorem dX2_placeFor_44 : decode cX2_placeFor 44 = .ok (.iload 5, 2) := by decide +kernel
theorem dX2_placeFor_46 : decode cX2_placeFor 46 = .ok (.isub, 1) := by decide +kernel
theorem dX2_placeFor_47 : decode cX2_placeFor 47 = .ok (.istore_n 3, 1) := by decide +kernel
theorem dX2_placeFor_48 : decode cX2_placeFor 48 = .ok (.iinc 4 1, 3) := by decide +kernel
theorem dX2_placeFor_51 : decode cX2_placeFor 51 = .ok (.goto (-46), 3) := by decide +kernel
theorem dX2_placeFor_54 : decode cX2_placeFor 54 = .ok (.iconst (-1), 1) := by decide +kernel
theorem dX2_placeFor_55 : decode cX2_placeFor 55 = .ok (.ireturn, 1) := by decide +kernel
theorem dX2_mostOf_0 : decode cX2_mostOf 0 = .ok (.iconst 0, 1) := by decide +kernel
theorem dX2_mostOf_1 : decode cX2_mostOf 1 = .ok (.istore_n 2, 1) := by decide +kernel
theorem dX2_mostOf_2 : decode cX2_mostOf 2 = .ok (.iconst 0, 1) := by decide +kernel
theorem dX2_mostOf_3 : decode cX2_mostOf 3 = .ok (.istore_n 3, 1) := by decide +kernel
theorem dX2_mostOf_4 : decode cX2_mostOf 4 = .ok (.iload_n 3, 1) := by decide +kernel
theorem dX2_mostOf_5 : decode cX2_mostOf 5 = .ok (.aload_n 0, 1) := by decide +kernel
theorem dX2_mostOf_6 : decode cX2_mostOf 6 = .ok (.getfield 18, 3) := by decide +kernel
theorem dX2_mostOf_9 : decode cX2_mostOf 9 = .ok (.if_icmp .ge 24, 3) := by decide +kernel
theorem dX2_mostOf_12 : decode cX2_mostOf 12 = .ok (.iload_n 1, 1) := by decide +kernel
theorem dX2_mostOf_13 : decode cX2_mostOf 13 = .ok (.ifCond .le 20, 3) := by decide +kernel
theorem dX2_mostOf_16 : decode cX2_mostOf 16 = .ok (.iload_n 2, 1) := by decide +kernel
theorem dX2_mostOf_17 : decode cX2_mostOf 17 = .ok (.aload_n 0, 1) := by decide +kernel
theorem dX2_mostOf_18 : decode cX2_mostOf 18 = .ok (.getfield 15, 3) := by decide +kernel
theorem dX2_mostOf_21 : decode cX2_mostOf 21 = .ok (.iload_n 3, 1) := by decide +kernel
theorem dX2_mostOf_22 : decode cX2_mostOf 22 = .ok (.iaload, 1) := by decide +kernel
theorem dX2_mostOf_23 : decode cX2_mostOf 23 = .ok (.iload_n 1, 1) := by decide +kernel
theorem dX2_mostOf_24 : decode cX2_mostOf 24 = .ok (.idiv, 1) := by decide +kernel
theorem dX2_mostOf_25 : decode cX2_mostOf 25 = .ok (.iadd, 1) := by decide +kernel
theorem dX2_mostOf_26 : decode cX2_mostOf 26 = .ok (.istore_n 2, 1) := by decide +kernel
theorem dX2_mostOf_27 : decode cX2_mostOf 27 = .ok (.iinc 3 1, 3) := by decide +kernel
theorem dX2_mostOf_30 : decode cX2_mostOf 30 = .ok (.goto (-26), 3) := by decide +kernel
theorem dX2_mostOf_33 : decode cX2_mostOf 33 = .ok (.iload_n 2, 1) := by decide +kernel
theorem dX2_mostOf_34 : decode cX2_mostOf 34 = .ok (.ireturn, 1) := by decide +kernel
theorem dX2_longest_0 : decode cX2_longest 0 = .ok (.iconst 0, 1) := by decide +kernel
theorem dX2_longest_1 : decode cX2_longest 1 = .ok (.istore_n 1, 1) := by decide +kernel
theorem dX2_longest_2 : decode cX2_longest 2 = .ok (.iconst 0, 1) := by decide +kernel
theorem dX2_longest_3 : decode cX2_longest 3 = .ok (.istore_n 2, 1) := by decide +kernel
theorem dX2_longest_4 : decode cX2_longest 4 = .ok (.iload_n 2, 1) := by decide +kernel
theorem dX2_longest_5 : decode cX2_longest 5 = .ok (.aload_n 0, 1) := by decide +kernel
theorem dX2_longest_6 : decode cX2_longest 6 = .ok (.getfield 18, 3) := by decide +kernel
theorem dX2_longest_9 : decode cX2_longest 9 = .ok (.if_icmp .ge 20, 3) := by decide +kernel
theorem dX2_longest_12 : decode cX2_longest 12 = .ok (.iload_n 1, 1) := by decide +kernel
theorem dX2_longest_13 : decode cX2_longest 13 = .ok (.aload_n 0, 1) := by decide +kernel
theorem dX2_longest_14 : decode cX2_longest 14 = .ok (.getfield 15, 3) := by decide +kernel
theorem dX2_longest_17 : decode cX2_longest 17 = .ok (.iload_n 2, 1) := by decide +kernel
theorem dX2_longest_18 : decode cX2_longest 18 = .ok (.iaload, 1) := by decide +kernel
theorem dX2_longest_19 : decode cX2_longest 19 = .ok (.invokestatic 41, 3) := by decide +kernel
theorem dX2_longest_22 : decode cX2_longest 22 = .ok (.istore_n 1, 1) := by decide +kernel
theorem dX2_longest_23 : decode cX2_longest 23 = .ok (.iinc 2 1, 3) := by decide +kernel
theorem dX2_longest_26 : decode cX2_longest 26 = .ok (.goto (-22), 3) := by decide +kernel
theorem dX2_longest_29 : decode cX2_longest 29 = .ok (.iload_n 1, 1) := by decide +kernel
theorem dX2_longest_30 : decode cX2_longest 30 = .ok (.ireturn, 1) := by decide +kernel
theorem dX2_yardsBelow_0 : decode cX2_yardsBelow 0 = .ok (.iconst 0, 1) := by decide +kernel
theorem dX2_yardsBelow_1 : decode cX2_yardsBelow 1 = .ok (.istore_n 2, 1) := by decide +kernel
theorem dX2_yardsBelow_2 : decode cX2_yardsBelow 2 = .ok (.iconst 0, 1) := by decide +kernel
theorem dX2_yardsBelow_3 : decode cX2_yardsBelow 3 = .ok (.istore_n 3, 1) := by decide +kernel
theorem dX2_yardsBelow_4 : decode cX2_yardsBelow 4 = .ok (.iload_n 3, 1) := by decide +kernel
theorem dX2_yardsBelow_5 : decode cX2_yardsBelow 5 = .ok (.aload_n 0, 1) := by decide +kernel
theorem dX2_yardsBelow_6 : decode cX2_yardsBelow 6 = .ok (.getfield 18, 3) := by decide +kernel
theorem dX2_yardsBelow_9 : decode cX2_yardsBelow 9 = .ok (.if_icmp .ge 28, 3) := by decide +kernel
theorem dX2_yardsBelow_12 : decode cX2_yardsBelow 12 = .ok (.aload_n 0, 1) := by decide +kernel
theorem dX2_yardsBelow_13 : decode cX2_yardsBelow 13 = .ok (.getfield 15, 3) := by decide +kernel
theorem dX2_yardsBelow_16 : decode cX2_yardsBelow 16 = .ok (.iload_n 3, 1) := by decide +kernel
theorem dX2_yardsBelow_17 : decode cX2_yardsBelow 17 = .ok (.iaload, 1) := by decide +kernel
theorem dX2_yardsBelow_18 : decode cX2_yardsBelow 18 = .ok (.iload_n 1, 1) := by decide +kernel
theorem dX2_yardsBelow_19 : decode cX2_yardsBelow 19 = .ok (.if_icmp .ge 12, 3) := by decide +kernel
theorem dX2_yardsBelow_22 : decode cX2_yardsBelow 22 = .ok (.iload_n 2, 1) := by decide +kernel
theorem dX2_yardsBelow_23 : decode cX2_yardsBelow 23 = .ok (.aload_n 0, 1) := by decide +kernel
theorem dX2_yardsBelow_24 : decode cX2_yardsBelow 24 = .ok (.getfield 15, 3) := by decide +kernel
theorem dX2_yardsBelow_27 : decode cX2_yardsBelow 27 = .ok (.iload_n 3, 1) := by decide +kernel
theorem dX2_yardsBelow_28 : decode cX2_yardsBelow 28 = .ok (.iaload, 1) := by decide +kernel
theorem dX2_yardsBelow_29 : decode cX2_yardsBelow 29 = .ok (.iadd, 1) := by decide +kernel
theorem dX2_yardsBelow_30 : decode cX2_yardsBelow 30 = .ok (.istore_n 2, 1) := by decide +kernel
theorem dX2_yardsBelow_31 : decode cX2_yardsBelow 31 = .ok (.iinc 3 1, 3) := by decide +kernel
theorem dX2_yardsBelow_34 : decode cX2_yardsBelow 34 = .ok (.goto (-30), 3) := by decide +kernel
theorem dX2_yardsBelow_37 : decode cX2_yardsBelow 37 = .ok (.iload_n 2, 1) := by decide +kernel
theorem dX2_yardsBelow_38 : decode cX2_yardsBelow 38 = .ok (.ireturn, 1) := by decide +kernel
theorem dX3_init_0 : decode cX3_init 0 = .ok (.aload_n 0, 1) := by decide +kernel
theorem dX3_init_1 : decode cX3_init 1 = .ok (.invokespecial 3, 3) := by decide +kernel
theorem dX3_init_4 : decode cX3_init 4 = .ok (.aload_n 0, 1) := by decide +kernel
theorem dX3_init_5 : decode cX3_init 5 = .ok (.new 9, 3) := by decide +kernel
theorem dX3_init_8 : decode cX3_init 8 = .ok (.dup, 1) := by decide +kernel
theorem dX3_init_9 : decode cX3_init 9 = .ok (.invokespecial 11, 3) := by decide +kernel
theorem dX3_init_12 : decode cX3_init 12 = .ok (.putfield 12, 3) := by decide +kernel
theorem dX3_init_15 : decode cX3_init 15 = .ok (.aload_n 0, 1) := by decide +kernel
theorem dX3_init_16 : decode cX3_init 16 = .ok (.iconst 3, 1) := by decide +kernel
theorem dX3_init_17 : decode cX3_init 17 = .ok (.newarray .int, 2) := by decide +kernel
theorem dX3_init_19 : decode cX3_init 19 = .ok (.putfield 18, 3) := by decide +kernel
theorem dX3_init_22 : decode cX3_init 22 = .ok (.aload_n 0, 1) := by decide +kernel
theorem dX3_init_23 : decode cX3_init 23 = .ok (.iconst 3, 1) := by decide +kernel
theorem dX3_init_24 : decode cX3_init 24 = .ok (.newarray .boolean, 2) := by decide +kernel
theorem dX3_init_26 : decode cX3_init 26 = .ok (.putfield 22, 3) := by decide +kernel
theorem dX3_init_29 : decode cX3_init 29 = .ok (.aload_n 0, 1) := by decide +kernel
theorem dX3_init_30 : decode cX3_init 30 = .ok (.aload_n 1, 1) := by decide +kernel
theorem dX3_init_31 : decode cX3_init 31 = .ok (.putfield 26, 3) := by decide +kernel
theorem dX3_init_34 : decode cX3_init 34 = .ok (.return_, 1) := by decide +kernel
theorem dX3_read_0 : decode cX3_read 0 = .ok (.aload_n 0, 1) := by decide +kernel
theorem dX3_read_1 : decode cX3_read 1 = .ok (.getfield 26, 3) := by decide +kernel
theorem dX3_read_4 : decode cX3_read 4 = .ok (.invokevirtual 30, 3) := by decide +kernel
theorem dX3_read_7 : decode cX3_read 7 = .ok (.aload_n 0, 1) := by decide +kernel
theorem dX3_read_8 : decode cX3_read 8 = .ok (.getfield 12, 3) := by decide +kernel
theorem dX3_read_11 : decode cX3_read 11 = .ok (.invokevirtual 35, 3) := by decide +kernel
theorem dX3_read_14 : decode cX3_read 14 = .ok (.aload_n 0, 1) := by decide +kernel
theorem dX3_read_15 : decode cX3_read 15 = .ok (.getstatic 38, 3) := by decide +kernel
theorem dX3_read_18 : decode cX3_read 18 = .ok (.invokevirtual 41, 3) := by decide +kernel
theorem dX3_read_21 : decode cX3_read 21 = .ok (.aload_n 0, 1) := by decide +kernel
theorem dX3_read_22 : decode cX3_read 22 = .ok (.iconst 0, 1) := by decide +kernel
theorem dX3_read_23 : decode cX3_read 23 = .ok (.putfield 45, 3) := by decide +kernel
theorem dX3_read_26 : decode cX3_read 26 = .ok (.aload_n 0, 1) := by decide +kernel
theorem dX3_read_27 : decode cX3_read 27 = .ok (.iconst 0, 1) := by decide +kernel
theorem dX3_read_28 : decode cX3_read 28 = .ok (.putfield 49, 3) := by decide +kernel
theorem dX3_read_31 : decode cX3_read 31 = .ok (.aload_n 0, 1) := by decide +kernel
theorem dX3_read_32 : decode cX3_read 32 = .ok (.invokevirtual 53, 3) := by decide +kernel
theorem dX3_read_35 : decode cX3_read 35 = .ok (.iconst 0, 1) := by decide +kernel
theorem dX3_read_36 : decode cX3_read 36 = .ok (.istore_n 1, 1) := by decide +kernel
theorem dX3_read_37 : decode cX3_read 37 = .ok (.iload_n 1, 1) := by decide +kernel
theorem dX3_read_38 : decode cX3_read 38 = .ok (.sipush 160, 3) := by decide +kernel
theorem dX3_read_41 : decode cX3_read 41 = .ok (.if_icmp .ge 32, 3) := by decide +kernel
theorem dX3_read_44 : decode cX3_read 44 = .ok (.aload_n 0, 1) := by decide +kernel
theorem dX3_read_45 : decode cX3_read 45 = .ok (.getfield 26, 3) := by decide +kernel
theorem dX3_read_48 : decode cX3_read 48 = .ok (.invokevirtual 56, 3) := by decide +kernel
theorem dX3_read_51 : decode cX3_read 51 = .ok (.bipush 59, 2) := by decide +kernel
theorem dX3_read_53 : decode cX3_read 53 = .ok (.if_icmp .ne 20, 3) := by decide +kernel
theorem dX3_read_56 : decode cX3_read 56 = .ok (.aload_n 0, 1) := by decide +kernel
theorem dX3_read_57 : decode cX3_read 57 = .ok (.getfield 26, 3) := by decide +kernel
theorem dX3_read_60 : decode cX3_read 60 = .ok (.invokevirtual 60, 3) := by decide +kernel
theorem dX3_read_63 : decode cX3_read 63 = .ok (.aload_n 0, 1) := by decide +kernel
theorem dX3_read_64 : decode cX3_read 64 = .ok (.invokevirtual 53, 3) := by decide +kernel
theorem dX3_read_67 : decode cX3_read 67 = .ok (.iinc 1 1, 3) := by decide +kernel
theorem dX3_read_70 : decode cX3_read 70 = .ok (.goto (-33), 3) := by decide +kernel
theorem dX3_read_73 : decode cX3_read 73 = .ok (.aload_n 0, 1) := by decide +kernel
theorem dX3_read_74 : decode cX3_read 74 = .ok (.getfield 26, 3) := by decide +kernel
theorem dX3_read_77 : decode cX3_read 77 = .ok (.invokevirtual 56, 3) := by decide +kernel
theorem dX3_read_80 : decode cX3_read 80 = .ok (.iconst (-1), 1) := by decide +kernel
theorem dX3_read_81 : decode cX3_read 81 = .ok (.if_icmp .ne 13, 3) := by decide +kernel
theorem dX3_read_84 : decode cX3_read 84 = .ok (.aload_n 0, 1) := by decide +kernel
theorem dX3_read_85 : decode cX3_read 85 = .ok (.getfield 12, 3) := by decide +kernel
theorem dX3_read_88 : decode cX3_read 88 = .ok (.getfield 63, 3) := by decide +kernel
theorem dX3_read_91 : decode cX3_read 91 = .ok (.ifCond .ne 10, 3) := by decide +kernel
theorem dX3_read_94 : decode cX3_read 94 = .ok (.aload_n 0, 1) := by decide +kernel
theorem dX3_read_95 : decode cX3_read 95 = .ok (.getfield 26, 3) := by decide +kernel
theorem dX3_read_98 : decode cX3_read 98 = .ok (.invokevirtual 66, 3) := by decide +kernel
theorem dX3_read_101 : decode cX3_read 101 = .ok (.aload_n 0, 1) := by decide +kernel
theorem dX3_read_102 : decode cX3_read 102 = .ok (.getfield 26, 3) := by decide +kernel
theorem dX3_read_105 : decode cX3_read 105 = .ok (.getfield 69, 3) := by decide +kernel
theorem dX3_read_108 : decode cX3_read 108 = .ok (.ireturn, 1) := by decide +kernel
theorem dX3_setKerb_0 : decode cX3_setKerb 0 = .ok (.aload_n 0, 1) := by decide +kernel
theorem dX3_setKerb_1 : decode cX3_setKerb 1 = .ok (.getfield 12, 3) := by decide +kernel
theorem dX3_setKerb_4 : decode cX3_setKerb 4 = .ok (.aload_n 1, 1) := by decide +kernel
theorem dX3_setKerb_5 : decode cX3_setKerb 5 = .ok (.iconst 0, 1) := by decide +kernel
theorem dX3_setKerb_6 : decode cX3_setKerb 6 = .ok (.iaload, 1) := by decide +kernel
theorem dX3_setKerb_7 : decode cX3_setKerb 7 = .ok (.putfield 72, 3) := by decide +kernel
theorem dX3_setKerb_10 : decode cX3_setKerb 10 = .ok (.aload_n 0, 1) := by decide +kernel
theorem dX3_setKerb_11 : decode cX3_setKerb 11 = .ok (.getfield 12, 3) := by decide +kernel
theorem dX3_setKerb_14 : decode cX3_setKerb 14 = .ok (.aload_n 1, 1) := by decide +kernel
theorem dX3_setKerb_15 : decode cX3_setKerb 15 = .ok (.iconst 1, 1) := by decide +kernel
theorem dX3_setKerb_16 : decode cX3_setKerb 16 = .ok (.iaload, 1) := by decide +kernel
theorem dX3_setKerb_17 : decode cX3_setKerb 17 = .ok (.putfield 75, 3) := by decide +kernel
theorem dX3_setKerb_20 : decode cX3_setKerb 20 = .ok (.aload_n 0, 1) := by decide +kernel
theorem dX3_setKerb_21 : decode cX3_setKerb 21 = .ok (.getfield 12, 3) := by decide +kernel
theorem dX3_setKerb_24 : decode cX3_setKerb 24 = .ok (.aload_n 1, 1) := by decide +kernel
theorem dX3_setKerb_25 : decode cX3_setKerb 25 = .ok (.iconst 2, 1) := by decide +kernel
theorem dX3_setKerb_26 : decode cX3_setKerb 26 = .ok (.iaload, 1) := by decide +kernel
theorem dX3_setKerb_27 : decode cX3_setKerb 27 = .ok (.putfield 78, 3) := by decide +kernel
theorem dX3_setKerb_30 : decode cX3_setKerb 30 = .ok (.return_, 1) := by decide +kernel
theorem dX3_readClause_0 : decode cX3_readClause 0 = .ok (.aload_n 0, 1) := by decide +kernel
theorem dX3_readClause_1 : decode cX3_readClause 1 = .ok (.getfield 26, 3) := by decide +kernel
theorem dX3_readClause_4 : decode cX3_readClause 4 = .ok (.invokevirtual 56, 3) := by decide +kernel
theorem dX3_readClause_7 : decode cX3_readClause 7 = .ok (.istore_n 1, 1) := by decide +kernel
theorem dX3_readClause_8 : decode cX3_readClause 8 = .ok (.iload_n 1, 1) := by decide +kernel
theorem dX3_readClause_9 : decode cX3_readClause 9 = .ok (.bipush 107, 2) := by decide +kernel
theorem dX3_readClause_11 : decode cX3_readClause 11 = .ok (.if_icmp .ne 41, 3) := by decide +kernel
theorem dX3_readClause_14 : decode cX3_readClause 14 = .ok (.aload_n 0, 1) := by decide +kernel
theorem dX3_readClause_15 : decode cX3_readClause 15 = .ok (.getfield 45, 3) := by decide +kernel
theorem dX3_readClause_18 : decode cX3_readClause 18 = .ok (.ifCond .ne 34, 3) := by decide +kernel
theorem dX3_readClause_21 : decode cX3_readClause 21 = .ok (.aload_n 0, 1) := by decide +kernel
theorem dX3_readClause_22 : decode cX3_readClause 22 = .ok (.iconst 1, 1) := by decide +kernel
theorem dX3_readClause_23 : decode cX3_readClause 23 = .ok (.putfield 45, 3) := by decide +kernel
theorem dX3_readClause_26 : decode cX3_readClause 26 = .ok (.aload_n 0, 1) := by decide +kernel
theorem dX3_readClause_27 : decode cX3_readClause 27 = .ok (.ldc 81, 2) := by decide +kernel
theorem dX3_readClause_29 : decode cX3_readClause 29 = .ok (.getstatic 83, 3) := by decide +kernel
theorem dX3_readClause_32 : decode cX3_readClause 32 = .ok (.getstatic 86, 3) := by decide +kernel
theorem dX3_readClause_35 : decode cX3_readClause 35 = .ok (.getstatic 38, 3) := by decide +kernel
theorem dX3_readClause_38 : decode cX3_readClause 38 = .ok (.invokevirtual 89, 3) := by decide +kernel
theorem dX3_readClause_41 : decode cX3_readClause 41 = .ok (.aload_n 0, 1) := by decide +kernel
theorem dX3_readClause_42 : decode cX3_readClause 42 = .ok (.aload_n 0, 1) := by decide +kernel
theorem dX3_readClause_43 : decode cX3_readClause 43 = .ok (.getfield 18, 3) := by decide +kernel
theorem dX3_readClause_46 : decode cX3_readClause 46 = .ok (.invokevirtual 41, 3) := by decide +kernel
theorem dX3_readClause_49 : decode cX3_readClause 49 = .ok (.goto 125, 3) := by decide +kernel
theorem dX3_readClause_52 : decode cX3_readClause 52 = .ok (.iload_n 1, 1) := by decide +kernel
theorem dX3_readClause_53 : decode cX3_readClause 53 = .ok (.bipush 115, 2) := by decide +kernel
theorem dX3_readClause_55 : decode cX3_readClause 55 = .ok (.if_icmp .ne 51, 3) := by decide +kernel
theorem dX3_readClause_58 : decode cX3_readClause 58 = .ok (.aload_n 0, 1) := by decide +kernel
theorem dX3_readClause_59 : decode cX3_readClause 59 = .ok (.getfield 12, 3) := by decide +kernel
theorem dX3_readClause_62 : decode cX3_readClause 62 = .ok (.getfield 63, 3) := by decide +kernel
theorem dX3_readClause_65 : decode cX3_readClause 65 = .ok (.iconst 4, 1) := by decide +kernel
theorem dX3_readClause_66 : decode cX3_readClause 66 = .ok (.if_icmp .ge 40, 3) := by decide +kernel
theorem dX3_readClause_69 : decode cX3_readClause 69 = .ok (.aload_n 0, 1) := by decide +kernel
theorem dX3_readClause_70 : decode cX3_readClause 70 = .ok (.ldc 93, 2) := by decide +kernel
theorem dX3_readClause_72 : decode cX3_readClause 72 = .ok (.getstatic 95, 3) := by decide +kernel
theorem dX3_readClause_75 : decode cX3_readClause 75 = .ok (.getstatic 98, 3) := by decide +kernel
theorem dX3_readClause_78 : decode cX3_readClause 78 = .ok (.getstatic 101, 3) := by decide +kernel
theorem dX3_readClause_81 : decode cX3_readClause 81 = .ok (.invokevirtual 89, 3) := by decide +kernel
theorem dX3_readClause_84 : decode cX3_readClause 84 = .ok (.aload_n 0, 1) := by decide +kernel
theorem dX3_readClause_85 : decode cX3_readClause 85 = .ok (.getfield 12, 3) := by decide +kernel
theorem dX3_readClause_88 : decode cX3_readClause 88 = .ok (.aload_n 0, 1) := by decide +kernel
theorem dX3_readClause_89 : decode cX3_readClause 89 = .ok (.getfield 18, 3) := by decide +kernel
theorem dX3_readClause_92 : decode cX3_readClause 92 = .ok (.iconst 0, 1) := by decide +kernel
theorem dX3_readClause_93 : decode cX3_readClause 93 = .ok (.iaload, 1) := by decide +kernel
theorem dX3_readClause_94 : decode cX3_readClause 94 = .ok (.aload_n 0, 1) := by decide +kernel
theorem dX3_readClause_95 : decode cX3_readClause 95 = .ok (.getfield 18, 3) := by decide +kernel
theorem dX3_readClause_98 : decode cX3_readClause 98 = .ok (.iconst 1, 1) := by decide +kernel
theorem dX3_readClause_99 : decode cX3_readClause 99 = .ok (.iaload, 1) := by decide +kernel
theorem dX3_readClause_100 : decode cX3_readClause 100 = .ok (.invokevirtual 104, 3) := by decide +kernel
theorem dX3_readClause_103 : decode cX3_readClause 103 = .ok (.goto 71, 3) := by decide +kernel
theorem dX3_readClause_106 : decode cX3_readClause 106 = .ok (.iload_n 1, 1) := by decide +kernel
theorem dX3_readClause_107 : decode cX3_readClause 107 = .ok (.bipush 103, 2) := by decide +kernel
theorem dX3_readClause_109 : decode cX3_readClause 109 = .ok (.if_icmp .ne 58, 3) := by decide +kernel
theorem dX3_readClause_112 : decode cX3_readClause 112 = .ok (.aload_n 0, 1) := by decide +kernel
theorem dX3_readClause_113 : decode cX3_readClause 113 = .ok (.getfield 49, 3) := by decide +kernel
theorem dX3_readClause_116 : decode cX3_readClause 116 = .ok (.iconst 4, 1) := by decide +kernel
theorem dX3_readClause_117 : decode cX3_readClause 117 = .ok (.if_icmp .ge 50, 3) := by decide +kernel
theorem dX3_readClause_120 : decode cX3_readClause 120 = .ok (.aload_n 0, 1) := by decide +kernel
theorem dX3_readClause_121 : decode cX3_readClause 121 = .ok (.dup, 1) := by decide +kernel
theorem dX3_readClause_122 : decode cX3_readClause 122 = .ok (.getfield 49, 3) := by decide +kernel
theorem dX3_readClause_125 : decode cX3_readClause 125 = .ok (.iconst 1, 1) := by decide +kernel
theorem dX3_readClause_126 : decode cX3_readClause 126 = .ok (.iadd, 1) := by decide +kernel
theorem dX3_readClause_127 : decode cX3_readClause 127 = .ok (.putfield 49, 3) := by decide +kernel
theorem dX3_readClause_130 : decode cX3_readClause 130 = .ok (.aload_n 0, 1) := by decide +kernel
theorem dX3_readClause_131 : decode cX3_readClause 131 = .ok (.ldc 108, 2) := by decide +kernel
theorem dX3_readClause_133 : decode cX3_readClause 133 = .ok (.getstatic 110, 3) := by decide +kernel
theorem dX3_readClause_136 : decode cX3_readClause 136 = .ok (.getstatic 113, 3) := by decide +kernel
theorem dX3_readClause_139 : decode cX3_readClause 139 = .ok (.getstatic 116, 3) := by decide +kernel
theorem dX3_readClause_142 : decode cX3_readClause 142 = .ok (.invokevirtual 89, 3) := by decide +kernel
theorem dX3_readClause_145 : decode cX3_readClause 145 = .ok (.aload_n 0, 1) := by decide +kernel
theorem dX3_readClause_146 : decode cX3_readClause 146 = .ok (.getfield 12, 3) := by decide +kernel
theorem dX3_readClause_149 : decode cX3_readClause 149 = .ok (.aload_n 0, 1) := by decide +kernel
theorem dX3_readClause_150 : decode cX3_readClause 150 = .ok (.getfield 18, 3) := by decide +kernel
theorem dX3_readClause_153 : decode cX3_readClause 153 = .ok (.iconst 0, 1) := by decide +kernel
theorem dX3_readClause_154 : decode cX3_readClause 154 = .ok (.iaload, 1) := by decide +kernel
theorem dX3_readClause_155 : decode cX3_readClause 155 = .ok (.aload_n 0, 1) := by decide +kernel
theorem dX3_readClause_156 : decode cX3_readClause 156 = .ok (.getfield 18, 3) := by decide +kernel
theorem dX3_readClause_159 : decode cX3_readClause 159 = .ok (.iconst 1, 1) := by decide +kernel
theorem dX3_readClause_160 : decode cX3_readClause 160 = .ok (.iaload, 1) := by decide +kernel
theorem dX3_readClause_161 : decode cX3_readClause 161 = .ok (.invokevirtual 119, 3) := by decide +kernel
theorem dX3_readClause_164 : decode cX3_readClause 164 = .ok (.goto 10, 3) := by decide +kernel
theorem dX3_readClause_167 : decode cX3_readClause 167 = .ok (.aload_n 0, 1) := by decide +kernel
theorem dX3_readClause_168 : decode cX3_readClause 168 = .ok (.getfield 26, 3) := by decide +kernel
theorem dX3_readClause_171 : decode cX3_readClause 171 = .ok (.invokevirtual 66, 3) := by decide +kernel
theorem dX3_readClause_174 : decode cX3_readClause 174 = .ok (.return_, 1) := by decide +kernel
theorem dX3_readItems_0 : decode cX3_readItems 0 = .ok (.iconst 0, 1) := by decide +kernel
theorem dX3_readItems_1 : decode cX3_readItems 1 = .ok (.istore 5, 2) := by decide +kernel
theorem dX3_readItems_3 : decode cX3_readItems 3 = .ok (.iload 5, 2) := by decide +kernel
theorem dX3_readItems_5 : decode cX3_readItems 5 = .ok (.aload 4, 2) := by decide +kernel
theorem dX3_readItems_7 : decode cX3_readItems 7 = .ok (.arraylength, 1) := by decide +kernel
theorem dX3_readItems_8 : decode cX3_readItems 8 = .ok (.if_icmp .ge 35, 3) := by decide +kernel
theorem dX3_readItems_11 : decode cX3_readItems 11 = .ok (.iload 5, 2) := by decide +kernel
theorem dX3_readItems_13 : decode cX3_readItems 13 = .ok (.iconst 3, 1) := by decide +kernel
theorem dX3_readItems_14 : decode cX3_readItems 14 = .ok (.if_icmp .ge 29, 3) := by decide +kernel
theorem dX3_readItems_17 : decode cX3_readItems 17 = .ok (.aload_n 0, 1) := by decide +kernel
theorem dX3_readItems_18 : decode cX3_readItems 18 = .ok (.getfield 18, 3) := by decide +kernel
theorem dX3_readItems_21 : decode cX3_readItems 21 = .ok (.iload 5, 2) := by decide +kernel
theorem dX3_readItems_23 : decode cX3_readItems 23 = .ok (.aload 4, 2) := by decide +kernel
theorem dX3_readItems_25 : decode cX3_readItems 25 = .ok (.iload 5, 2) := by decide +kernel
theorem dX3_readItems_27 : decode cX3_readItems 27 = .ok (.iaload, 1) := by decide +kernel
theorem dX3_readItems_28 : decode cX3_readItems 28 = .ok (.iastore, 1) := by decide +kernel
theorem dX3_readItems_29 : decode cX3_readItems 29 = .ok (.aload_n 0, 1) := by decide +kernel
theorem dX3_readItems_30 : decode cX3_readItems 30 = .ok (.getfield 22, 3) := by decide +kernel
theorem dX3_readItems_33 : decode cX3_readItems 33 = .ok (.iload 5, 2) := by decide +kernel
theorem dX3_readItems_35 : decode cX3_readItems 35 = .ok (.iconst 0, 1) := by decide +kernel
theorem dX3_readItems_36 : decode cX3_readItems 36 = .ok (.bastore, 1) := by decide +kernel
theorem dX3_readItems_37 : decode cX3_readItems 37 = .ok (.iinc 5 1, 3) := by decide +kernel
theorem dX3_readItems_40 : decode cX3_readItems 40 = .ok (.goto (-37), 3) := by decide +kernel
theorem dX3_readItems_43 : decode cX3_readItems 43 = .ok (.aload_n 0, 1) := by decide +kernel
theorem dX3_readItems_44 : decode cX3_readItems 44 = .ok (.getfield 26, 3) := by decide +kernel
theorem dX3_readItems_47 : decode cX3_readItems 47 = .ok (.invokevirtual 60, 3) := by decide +kernel
theorem dX3_readItems_50 : decode cX3_readItems 50 = .ok (.iconst 0, 1) := by decide +kernel
theorem dX3_readItems_51 : decode cX3_readItems 51 = .ok (.istore 5, 2) := by decide +kernel
theorem dX3_readItems_53 : decode cX3_readItems 53 = .ok (.iload 5, 2) := by decide +kernel
theorem dX3_readItems_55 : decode cX3_readItems 55 = .ok (.aload_n 1, 1) := by decide +kernel
theorem dX3_readItems_56 : decode cX3_readItems 56 = .ok (.invokevirtual 122, 3) := by decide +kernel
theorem dX3_readItems_59 : decode cX3_readItems 59 = .ok (.if_icmp .ge 77, 3) := by decide +kernel
theorem dX3_readItems_62 : decode cX3_readItems 62 = .ok (.aload_n 1, 1) := by decide +kernel
theorem dX3_readItems_63 : decode cX3_readItems 63 = .ok (.aload_n 0, 1) := by decide +kernel
theorem dX3_readItems_64 : decode cX3_readItems 64 = .ok (.getfield 26, 3) := by decide +kernel
theorem dX3_readItems_67 : decode cX3_readItems 67 = .ok (.invokevirtual 56, 3) := by decide +kernel
theorem dX3_readItems_70 : decode cX3_readItems 70 = .ok (.invokestatic 127, 3) := by decide +kernel
theorem dX3_readItems_73 : decode cX3_readItems 73 = .ok (.istore 6, 2) := by decide +kernel
theorem dX3_readItems_75 : decode cX3_readItems 75 = .ok (.iload 6, 2) := by decide +kernel
theorem dX3_readItems_77 : decode cX3_readItems 77 = .ok (.iconst (-1), 1) := by decide +kernel
theorem dX3_readItems_78 : decode cX3_readItems 78 = .ok (.if_icmp .eq 13, 3) := by decide +kernel
theorem dX3_readItems_81 : decode cX3_readItems 81 = .ok (.aload_n 0, 1) := by decide +kernel
theorem dX3_readItems_82 : decode cX3_readItems 82 = .ok (.getfield 22, 3) := by decide +kernel
theorem dX3_readItems_85 : decode cX3_readItems 85 = .ok (.iload 6, 2) := by decide +kernel
theorem dX3_readItems_87 : decode cX3_readItems 87 = .ok (.baload, 1) := by decide +kernel
theorem dX3_readItems_88 : decode cX3_readItems 88 = .ok (.ifCond .eq 4, 3) := by decide +kernel
theorem dX3_readItems_91 : decode cX3_readItems 91 = .ok (.return_, 1) := by decide +kernel
theorem dX3_readItems_92 : decode cX3_readItems 92 = .ok (.aload_n 0, 1) := by decide +kernel
theorem dX3_readItems_93 : decode cX3_readItems 93 = .ok (.getfield 26, 3) := by decide +kernel
theorem dX3_readItems_96 : decode cX3_readItems 96 = .ok (.invokevirtual 60, 3) := by decide +kernel
theorem dX3_readItems_99 : decode cX3_readItems 99 = .ok (.aload_n 0, 1) := by decide +kernel
theorem dX3_readItems_100 : decode cX3_readItems 100 = .ok (.getfield 22, 3) := by decide +kernel
theorem dX3_readItems_103 : decode cX3_readItems 103 = .ok (.iload 6, 2) := by decide +kernel
theorem dX3_readItems_105 : decode cX3_readItems 105 = .ok (.iconst 1, 1) := by decide +kernel
theorem dX3_readItems_106 : decode cX3_readItems 106 = .ok (.bastore, 1) := by decide +kernel
theorem dX3_readItems_107 : decode cX3_readItems 107 = .ok (.aload_n 0, 1) := by decide +kernel
theorem dX3_readItems_108 : decode cX3_readItems 108 = .ok (.getfield 18, 3) := by decide +kernel
theorem dX3_readItems_111 : decode cX3_readItems 111 = .ok (.iload 6, 2) := by decide +kernel
theorem dX3_readItems_113 : decode cX3_readItems 113 = .ok (.aload_n 0, 1) := by decide +kernel
theorem dX3_readItems_114 : decode cX3_readItems 114 = .ok (.getfield 26, 3) := by decide +kernel
theorem dX3_readItems_117 : decode cX3_readItems 117 = .ok (.iconst 2, 1) := by decide +kernel
theorem dX3_readItems_118 : decode cX3_readItems 118 = .ok (.aload_n 2, 1) := by decide +kernel
theorem dX3_readItems_119 : decode cX3_readItems 119 = .ok (.iload 6, 2) := by decide +kernel
theorem dX3_readItems_121 : decode cX3_readItems 121 = .ok (.iaload, 1) := by decide +kernel
theorem dX3_readItems_122 : decode cX3_readItems 122 = .ok (.aload_n 3, 1) := by decide +kernel
theorem dX3_readItems_123 : decode cX3_readItems 123 = .ok (.iload 6, 2) := by decide +kernel
theorem dX3_readItems_125 : decode cX3_readItems 125 = .ok (.iaload, 1) := by decide +kernel
theorem dX3_readItems_126 : decode cX3_readItems 126 = .ok (.invokevirtual 131, 3) := by decide +kernel
theorem dX3_readItems_129 : decode cX3_readItems 129 = .ok (.iastore, 1) := by decide +kernel
theorem dX3_readItems_130 : decode cX3_readItems 130 = .ok (.iinc 5 1, 3) := by decide +kernel
theorem dX3_readItems_133 : decode cX3_readItems 133 = .ok (.goto (-80), 3) := by decide +kernel
theorem dX3_readItems_136 : decode cX3_readItems 136 = .ok (.return_, 1) := by decide +kernel
theorem dX3_itemBy_0 : decode cX3_itemBy 0 = .ok (.iconst 0, 1) := by decide +kernel
theorem dX3_itemBy_1 : decode cX3_itemBy 1 = .ok (.istore_n 2, 1) := by decide +kernel
theorem dX3_itemBy_2 : decode cX3_itemBy 2 = .ok (.iload_n 2, 1) := by decide +kernel
theorem dX3_itemBy_3 : decode cX3_itemBy 3 = .ok (.aload_n 0, 1) := by decide +kernel
theorem dX3_itemBy_4 : decode cX3_itemBy 4 = .ok (.invokevirtual 122, 3) := by decide +kernel
theorem dX3_itemBy_7 : decode cX3_itemBy 7 = .ok (.if_icmp .ge 25, 3) := by decide +kernel
theorem dX3_itemBy_10 : decode cX3_itemBy 10 = .ok (.iload_n 2, 1) := by decide +kernel
theorem dX3_itemBy_11 : decode cX3_itemBy 11 = .ok (.iconst 3, 1) := by decide +kernel
theorem dX3_itemBy_12 : decode cX3_itemBy 12 = .ok (.if_icmp .ge 20, 3) := by decide +kernel
theorem dX3_itemBy_15 : decode cX3_itemBy 15 = .ok (.aload_n 0, 1) := by decide +kernel
theorem dX3_itemBy_16 : decode cX3_itemBy 16 = .ok (.iload_n 2, 1) := by decide +kernel
theorem dX3_itemBy_17 : decode cX3_itemBy 17 = .ok (.invokevirtual 135, 3) := by decide +kernel
theorem dX3_itemBy_20 : decode cX3_itemBy 20 = .ok (.iload_n 1, 1) := by decide +kernel
theorem dX3_itemBy_21 : decode cX3_itemBy 21 = .ok (.if_icmp .ne 5, 3) := by decide +kernel
theorem dX3_itemBy_24 : decode cX3_itemBy 24 = .ok (.iload_n 2, 1) := by decide +kernel
theorem dX3_itemBy_25 : decode cX3_itemBy 25 = .ok (.ireturn, 1) := by decide +kernel
theorem dX3_itemBy_26 : decode cX3_itemBy 26 = .ok (.iinc 2 1, 3) := by decide +kernel
theorem dX3_itemBy_29 : decode cX3_itemBy 29 = .ok (.goto (-27), 3) := by decide +kernel
theorem dX3_itemBy_32 : decode cX3_itemBy 32 = .ok (.iconst (-1), 1) := by decide +kernel
theorem dX3_itemBy_33 : decode cX3_itemBy 33 = .ok (.ireturn, 1) := by decide +kernel
theorem dX4_init_0 : decode cX4_init 0 = .ok (.aload_n 0, 1) := by decide +kernel
theorem dX4_init_1 : decode cX4_init 1 = .ok (.invokespecial 3, 3) := by decide +kernel
theorem dX4_init_4 : decode cX4_init 4 = .ok (.aload_n 0, 1) := by decide +kernel
theorem dX4_init_5 : decode cX4_init 5 = .ok (.aload_n 1, 1) := by decide +kernel
theorem dX4_init_6 : decode cX4_init 6 = .ok (.putfield 9, 3) := by decide +kernel
theorem dX4_init_9 : decode cX4_init 9 = .ok (.aload_n 0, 1) := by decide +kernel
theorem dX4_init_10 : decode cX4_init 10 = .ok (.aload_n 2, 1) := by decide +kernel
theorem dX4_init_11 : decode cX4_init 11 = .ok (.putfield 15, 3) := by decide +kernel
theorem dX4_init_14 : decode cX4_init 14 = .ok (.return_, 1) := by decide +kernel
theorem dX4_search_0 : decode cX4_search 0 = .ok (.aload_n 0, 1) := by decide +kernel
theorem dX4_search_1 : decode cX4_search 1 = .ok (.iconst (-1), 1) := by decide +kernel
theorem dX4_search_2 : decode cX4_search 2 = .ok (.putfield 19, 3) := by decide +kernel
theorem dX4_search_5 : decode cX4_search 5 = .ok (.aload_n 0, 1) := by decide +kernel
theorem dX4_search_6 : decode cX4_search 6 = .ok (.iconst (-1), 1) := by decide +kernel
theorem dX4_search_7 : decode cX4_search 7 = .ok (.putfield 23, 3) := by decide +kernel
theorem dX4_search_10 : decode cX4_search 10 = .ok (.aload_n 0, 1) := by decide +kernel
theorem dX4_search_11 : decode cX4_search 11 = .ok (.iconst (-1), 1) := by decide +kernel
theorem dX4_search_12 : decode cX4_search 12 = .ok (.putfield 26, 3) := by decide +kernel
theorem dX4_search_15 : decode cX4_search 15 = .ok (.iconst 0, 1) := by decide +kernel
theorem dX4_search_16 : decode cX4_search 16 = .ok (.istore_n 2, 1) := by decide +kernel
theorem dX4_search_17 : decode cX4_search 17 = .ok (.iload_n 2, 1) := by decide +kernel
theorem dX4_search_18 : decode cX4_search 18 = .ok (.aload_n 0, 1) := by decide +kernel
theorem dX4_search_19 : decode cX4_search 19 = .ok (.getfield 9, 3) := by decide +kernel
theorem dX4_search_22 : decode cX4_search 22 = .ok (.getfield 29, 3) := by decide +kernel
theorem dX4_search_25 : decode cX4_search 25 = .ok (.iload_n 1, 1) := by decide +kernel
theorem dX4_search_26 : decode cX4_search 26 = .ok (.isub, 1) := by decide +kernel
theorem dX4_search_27 : decode cX4_search 27 = .ok (.if_icmp .gt 88, 3) := by decide +kernel
theorem dX4_search_30 : decode cX4_search 30 = .ok (.aload_n 0, 1) := by decide +kernel
theorem dX4_search_31 : decode cX4_search 31 = .ok (.iconst 0, 1) := by decide +kernel
theorem dX4_search_32 : decode cX4_search 32 = .ok (.putfield 34, 3) := by decide +kernel
theorem dX4_search_35 : decode cX4_search 35 = .ok (.aload_n 0, 1) := by decide +kernel
theorem dX4_search_36 : decode cX4_search 36 = .ok (.iconst 0, 1) := by decide +kernel
theorem dX4_search_37 : decode cX4_search 37 = .ok (.putfield 37, 3) := by decide +kernel
theorem dX4_search_40 : decode cX4_search 40 = .ok (.aload_n 0, 1) := by decide +kernel
theorem dX4_search_41 : decode cX4_search 41 = .ok (.iload_n 2, 1) := by decide +kernel
theorem dX4_search_42 : decode cX4_search 42 = .ok (.iload_n 2, 1) := by decide +kernel
theorem dX4_search_43 : decode cX4_search 43 = .ok (.iload_n 1, 1) := by decide +kernel
theorem dX4_search_44 : decode cX4_search 44 = .ok (.iadd, 1) := by decide +kernel
theorem dX4_search_45 : decode cX4_search 45 = .ok (.invokevirtual 40, 3) := by decide +kernel
theorem dX4_search_48 : decode cX4_search 48 = .ok (.ifCond .eq 61, 3) := by decide +kernel
theorem dX4_search_51 : decode cX4_search 51 = .ok (.aload_n 0, 1) := by decide +kernel
theorem dX4_search_52 : decode cX4_search 52 = .ok (.iload_n 2, 1) := by decide +kernel
theorem dX4_search_53 : decode cX4_search 53 = .ok (.iload_n 1, 1) := by decide +kernel
theorem dX4_search_54 : decode cX4_search 54 = .ok (.invokevirtual 44, 3) := by decide +kernel
theorem dX4_search_57 : decode cX4_search 57 = .ok (.ifCond .eq 52, 3) := by decide +kernel
theorem dX4_search_60 : decode cX4_search 60 = .ok (.aload_n 0, 1) := by decide +kernel
theorem dX4_search_61 : decode cX4_search 61 = .ok (.iload_n 2, 1) := by decide +kernel
theorem dX4_search_62 : decode cX4_search 62 = .ok (.iload_n 1, 1) := by decide +kernel
theorem dX4_search_63 : decode cX4_search 63 = .ok (.invokevirtual 47, 3) := by decide +kernel
theorem dX4_search_66 : decode cX4_search 66 = .ok (.ifCond .eq 43, 3) := by decide +kernel
theorem dX4_search_69 : decode cX4_search 69 = .ok (.aload_n 0, 1) := by decide +kernel
theorem dX4_search_70 : decode cX4_search 70 = .ok (.getfield 26, 3) := by decide +kernel
theorem dX4_search_73 : decode cX4_search 73 = .ok (.iconst (-1), 1) := by decide +kernel
theorem dX4_search_74 : decode cX4_search 74 = .ok (.if_icmp .eq 14, 3) := by decide +kernel
theorem dX4_search_77 : decode cX4_search 77 = .ok (.aload_n 0, 1) := by decide +kernel
theorem dX4_search_78 : decode cX4_search 78 = .ok (.getfield 34, 3) := by decide +kernel
theorem dX4_search_81 : decode cX4_search 81 = .ok (.aload_n 0, 1) := by decide +kernel
theorem dX4_search_82 : decode cX4_search 82 = .ok (.getfield 19, 3) := by decide +kernel
theorem dX4_search_85 : decode cX4_search 85 = .ok (.if_icmp .ge 24, 3) := by decide +kernel
theorem dX4_search_88 : decode cX4_search 88 = .ok (.aload_n 0, 1) := by decide +kernel
theorem dX4_search_89 : decode cX4_search 89 = .ok (.aload_n 0, 1) := by decide +kernel
theorem dX4_search_90 : decode cX4_search 90 = .ok (.getfield 34, 3) := by decide +kernel
theorem dX4_search_93 : decode cX4_search 93 = .ok (.putfield 19, 3) := by decide +kernel
theorem dX4_search_96 : decode cX4_search 96 = .ok (.aload_n 0, 1) := by decide +kernel
theorem dX4_search_97 : decode cX4_search 97 = .ok (.aload_n 0, 1) := by decide +kernel
theorem dX4_search_98 : decode cX4_search 98 = .ok (.getfield 37, 3) := by decide +kernel
theorem dX4_search_101 : decode cX4_search 101 = .ok (.putfield 23, 3) := by decide +kernel
theorem dX4_search_104 : decode cX4_search 104 = .ok (.aload_n 0, 1) := by decide +kernel
theorem dX4_search_105 : decode cX4_search 105 = .ok (.iload_n 2, 1) := by decide +kernel
theorem dX4_search_106 : decode cX4_search 106 = .ok (.putfield 26, 3) := by decide +kernel
theorem dX4_search_109 : decode cX4_search 109 = .ok (.iinc 2 1, 3) := by decide +kernel
theorem dX4_search_112 : decode cX4_search 112 = .ok (.goto (-95), 3) := by decide +kernel
theorem dX4_search_115 : decode cX4_search 115 = .ok (.return_, 1) := by decide +kernel
theorem dX4_pushDown_0 : decode cX4_pushDown 0 = .ok (.iload_n 1, 1) := by decide +kernel
theorem dX4_pushDown_1 : decode cX4_pushDown 1 = .ok (.istore_n 3, 1) := by decide +kernel
theorem dX4_pushDown_2 : decode cX4_pushDown 2 = .ok (.aload_n 0, 1) := by decide +kernel
theorem dX4_pushDown_3 : decode cX4_pushDown 3 = .ok (.getfield 9, 3) := by decide +kernel
theorem dX4_pushDown_6 : decode cX4_pushDown 6 = .ok (.getfield 29, 3) := by decide +kernel
theorem dX4_pushDown_9 : decode cX4_pushDown 9 = .ok (.iconst 1, 1) := by decide +kernel
theorem dX4_pushDown_10 : decode cX4_pushDown 10 = .ok (.isub, 1) := by decide +kernel
theorem dX4_pushDown_11 : decode cX4_pushDown 11 = .ok (.istore 4, 2) := by decide +kernel
theorem dX4_pushDown_13 : decode cX4_pushDown 13 = .ok (.iload 4, 2) := by decide +kernel
theorem dX4_pushDown_15 : decode cX4_pushDown 15 = .ok (.ifCond .lt 95, 3) := by decide +kernel
theorem dX4_pushDown_18 : decode cX4_pushDown 18 = .ok (.aload_n 0, 1) := by decide +kernel
theorem dX4_pushDown_19 : decode cX4_pushDown 19 = .ok (.getfield 15, 3) := by decide +kernel
theorem dX4_pushDown_22 : decode cX4_pushDown 22 = .ok (.iload 4, 2) := by decide +kernel
theorem dX4_pushDown_24 : decode cX4_pushDown 24 = .ok (.invokevirtual 50, 3) := by decide +kernel
theorem dX4_pushDown_27 : decode cX4_pushDown 27 = .ok (.ifCond .eq 77, 3) := by decide +kernel
theorem dX4_pushDown_30 : decode cX4_pushDown 30 = .ok (.aload_n 0, 1) := by decide +kernel
theorem dX4_pushDown_31 : decode cX4_pushDown 31 = .ok (.iload 4, 2) := by decide +kernel
theorem dX4_pushDown_33 : decode cX4_pushDown 33 = .ok (.iload_n 1, 1) := by decide +kernel
theorem dX4_pushDown_34 : decode cX4_pushDown 34 = .ok (.iload_n 2, 1) := by decide +kernel
theorem dX4_pushDown_35 : decode cX4_pushDown 35 = .ok (.invokevirtual 56, 3) := by decide +kernel
theorem dX4_pushDown_38 : decode cX4_pushDown 38 = .ok (.ifCond .eq 66, 3) := by decide +kernel
theorem dX4_pushDown_41 : decode cX4_pushDown 41 = .ok (.iload 4, 2) := by decide +kernel
theorem dX4_pushDown_43 : decode cX4_pushDown 43 = .ok (.aload_n 0, 1) := by decide +kernel
theorem dX4_pushDown_44 : decode cX4_pushDown 44 = .ok (.iload 4, 2) := by decide +kernel
theorem dX4_pushDown_46 : decode cX4_pushDown 46 = .ok (.invokevirtual 60, 3) := by decide +kernel
theorem dX4_pushDown_49 : decode cX4_pushDown 49 = .ok (.iadd, 1) := by decide +kernel
theorem dX4_pushDown_50 : decode cX4_pushDown 50 = .ok (.iload_n 3, 1) := by decide +kernel
theorem dX4_pushDown_51 : decode cX4_pushDown 51 = .ok (.isub, 1) := by decide +kernel
theorem dX4_pushDown_52 : decode cX4_pushDown 52 = .ok (.istore 5, 2) := by decide +kernel
theorem dX4_pushDown_54 : decode cX4_pushDown 54 = .ok (.iload 5, 2) := by decide +kernel
theorem dX4_pushDown_56 : decode cX4_pushDown 56 = .ok (.ifCond .gt 5, 3) := by decide +kernel
theorem dX4_pushDown_59 : decode cX4_pushDown 59 = .ok (.iconst 1, 1) := by decide +kernel
theorem dX4_pushDown_60 : decode cX4_pushDown 60 = .ok (.ireturn, 1) := by decide +kernel
theorem dX4_pushDown_61 : decode cX4_pushDown 61 = .ok (.aload_n 0, 1) := by decide +kernel
theorem dX4_pushDown_62 : decode cX4_pushDown 62 = .ok (.iload 4, 2) := by decide +kernel
theorem dX4_pushDown_64 : decode cX4_pushDown 64 = .ok (.iload 5, 2) := by decide +kernel
theorem dX4_pushDown_66 : decode cX4_pushDown 66 = .ok (.isub, 1) := by decide +kernel
theorem dX4_pushDown_67 : decode cX4_pushDown 67 = .ok (.iload 4, 2) := by decide +kernel
theorem dX4_pushDown_69 : decode cX4_pushDown 69 = .ok (.invokevirtual 40, 3) := by decide +kernel
theorem dX4_pushDown_72 : decode cX4_pushDown 72 = .ok (.ifCond .ne 5, 3) := by decide +kernel
theorem dX4_pushDown_75 : decode cX4_pushDown 75 = .ok (.iconst 0, 1) := by decide +kernel
theorem dX4_pushDown_76 : decode cX4_pushDown 76 = .ok (.ireturn, 1) := by decide +kernel
theorem dX4_pushDown_77 : decode cX4_pushDown 77 = .ok (.iload 4, 2) := by decide +kernel
theorem dX4_pushDown_79 : decode cX4_pushDown 79 = .ok (.iload 5, 2) := by decide +kernel
theorem dX4_pushDown_81 : decode cX4_pushDown 81 = .ok (.isub, 1) := by decide +kernel
theorem dX4_pushDown_82 : decode cX4_pushDown 82 = .ok (.istore_n 3, 1) := by decide +kernel
theorem dX4_pushDown_83 : decode cX4_pushDown 83 = .ok (.aload_n 0, 1) := by decide +kernel
theorem dX4_pushDown_84 : decode cX4_pushDown 84 = .ok (.dup, 1) := by decide +kernel
theorem dX4_pushDown_85 : decode cX4_pushDown 85 = .ok (.getfield 34, 3) := by decide +kernel
theorem dX4_pushDown_88 : decode cX4_pushDown 88 = .ok (.iload 5, 2) := by decide +kernel
theorem dX4_pushDown_90 : decode cX4_pushDown 90 = .ok (.iadd, 1) := by decide +kernel
theorem dX4_pushDown_91 : decode cX4_pushDown 91 = .ok (.putfield 34, 3) := by decide +kernel
theorem dX4_pushDown_94 : decode cX4_pushDown 94 = .ok (.aload_n 0, 1) := by decide +kernel
theorem dX4_pushDown_95 : decode cX4_pushDown 95 = .ok (.dup, 1) := by decide +kernel
theorem dX4_pushDown_96 : decode cX4_pushDown 96 = .ok (.getfield 37, 3) := by decide +kernel
theorem dX4_pushDown_99 : decode cX4_pushDown 99 = .ok (.iconst 1, 1) := by decide +kernel
theorem dX4_pushDown_100 : decode cX4_pushDown 100 = .ok (.iadd, 1) := by decide +kernel
theorem dX4_pushDown_101 : decode cX4_pushDown 101 = .ok (.putfield 37, 3) := by decide +kernel
theorem dX4_pushDown_104 : decode cX4_pushDown 104 = .ok (.iinc 4 (-1), 3) := by decide +kernel
theorem dX4_pushDown_107 : decode cX4_pushDown 107 = .ok (.goto (-94), 3) := by decide +kernel
theorem dX4_pushDown_110 : decode cX4_pushDown 110 = .ok (.iconst 1, 1) := by decide +kernel
theorem dX4_pushDown_111 : decode cX4_pushDown 111 = .ok (.ireturn, 1) := by decide +kernel
theorem dX4_pushUp_0 : decode cX4_pushUp 0 = .ok (.iload_n 1, 1) := by decide +kernel
theorem dX4_pushUp_1 : decode cX4_pushUp 1 = .ok (.iload_n 2, 1) := by decide +kernel
theorem dX4_pushUp_2 : decode cX4_pushUp 2 = .ok (.iadd, 1) := by decide +kernel
theorem dX4_pushUp_3 : decode cX4_pushUp 3 = .ok (.istore_n 3, 1) := by decide +kernel
theorem dX4_pushUp_4 : decode cX4_pushUp 4 = .ok (.iconst 0, 1) := by decide +kernel
theorem dX4_pushUp_5 : decode cX4_pushUp 5 = .ok (.istore 4, 2) := by decide +kernel
theorem dX4_pushUp_7 : decode cX4_pushUp 7 = .ok (.iload 4, 2) := by decide +kernel
theorem dX4_pushUp_9 : decode cX4_pushUp 9 = .ok (.aload_n 0, 1) := by decide +kernel
theorem dX4_pushUp_10 : decode cX4_pushUp 10 = .ok (.getfield 9, 3) := by decide +kernel
theorem dX4_pushUp_13 : decode cX4_pushUp 13 = .ok (.getfield 29, 3) := by decide +kernel
theorem dX4_pushUp_16 : decode cX4_pushUp 16 = .ok (.if_icmp .ge 99, 3) := by decide +kernel
theorem dX4_pushUp_19 : decode cX4_pushUp 19 = .ok (.aload_n 0, 1) := by decide +kernel
theorem dX4_pushUp_20 : decode cX4_pushUp 20 = .ok (.getfield 15, 3) := by decide +kernel
theorem dX4_pushUp_23 : decode cX4_pushUp 23 = .ok (.iload 4, 2) := by decide +kernel
theorem dX4_pushUp_25 : decode cX4_pushUp 25 = .ok (.invokevirtual 50, 3) := by decide +kernel
theorem dX4_pushUp_28 : decode cX4_pushUp 28 = .ok (.ifCond .eq 81, 3) := by decide +kernel
theorem dX4_pushUp_31 : decode cX4_pushUp 31 = .ok (.aload_n 0, 1) := by decide +kernel
theorem dX4_pushUp_32 : decode cX4_pushUp 32 = .ok (.iload 4, 2) := by decide +kernel
theorem dX4_pushUp_34 : decode cX4_pushUp 34 = .ok (.iload_n 1, 1) := by decide +kernel
theorem dX4_pushUp_35 : decode cX4_pushUp 35 = .ok (.iload_n 2, 1) := by decide +kernel
theorem dX4_pushUp_36 : decode cX4_pushUp 36 = .ok (.invokevirtual 56, 3) := by decide +kernel
theorem dX4_pushUp_39 : decode cX4_pushUp 39 = .ok (.ifCond .ne 70, 3) := by decide +kernel
theorem dX4_pushUp_42 : decode cX4_pushUp 42 = .ok (.iload_n 3, 1) := by decide +kernel
theorem dX4_pushUp_43 : decode cX4_pushUp 43 = .ok (.iload 4, 2) := by decide +kernel
theorem dX4_pushUp_45 : decode cX4_pushUp 45 = .ok (.isub, 1) := by decide +kernel
theorem dX4_pushUp_46 : decode cX4_pushUp 46 = .ok (.istore 5, 2) := by decide +kernel
theorem dX4_pushUp_48 : decode cX4_pushUp 48 = .ok (.iload 5, 2) := by decide +kernel
theorem dX4_pushUp_50 : decode cX4_pushUp 50 = .ok (.ifCond .gt 5, 3) := by decide +kernel
theorem dX4_pushUp_53 : decode cX4_pushUp 53 = .ok (.iconst 1, 1) := by decide +kernel
theorem dX4_pushUp_54 : decode cX4_pushUp 54 = .ok (.ireturn, 1) := by decide +kernel
theorem dX4_pushUp_55 : decode cX4_pushUp 55 = .ok (.iload 4, 2) := by decide +kernel
theorem dX4_pushUp_57 : decode cX4_pushUp 57 = .ok (.aload_n 0, 1) := by decide +kernel
theorem dX4_pushUp_58 : decode cX4_pushUp 58 = .ok (.iload 4, 2) := by decide +kernel
theorem dX4_pushUp_60 : decode cX4_pushUp 60 = .ok (.invokevirtual 60, 3) := by decide +kernel
theorem dX4_pushUp_63 : decode cX4_pushUp 63 = .ok (.iadd, 1) := by decide +kernel
theorem dX4_pushUp_64 : decode cX4_pushUp 64 = .ok (.istore 6, 2) := by decide +kernel
theorem dX4_pushUp_66 : decode cX4_pushUp 66 = .ok (.aload_n 0, 1) := by decide +kernel
theorem dX4_pushUp_67 : decode cX4_pushUp 67 = .ok (.iload 6, 2) := by decide +kernel
theorem dX4_pushUp_69 : decode cX4_pushUp 69 = .ok (.iload 6, 2) := by decide +kernel
theorem dX4_pushUp_71 : decode cX4_pushUp 71 = .ok (.iload 5, 2) := by decide +kernel
theorem dX4_pushUp_73 : decode cX4_pushUp 73 = .ok (.iadd, 1) := by decide +kernel
theorem dX4_pushUp_74 : decode cX4_pushUp 74 = .ok (.invokevirtual 40, 3) := by decide +kernel
theorem dX4_pushUp_77 : decode cX4_pushUp 77 = .ok (.ifCond .ne 5, 3) := by decide +kernel
theorem dX4_pushUp_80 : decode cX4_pushUp 80 = .ok (.iconst 0, 1) := by decide +kernel
theorem dX4_pushUp_81 : decode cX4_pushUp 81 = .ok (.ireturn, 1) := by decide +kernel
theorem dX4_pushUp_82 : decode cX4_pushUp 82 = .ok (.iload 6, 2) := by decide +kernel
theorem dX4_pushUp_84 : decode cX4_pushUp 84 = .ok (.iload 5, 2) := by decide +kernel
theorem dX4_pushUp_86 : decode cX4_pushUp 86 = .ok (.iadd, 1) := by decide +kernel
theorem dX4_pushUp_87 : decode cX4_pushUp 87 = .ok (.istore_n 3, 1) := by decide +kernel
theorem dX4_pushUp_88 : decode cX4_pushUp 88 = .ok (.aload_n 0, 1) := by decide +kernel
theorem dX4_pushUp_89 : decode cX4_pushUp 89 = .ok (.dup, 1) := by decide +kernel
theorem dX4_pushUp_90 : decode cX4_pushUp 90 = .ok (.getfield 34, 3) := by decide +kernel
theorem dX4_pushUp_93 : decode cX4_pushUp 93 = .ok (.iload 5, 2) := by decide +kernel
theorem dX4_pushUp_95 : decode cX4_pushUp 95 = .ok (.iadd, 1) := by decide +kernel
theorem dX4_pushUp_96 : decode cX4_pushUp 96 = .ok (.putfield 34, 3) := by decide +kernel
theorem dX4_pushUp_99 : decode cX4_pushUp 99 = .ok (.aload_n 0, 1) := by decide +kernel
theorem dX4_pushUp_100 : decode cX4_pushUp 100 = .ok (.dup, 1) := by decide +kernel
theorem dX4_pushUp_101 : decode cX4_pushUp 101 = .ok (.getfield 37, 3) := by decide +kernel
theorem dX4_pushUp_104 : decode cX4_pushUp 104 = .ok (.iconst 1, 1) := by decide +kernel
theorem dX4_pushUp_105 : decode cX4_pushUp 105 = .ok (.iadd, 1) := by decide +kernel
theorem dX4_pushUp_106 : decode cX4_pushUp 106 = .ok (.putfield 37, 3) := by decide +kernel
theorem dX4_pushUp_109 : decode cX4_pushUp 109 = .ok (.iinc 4 1, 3) := by decide +kernel
theorem dX4_pushUp_112 : decode cX4_pushUp 112 = .ok (.goto (-105), 3) := by decide +kernel
theorem dX4_pushUp_115 : decode cX4_pushUp 115 = .ok (.iconst 1, 1) := by decide +kernel
theorem dX4_pushUp_116 : decode cX4_pushUp 116 = .ok (.ireturn, 1) := by decide +kernel
theorem dX4_isAhead_0 : decode cX4_isAhead 0 = .ok (.iconst 2, 1) := by decide +kernel
theorem dX4_isAhead_1 : decode cX4_isAhead 1 = .ok (.iload_n 1, 1) := by decide +kernel
theorem dX4_isAhead_2 : decode cX4_isAhead 2 = .ok (.imul, 1) := by decide +kernel
theorem dX4_isAhead_3 : decode cX4_isAhead 3 = .ok (.aload_n 0, 1) := by decide +kernel
theorem dX4_isAhead_4 : decode cX4_isAhead 4 = .ok (.iload_n 1, 1) := by decide +kernel
theorem dX4_isAhead_5 : decode cX4_isAhead 5 = .ok (.invokevirtual 60, 3) := by decide +kernel
theorem dX4_isAhead_8 : decode cX4_isAhead 8 = .ok (.iadd, 1) := by decide +kernel
theorem dX4_isAhead_9 : decode cX4_isAhead 9 = .ok (.iconst 2, 1) := by decide +kernel
theorem dX4_isAhead_10 : decode cX4_isAhead 10 = .ok (.iload_n 2, 1) := by decide +kernel
theorem dX4_isAhead_11 : decode cX4_isAhead 11 = .ok (.imul, 1) := by decide +kernel
theorem dX4_isAhead_12 : decode cX4_isAhead 12 = .ok (.iload_n 3, 1) := by decide +kernel
theorem dX4_isAhead_13 : decode cX4_isAhead 13 = .ok (.iadd, 1) := by decide +kernel
theorem dX4_isAhead_14 : decode cX4_isAhead 14 = .ok (.if_icmp .ge 7, 3) := by decide +kernel
theorem dX4_isAhead_17 : decode cX4_isAhead 17 = .ok (.iconst 1, 1) := by decide +kernel
theorem dX4_isAhead_18 : decode cX4_isAhead 18 = .ok (.goto 4, 3) := by decide +kernel
theorem dX4_isAhead_21 : decode cX4_isAhead 21 = .ok (.iconst 0, 1) := by decide +kernel
theorem dX4_isAhead_22 : decode cX4_isAhead 22 = .ok (.ireturn, 1) := by decide +kernel
theorem dX4_lengthAt_0 : decode cX4_lengthAt 0 = .ok (.aload_n 0, 1) := by decide +kernel
theorem dX4_lengthAt_1 : decode cX4_lengthAt 1 = .ok (.getfield 9, 3) := by decide +kernel
theorem dX4_lengthAt_4 : decode cX4_lengthAt 4 = .ok (.aload_n 0, 1) := by decide +kernel
theorem dX4_lengthAt_5 : decode cX4_lengthAt 5 = .ok (.getfield 15, 3) := by decide +kernel
theorem dX4_lengthAt_8 : decode cX4_lengthAt 8 = .ok (.iload_n 1, 1) := by decide +kernel
theorem dX4_lengthAt_9 : decode cX4_lengthAt 9 = .ok (.invokevirtual 64, 3) := by decide +kernel
theorem dX4_lengthAt_12 : decode cX4_lengthAt 12 = .ok (.invokevirtual 67, 3) := by decide +kernel
theorem dX4_lengthAt_15 : decode cX4_lengthAt 15 = .ok (.ireturn, 1) := by decide +kernel
theorem dX4_gateless_0 : decode cX4_gateless 0 = .ok (.iload_n 1, 1) := by decide +kernel
theorem dX4_gateless_1 : decode cX4_gateless 1 = .ok (.istore_n 3, 1) := by decide +kernel
theorem dX4_gateless_2 : decode cX4_gateless 2 = .ok (.iload_n 3, 1) := by decide +kernel
theorem dX4_gateless_3 : decode cX4_gateless 3 = .ok (.iload_n 2, 1) := by decide +kernel
theorem dX4_gateless_4 : decode cX4_gateless 4 = .ok (.if_icmp .ge 22, 3) := by decide +kernel
theorem dX4_gateless_7 : decode cX4_gateless 7 = .ok (.aload_n 0, 1) := by decide +kernel
theorem dX4_gateless_8 : decode cX4_gateless 8 = .ok (.getfield 9, 3) := by decide +kernel
theorem dX4_gateless_11 : decode cX4_gateless 11 = .ok (.iload_n 3, 1) := by decide +kernel
theorem dX4_gateless_12 : decode cX4_gateless 12 = .ok (.invokevirtual 70, 3) := by decide +kernel
theorem dX4_gateless_15 : decode cX4_gateless 15 = .ok (.ifCond .eq 5, 3) := by decide +kernel
theorem dX4_gateless_18 : decode cX4_gateless 18 = .ok (.iconst 0, 1) := by decide +kernel
theorem dX4_gateless_19 : decode cX4_gateless 19 = .ok (.ireturn, 1) := by decide +kernel
theorem dX4_gateless_20 : decode cX4_gateless 20 = .ok (.iinc 3 1, 3) := by decide +kernel
theorem dX4_gateless_23 : decode cX4_gateless 23 = .ok (.goto (-21), 3) := by decide +kernel
theorem dX4_gateless_26 : decode cX4_gateless 26 = .ok (.iconst 1, 1) := by decide +kernel
theorem dX4_gateless_27 : decode cX4_gateless 27 = .ok (.ireturn, 1) := by decide +kernel
theorem dX5_init_0 : decode cX5_init 0 = .ok (.aload_n 0, 1) := by decide +kernel
theorem dX5_init_1 : decode cX5_init 1 = .ok (.invokespecial 3, 3) := by decide +kernel
theorem dX5_init_4 : decode cX5_init 4 = .ok (.aload_n 0, 1) := by decide +kernel
theorem dX5_init_5 : decode cX5_init 5 = .ok (.bipush 21, 2) := by decide +kernel
theorem dX5_init_7 : decode cX5_init 7 = .ok (.newarray .long, 2) := by decide +kernel
theorem dX5_init_9 : decode cX5_init 9 = .ok (.putfield 9, 3) := by decide +kernel
theorem dX5_init_12 : decode cX5_init 12 = .ok (.aload_n 0, 1) := by decide +kernel
theorem dX5_init_13 : decode cX5_init 13 = .ok (.bipush 21, 2) := by decide +kernel
theorem dX5_init_15 : decode cX5_init 15 = .ok (.newarray .int, 2) := by decide +kernel
theorem dX5_init_17 : decode cX5_init 17 = .ok (.putfield 15, 3) := by decide +kernel
theorem dX5_init_20 : decode cX5_init 20 = .ok (.aload_n 0, 1) := by decide +kernel
theorem dX5_init_21 : decode cX5_init 21 = .ok (.bipush 21, 2) := by decide +kernel
theorem dX5_init_23 : decode cX5_init 23 = .ok (.bipush 21, 2) := by decide +kernel
theorem dX5_init_25 : decode cX5_init 25 = .ok (.multianewarray 19 2, 4) := by decide +kernel
theorem dX5_init_29 : decode cX5_init 29 = .ok (.putfield 21, 3) := by decide +kernel
theorem dX5_init_32 : decode cX5_init 32 = .ok (.aload_n 0, 1) := by decide +kernel
theorem dX5_init_33 : decode cX5_init 33 = .ok (.bipush 21, 2) := by decide +kernel
theorem dX5_init_35 : decode cX5_init 35 = .ok (.newarray .long, 2) := by decide +kernel
theorem dX5_init_37 : decode cX5_init 37 = .ok (.putfield 24, 3) := by decide +kernel
theorem dX5_init_40 : decode cX5_init 40 = .ok (.aload_n 0, 1) := by decide +kernel
theorem dX5_init_41 : decode cX5_init 41 = .ok (.bipush 21, 2) := by decide +kernel
theorem dX5_init_43 : decode cX5_init 43 = .ok (.newarray .long, 2) := by decide +kernel
theorem dX5_init_45 : decode cX5_init 45 = .ok (.putfield 27, 3) := by decide +kernel
theorem dX5_init_48 : decode cX5_init 48 = .ok (.return_, 1) := by decide +kernel
theorem dX5_weighMeans_0 : decode cX5_weighMeans 0 = .ok (.iconst 0, 1) := by decide +kernel
theorem dX5_weighMeans_1 : decode cX5_weighMeans 1 = .ok (.istore_n 3, 1) := by decide +kernel
theorem dX5_weighMeans_2 : decode cX5_weighMeans 2 = .ok (.iload_n 3, 1) := by decide +kernel
theorem dX5_weighMeans_3 : decode cX5_weighMeans 3 = .ok (.bipush 20, 2) := by decide +kernel
theorem dX5_weighMeans_5 : decode cX5_weighMeans 5 = .ok (.if_icmp .gt 36, 3) := by decide +kernel
theorem dX5_weighMeans_8 : decode cX5_weighMeans 8 = .ok (.aload_n 0, 1) := by decide +kernel
theorem dX5_weighMeans_9 : decode cX5_weighMeans 9 = .ok (.getfield 9, 3) := by decide +kernel
theorem dX5_weighMeans_12 : decode cX5_weighMeans 12 = .ok (.iload_n 3, 1) := by decide +kernel
theorem dX5_weighMeans_13 : decode cX5_weighMeans 13 = .ok (.iload_n 3, 1) := by decide +kernel
theorem dX5_weighMeans_14 : decode cX5_weighMeans 14 = .ok (.iload_n 1, 1) := by decide +kernel
theorem dX5_weighMeans_15 : decode cX5_weighMeans 15 = .ok (.if_icmp .ge 7, 3) := by decide +kernel
theorem dX5_weighMeans_18 : decode cX5_weighMeans 18 = .ok (.lconst 0, 1) := by decide +kernel
theorem dX5_weighMeans_19 : decode cX5_weighMeans 19 = .ok (.goto 15, 3) := by decide +kernel
theorem dX5_weighMeans_22 : decode cX5_weighMeans 22 = .ok (.ldc2_w 30, 3) := by decide +kernel
theorem dX5_weighMeans_25 : decode cX5_weighMeans 25 = .ok (.aload_n 0, 1) := by decide +kernel
theorem dX5_weighMeans_26 : decode cX5_weighMeans 26 = .ok (.iload_n 3, 1) := by decide +kernel
theorem dX5_weighMeans_27 : decode cX5_weighMeans 27 = .ok (.iload_n 1, 1) := by decide +kernel
theorem dX5_weighMeans_28 : decode cX5_weighMeans 28 = .ok (.isub, 1) := by decide +kernel
theorem dX5_weighMeans_29 : decode cX5_weighMeans 29 = .ok (.iload_n 2, 1) := by decide +kernel
theorem dX5_weighMeans_30 : decode cX5_weighMeans 30 = .ok (.invokevirtual 32, 3) := by decide +kernel
theorem dX5_weighMeans_33 : decode cX5_weighMeans 33 = .ok (.ladd, 1) := by decide +kernel
theorem dX5_weighMeans_34 : decode cX5_weighMeans 34 = .ok (.lastore, 1) := by decide +kernel
theorem dX5_weighMeans_35 : decode cX5_weighMeans 35 = .ok (.iinc 3 1, 3) := by decide +kernel
theorem dX5_weighMeans_38 : decode cX5_weighMeans 38 = .ok (.goto (-36), 3) := by decide +kernel
theorem dX5_weighMeans_41 : decode cX5_weighMeans 41 = .ok (.return_, 1) := by decide +kernel
theorem dX5_meanBehind_0 : decode cX5_meanBehind 0 = .ok (.iload_n 1, 1) := by decide +kernel
theorem dX5_meanBehind_1 : decode cX5_meanBehind 1 = .ok (.ifCond .ge 5, 3) := by decide +kernel
theorem dX5_meanBehind_4 : decode cX5_meanBehind 4 = .ok (.lconst 0, 1) := by decide +kernel
theorem dX5_meanBehind_5 : decode cX5_meanBehind 5 = .ok (.lreturn, 1) := by decide +kernel
theorem dX5_meanBehind_6 : decode cX5_meanBehind 6 = .ok (.lconst 0, 1) := by decide +kernel
theorem dX5_meanBehind_7 : decode cX5_meanBehind 7 = .ok (.lstore_n 3, 1) := by decide +kernel
theorem dX5_meanBehind_8 : decode cX5_meanBehind 8 = .ok (.iconst 0, 1) := by decide +kernel
theorem dX5_meanBehind_9 : decode cX5_meanBehind 9 = .ok (.istore 5, 2) := by decide +kernel
theorem dX5_meanBehind_11 : decode cX5_meanBehind 11 = .ok (.iload 5, 2) := by decide +kernel
theorem dX5_meanBehind_13 : decode cX5_meanBehind 13 = .ok (.iload_n 1, 1) := by decide +kernel
theorem dX5_meanBehind_14 : decode cX5_meanBehind 14 = .ok (.if_icmp .gt 29, 3) := by decide +kernel
theorem dX5_meanBehind_17 : decode cX5_meanBehind 17 = .ok (.lload_n 3, 1) := by decide +kernel
theorem dX5_meanBehind_18 : decode cX5_meanBehind 18 = .ok (.aload_n 0, 1) := by decide +kernel
theorem dX5_meanBehind_19 : decode cX5_meanBehind 19 = .ok (.getfield 9, 3) := by decide +kernel
theorem dX5_meanBehind_22 : decode cX5_meanBehind 22 = .ok (.iload 5, 2) := by decide +kernel
theorem dX5_meanBehind_24 : decode cX5_meanBehind 24 = .ok (.laload, 1) := by decide +kernel
theorem dX5_meanBehind_25 : decode cX5_meanBehind 25 = .ok (.aload_n 0, 1) := by decide +kernel
theorem dX5_meanBehind_26 : decode cX5_meanBehind 26 = .ok (.getfield 9, 3) := by decide +kernel
theorem dX5_meanBehind_29 : decode cX5_meanBehind 29 = .ok (.iload_n 1, 1) := by decide +kernel
theorem dX5_meanBehind_30 : decode cX5_meanBehind 30 = .ok (.iload 5, 2) := by decide +kernel
theorem dX5_meanBehind_32 : decode cX5_meanBehind 32 = .ok (.isub, 1) := by decide +kernel
theorem dX5_meanBehind_33 : decode cX5_meanBehind 33 = .ok (.laload, 1) := by decide +kernel
theorem dX5_meanBehind_34 : decode cX5_meanBehind 34 = .ok (.ladd, 1) := by decide +kernel
theorem dX5_meanBehind_35 : decode cX5_meanBehind 35 = .ok (.ladd, 1) := by decide +kernel
theorem dX5_meanBehind_36 : decode cX5_meanBehind 36 = .ok (.lstore_n 3, 1) := by decide +kernel
theorem dX5_meanBehind_37 : decode cX5_meanBehind 37 = .ok (.iinc 5 1, 3) := by decide +kernel
theorem dX5_meanBehind_40 : decode cX5_meanBehind 40 = .ok (.goto (-29), 3) := by decide +kernel
theorem dX5_meanBehind_43 : decode cX5_meanBehind 43 = .ok (.lload_n 3, 1) := by decide +kernel
theorem dX5_meanBehind_44 : decode cX5_meanBehind 44 = .ok (.iload_n 1, 1) := by decide +kernel
theorem dX5_meanBehind_45 : decode cX5_meanBehind 45 = .ok (.iconst 1, 1) := by decide +kernel
theorem dX5_meanBehind_46 : decode cX5_meanBehind 46 = .ok (.iadd, 1) := by decide +kernel
theorem dX5_meanBehind_47 : decode cX5_meanBehind 47 = .ok (.i2l, 1) := by decide +kernel
theorem dX5_meanBehind_48 : decode cX5_meanBehind 48 = .ok (.ldiv, 1) := by decide +kernel
theorem dX5_meanBehind_49 : decode cX5_meanBehind 49 = .ok (.lstore 5, 2) := by decide +kernel
theorem dX5_meanBehind_51 : decode cX5_meanBehind 51 = .ok (.iload_n 2, 1) := by decide +kernel
theorem dX5_meanBehind_52 : decode cX5_meanBehind 52 = .ok (.i2l, 1) := by decide +kernel
theorem dX5_meanBehind_53 : decode cX5_meanBehind 53 = .ok (.aload_n 0, 1) := by decide +kernel
theorem dX5_meanBehind_54 : decode cX5_meanBehind 54 = .ok (.getfield 9, 3) := by decide +kernel
theorem dX5_meanBehind_57 : decode cX5_meanBehind 57 = .ok (.iload_n 1, 1) := by decide +kernel
theorem dX5_meanBehind_58 : decode cX5_meanBehind 58 = .ok (.laload, 1) := by decide +kernel
theorem dX5_meanBehind_59 : decode cX5_meanBehind 59 = .ok (.lmul, 1) := by decide +kernel
theorem dX5_meanBehind_60 : decode cX5_meanBehind 60 = .ok (.bipush 100, 2) := by decide +kernel
theorem dX5_meanBehind_62 : decode cX5_meanBehind 62 = .ok (.iload_n 2, 1) := by decide +kernel
theorem dX5_meanBehind_63 : decode cX5_meanBehind 63 = .ok (.isub, 1) := by decide +kernel
theorem dX5_meanBehind_64 : decode cX5_meanBehind 64 = .ok (.i2l, 1) := by decide +kernel
theorem dX5_meanBehind_65 : decode cX5_meanBehind 65 = .ok (.lload 5, 2) := by decide +kernel
theorem dX5_meanBehind_67 : decode cX5_meanBehind 67 = .ok (.lmul, 1) := by decide +kernel
theorem dX5_meanBehind_68 : decode cX5_meanBehind 68 = .ok (.ladd, 1) := by decide +kernel
theorem dX5_meanBehind_69 : decode cX5_meanBehind 69 = .ok (.ldc2_w 36, 3) := by decide +kernel
theorem dX5_meanBehind_72 : decode cX5_meanBehind 72 = .ok (.ldiv, 1) := by decide +kernel
theorem dX5_meanBehind_73 : decode cX5_meanBehind 73 = .ok (.lreturn, 1) := by decide +kernel
theorem dX5_meanOf_0 : decode cX5_meanOf 0 = .ok (.lconst 0, 1) := by decide +kernel
theorem dX5_meanOf_1 : decode cX5_meanOf 1 = .ok (.lstore_n 2, 1) := by decide +kernel
theorem dX5_meanOf_2 : decode cX5_meanOf 2 = .ok (.iconst 0, 1) := by decide +kernel
theorem dX5_meanOf_3 : decode cX5_meanOf 3 = .ok (.istore 4, 2) := by decide +kernel
theorem dX5_meanOf_5 : decode cX5_meanOf 5 = .ok (.iload 4, 2) := by decide +kernel
theorem dX5_meanOf_7 : decode cX5_meanOf 7 = .ok (.aload_n 1, 1) := by decide +kernel
theorem dX5_meanOf_8 : decode cX5_meanOf 8 = .ok (.getfield 38, 3) := by decide +kernel
theorem dX5_meanOf_11 : decode cX5_meanOf 11 = .ok (.if_icmp .ge 23, 3) := by decide +kernel
theorem dX5_meanOf_14 : decode cX5_meanOf 14 = .ok (.lload_n 2, 1) := by decide +kernel
theorem dX5_meanOf_15 : decode cX5_meanOf 15 = .ok (.aload_n 0, 1) := by decide +kernel
theorem dX5_meanOf_16 : decode cX5_meanOf 16 = .ok (.getfield 9, 3) := by decide +kernel
theorem dX5_meanOf_19 : decode cX5_meanOf 19 = .ok (.aload_n 1, 1) := by decide +kernel
theorem dX5_meanOf_20 : decode cX5_meanOf 20 = .ok (.iload 4, 2) := by decide +kernel
theorem dX5_meanOf_22 : decode cX5_meanOf 22 = .ok (.invokevirtual 44, 3) := by decide +kernel
theorem dX5_meanOf_25 : decode cX5_meanOf 25 = .ok (.laload, 1) := by decide +kernel
theorem dX5_meanOf_26 : decode cX5_meanOf 26 = .ok (.ladd, 1) := by decide +kernel
theorem dX5_meanOf_27 : decode cX5_meanOf 27 = .ok (.lstore_n 2, 1) := by decide +kernel
theorem dX5_meanOf_28 : decode cX5_meanOf 28 = .ok (.iinc 4 1, 3) := by decide +kernel
theorem dX5_meanOf_31 : decode cX5_meanOf 31 = .ok (.goto (-26), 3) := by decide +kernel
theorem dX5_meanOf_34 : decode cX5_meanOf 34 = .ok (.lload_n 2, 1) := by decide +kernel
theorem dX5_meanOf_35 : decode cX5_meanOf 35 = .ok (.lreturn, 1) := by decide +kernel
theorem dX5_fewestOf_0 : decode cX5_fewestOf 0 = .ok (.iconst 0, 1) := by decide +kernel
theorem dX5_fewestOf_1 : decode cX5_fewestOf 1 = .ok (.istore_n 3, 1) := by decide +kernel
theorem dX5_fewestOf_2 : decode cX5_fewestOf 2 = .ok (.iload_n 3, 1) := by decide +kernel
theorem dX5_fewestOf_3 : decode cX5_fewestOf 3 = .ok (.bipush 20, 2) := by decide +kernel
theorem dX5_fewestOf_5 : decode cX5_fewestOf 5 = .ok (.if_icmp .gt 33, 3) := by decide +kernel
theorem dX5_fewestOf_8 : decode cX5_fewestOf 8 = .ok (.aload_n 0, 1) := by decide +kernel
theorem dX5_fewestOf_9 : decode cX5_fewestOf 9 = .ok (.getfield 15, 3) := by decide +kernel
theorem dX5_fewestOf_12 : decode cX5_fewestOf 12 = .ok (.iload_n 3, 1) := by decide +kernel
theorem dX5_fewestOf_13 : decode cX5_fewestOf 13 = .ok (.iload_n 3, 1) := by decide +kernel
theorem dX5_fewestOf_14 : decode cX5_fewestOf 14 = .ok (.iload_n 2, 1) := by decide +kernel
theorem dX5_fewestOf_15 : decode cX5_fewestOf 15 = .ok (.if_icmp .ge 7, 3) := by decide +kernel
theorem dX5_fewestOf_18 : decode cX5_fewestOf 18 = .ok (.iconst 0, 1) := by decide +kernel
theorem dX5_fewestOf_19 : decode cX5_fewestOf 19 = .ok (.goto 12, 3) := by decide +kernel
theorem dX5_fewestOf_22 : decode cX5_fewestOf 22 = .ok (.iconst 1, 1) := by decide +kernel
theorem dX5_fewestOf_23 : decode cX5_fewestOf 23 = .ok (.aload_n 0, 1) := by decide +kernel
theorem dX5_fewestOf_24 : decode cX5_fewestOf 24 = .ok (.iload_n 3, 1) := by decide +kernel
theorem dX5_fewestOf_25 : decode cX5_fewestOf 25 = .ok (.iload_n 2, 1) := by decide +kernel
theorem dX5_fewestOf_26 : decode cX5_fewestOf 26 = .ok (.isub, 1) := by decide +kernel
theorem dX5_fewestOf_27 : decode cX5_fewestOf 27 = .ok (.invokevirtual 48, 3) := by decide +kernel
theorem dX5_fewestOf_30 : decode cX5_fewestOf 30 = .ok (.iadd, 1) := by decide +kernel
theorem dX5_fewestOf_31 : decode cX5_fewestOf 31 = .ok (.iastore, 1) := by decide +kernel
theorem dX5_fewestOf_32 : decode cX5_fewestOf 32 = .ok (.iinc 3 1, 3) := by decide +kernel
theorem dX5_fewestOf_35 : decode cX5_fewestOf 35 = .ok (.goto (-33), 3) := by decide +kernel
theorem dX5_fewestOf_38 : decode cX5_fewestOf 38 = .ok (.iconst 0, 1) := by decide +kernel
theorem dX5_fewestOf_39 : decode cX5_fewestOf 39 = .ok (.istore_n 3, 1) := by decide +kernel
theorem dX5_fewestOf_40 : decode cX5_fewestOf 40 = .ok (.iconst 0, 1) := by decide +kernel
theorem dX5_fewestOf_41 : decode cX5_fewestOf 41 = .ok (.istore 4, 2) := by decide +kernel
theorem dX5_fewestOf_43 : decode cX5_fewestOf 43 = .ok (.iload 4, 2) := by decide +kernel
theorem dX5_fewestOf_45 : decode cX5_fewestOf 45 = .ok (.aload_n 1, 1) := by decide +kernel
theorem dX5_fewestOf_46 : decode cX5_fewestOf 46 = .ok (.getfield 38, 3) := by decide +kernel
theorem dX5_fewestOf_49 : decode cX5_fewestOf 49 = .ok (.if_icmp .ge 23, 3) := by decide +kernel
theorem dX5_fewestOf_52 : decode cX5_fewestOf 52 = .ok (.iload_n 3, 1) := by decide +kernel
theorem dX5_fewestOf_53 : decode cX5_fewestOf 53 = .ok (.aload_n 0, 1) := by decide +kernel
theorem dX5_fewestOf_54 : decode cX5_fewestOf 54 = .ok (.getfield 15, 3) := by decide +kernel
theorem dX5_fewestOf_57 : decode cX5_fewestOf 57 = .ok (.aload_n 1, 1) := by decide +kernel
theorem dX5_fewestOf_58 : decode cX5_fewestOf 58 = .ok (.iload 4, 2) := by decide +kernel
theorem dX5_fewestOf_60 : decode cX5_fewestOf 60 = .ok (.invokevirtual 44, 3) := by decide +kernel
theorem dX5_fewestOf_63 : decode cX5_fewestOf 63 = .ok (.iaload, 1) := by decide +kernel
theorem dX5_fewestOf_64 : decode cX5_fewestOf 64 = .ok (.iadd, 1) := by decide +kernel
theorem dX5_fewestOf_65 : decode cX5_fewestOf 65 = .ok (.istore_n 3, 1) := by decide +kernel
theorem dX5_fewestOf_66 : decode cX5_fewestOf 66 = .ok (.iinc 4 1, 3) := by decide +kernel
theorem dX5_fewestOf_69 : decode cX5_fewestOf 69 = .ok (.goto (-26), 3) := by decide +kernel
theorem dX5_fewestOf_72 : decode cX5_fewestOf 72 = .ok (.iload_n 3, 1) := by decide +kernel
theorem dX5_fewestOf_73 : decode cX5_fewestOf 73 = .ok (.ireturn, 1) := by decide +kernel
theorem dX5_fewestBehind_0 : decode cX5_fewestBehind 0 = .ok (.bipush 20, 2) := by decide +kernel
theorem dX5_fewestBehind_2 : decode cX5_fewestBehind 2 = .ok (.istore_n 2, 1) := by decide +kernel
theorem dX5_fewestBehind_3 : decode cX5_fewestBehind 3 = .ok (.iconst 0, 1) := by decide +kernel
theorem dX5_fewestBehind_4 : decode cX5_fewestBehind 4 = .ok (.istore_n 3, 1) := by decide +kernel
theorem dX5_fewestBehind_5 : decode cX5_fewestBehind 5 = .ok (.iload_n 3, 1) := by decide +kernel
theorem dX5_fewestBehind_6 : decode cX5_fewestBehind 6 = .ok (.iload_n 1, 1) := by decide +kernel
theorem dX5_fewestBehind_7 : decode cX5_fewestBehind 7 = .ok (.if_icmp .gt 29, 3) := by decide +kernel
theorem dX5_fewestBehind_10 : decode cX5_fewestBehind 10 = .ok (.iload_n 2, 1) := by decide +kernel
theorem dX5_fewestBehind_11 : decode cX5_fewestBehind 11 = .ok (.aload_n 0, 1) := by decide +kernel
theorem dX5_fewestBehind_12 : decode cX5_fewestBehind 12 = .ok (.getfield 15, 3) := by decide +kernel
theorem dX5_fewestBehind_15 : decode cX5_fewestBehind 15 = .ok (.iload_n 3, 1) := by decide +kernel
theorem dX5_fewestBehind_16 : decode cX5_fewestBehind 16 = .ok (.iaload, 1) := by decide +kernel
theorem dX5_fewestBehind_17 : decode cX5_fewestBehind 17 = .ok (.aload_n 0, 1) := by decide +kernel
theorem dX5_fewestBehind_18 : decode cX5_fewestBehind 18 = .ok (.getfield 15, 3) := by decide +kernel
theorem dX5_fewestBehind_21 : decode cX5_fewestBehind 21 = .ok (.iload_n 1, 1) := by decide +kernel
theorem dX5_fewestBehind_22 : decode cX5_fewestBehind 22 = .ok (.iload_n 3, 1) := by decide +kernel
theorem dX5_fewestBehind_23 : decode cX5_fewestBehind 23 = .ok (.isub, 1) := by decide +kernel
theorem dX5_fewestBehind_24 : decode cX5_fewestBehind 24 = .ok (.iaload, 1) := by decide +kernel
theorem dX5_fewestBehind_25 : decode cX5_fewestBehind 25 = .ok (.iadd, 1) := by decide +kernel
theorem dX5_fewestBehind_26 : decode cX5_fewestBehind 26 = .ok (.invokestatic 51, 3) := by decide +kernel
theorem dX5_fewestBehind_29 : decode cX5_fewestBehind 29 = .ok (.istore_n 2, 1) := by decide +kernel
theorem dX5_fewestBehind_30 : decode cX5_fewestBehind 30 = .ok (.iinc 3 1, 3) := by decide +kernel
theorem dX5_fewestBehind_33 : decode cX5_fewestBehind 33 = .ok (.goto (-28), 3) := by decide +kernel
theorem dX5_fewestBehind_36 : decode cX5_fewestBehind 36 = .ok (.iload_n 2, 1) := by decide +kernel
theorem dX5_fewestBehind_37 : decode cX5_fewestBehind 37 = .ok (.ireturn, 1) := by decide +kernel
theorem dX5_weighParts_0 : decode cX5_weighParts 0 = .ok (.iconst 0, 1) := by decide +kernel
theorem dX5_weighParts_1 : decode cX5_weighParts 1 = .ok (.istore_n 3, 1) := by decide +kernel
theorem dX5_weighParts_2 : decode cX5_weighParts 2 = .ok (.iload_n 3, 1) := by decide +kernel
theorem dX5_weighParts_3 : decode cX5_weighParts 3 = .ok (.iload_n 2, 1) := by decide +kernel
theorem dX5_weighParts_4 : decode cX5_weighParts 4 = .ok (.if_icmp .gt 56, 3) := by decide +kernel
theorem dX5_weighParts_7 : decode cX5_weighParts 7 = .ok (.iload_n 3, 1) := by decide +kernel
theorem dX5_weighParts_8 : decode cX5_weighParts 8 = .ok (.bipush 20, 2) := by decide +kernel
theorem dX5_weighParts_10 : decode cX5_weighParts 10 = .ok (.if_icmp .gt 50, 3) := by decide +kernel
theorem dX5_weighParts_13 : decode cX5_weighParts 13 = .ok (.aload_n 0, 1) := by decide +kernel
theorem dX5_weighParts_14 : decode cX5_weighParts 14 = .ok (.getfield 21, 3) := by decide +kernel
theorem dX5_weighParts_17 : decode cX5_weighParts 17 = .ok (.iload_n 3, 1) := by decide +kernel
theorem dX5_weighParts_18 : decode cX5_weighParts 18 = .ok (.aaload, 1) := by decide +kernel
theorem dX5_weighParts_19 : decode cX5_weighParts 19 = .ok (.invokestatic 57, 3) := by decide +kernel
theorem dX5_weighParts_22 : decode cX5_weighParts 22 = .ok (.iload_n 3, 1) := by decide +kernel
theorem dX5_weighParts_23 : decode cX5_weighParts 23 = .ok (.iload_n 1, 1) := by decide +kernel
theorem dX5_weighParts_24 : decode cX5_weighParts 24 = .ok (.if_icmp .ge 17, 3) := by decide +kernel
theorem dX5_weighParts_27 : decode cX5_weighParts 27 = .ok (.aload_n 0, 1) := by decide +kernel
theorem dX5_weighParts_28 : decode cX5_weighParts 28 = .ok (.getfield 21, 3) := by decide +kernel
theorem dX5_weighParts_31 : decode cX5_weighParts 31 = .ok (.iload_n 3, 1) := by decide +kernel
theorem dX5_weighParts_32 : decode cX5_weighParts 32 = .ok (.aaload, 1) := by decide +kernel
theorem dX5_weighParts_33 : decode cX5_weighParts 33 = .ok (.iconst 0, 1) := by decide +kernel
theorem dX5_weighParts_34 : decode cX5_weighParts 34 = .ok (.ldc2_w 61, 3) := by decide +kernel
theorem dX5_weighParts_37 : decode cX5_weighParts 37 = .ok (.lastore, 1) := by decide +kernel
theorem dX5_weighParts_38 : decode cX5_weighParts 38 = .ok (.goto 16, 3) := by decide +kernel
theorem dX5_weighParts_41 : decode cX5_weighParts 41 = .ok (.aload_n 0, 1) := by decide +kernel
theorem dX5_weighParts_42 : decode cX5_weighParts 42 = .ok (.aload_n 0, 1) := by decide +kernel
theorem dX5_weighParts_43 : decode cX5_weighParts 43 = .ok (.getfield 21, 3) := by decide +kernel
theorem dX5_weighParts_46 : decode cX5_weighParts 46 = .ok (.iload_n 3, 1) := by decide +kernel
theorem dX5_weighParts_47 : decode cX5_weighParts 47 = .ok (.aaload, 1) := by decide +kernel
theorem dX5_weighParts_48 : decode cX5_weighParts 48 = .ok (.iload_n 3, 1) := by decide +kernel
theorem dX5_weighParts_49 : decode cX5_weighParts 49 = .ok (.iload_n 1, 1) := by decide +kernel
theorem dX5_weighParts_50 : decode cX5_weighParts 50 = .ok (.isub, 1) := by decide +kernel
theorem dX5_weighParts_51 : decode cX5_weighParts 51 = .ok (.invokevirtual 63, 3) := by decide +kernel
theorem dX5_weighParts_54 : decode cX5_weighParts 54 = .ok (.iinc 3 1, 3) := by decide +kernel
theorem dX5_weighParts_57 : decode cX5_weighParts 57 = .ok (.goto (-55), 3) := by decide +kernel
theorem dX5_weighParts_60 : decode cX5_weighParts 60 = .ok (.return_, 1) := by decide +kernel
theorem dX5_weighPartsBehind_0 : decode cX5_weighPartsBehind 0 = .ok (.iload_n 2, 1) := by decide +kernel
theorem dX5_weighPartsBehind_1 : decode cX5_weighPartsBehind 1 = .ok (.ifCond .ge 4, 3) := by decide +kernel
theorem dX5_weighPartsBehind_4 : decode cX5_weighPartsBehind 4 = .ok (.return_, 1) := by decide +kernel
theorem dX5_weighPartsBehind_5 : decode cX5_weighPartsBehind 5 = .ok (.iconst 0, 1) := by decide +kernel
theorem dX5_weighPartsBehind_6 : decode cX5_weighPartsBehind 6 = .ok (.istore_n 3, 1) := by decide +kernel
theorem dX5_weighPartsBehind_7 : decode cX5_weighPartsBehind 7 = .ok (.iload_n 3, 1) := by decide +kernel
theorem dX5_weighPartsBehind_8 : decode cX5_weighPartsBehind 8 = .ok (.iload_n 2, 1) := by decide +kernel
theorem dX5_weighPartsBehind_9 : decode cX5_weighPartsBehind 9 = .ok (.if_icmp .gt 28, 3) := by decide +kernel
theorem dX5_weighPartsBehind_12 : decode cX5_weighPartsBehind 12 = .ok (.aload_n 0, 1) := by decide +kernel
theorem dX5_weighPartsBehind_13 : decode cX5_weighPartsBehind 13 = .ok (.getfield 21, 3) := by decide +kernel
theorem dX5_weighPartsBehind_16 : decode cX5_weighPartsBehind 16 = .ok (.iload_n 3, 1) := by decide +kernel
theorem dX5_weighPartsBehind_17 : decode cX5_weighPartsBehind 17 = .ok (.aaload, 1) := by decide +kernel
theorem dX5_weighPartsBehind_18 : decode cX5_weighPartsBehind 18 = .ok (.aload_n 0, 1) := by decide +kernel
theorem dX5_weighPartsBehind_19 : decode cX5_weighPartsBehind 19 = .ok (.getfield 21, 3) := by decide +kernel
theorem dX5_weighPartsBehind_22 : decode cX5_weighPartsBehind 22 = .ok (.iload_n 2, 1) := by decide +kernel
theorem dX5_weighPartsBehind_23 : decode cX5_weighPartsBehind 23 = .ok (.iload_n 3, 1) := by decide +kernel
theorem dX5_weighPartsBehind_24 : decode cX5_weighPartsBehind 24 = .ok (.isub, 1) := by decide +kernel
theorem dX5_weighPartsBehind_25 : decode cX5_weighPartsBehind 25 = .ok (.aaload, 1) := by decide +kernel
theorem dX5_weighPartsBehind_26 : decode cX5_weighPartsBehind 26 = .ok (.aload_n 1, 1) := by decide +kernel
theorem dX5_weighPartsBehind_27 : decode cX5_weighPartsBehind 27 = .ok (.iconst 1, 1) := by decide +kernel
theorem dX5_weighPartsBehind_28 : decode cX5_weighPartsBehind 28 = .ok (.invokestatic 67, 3) := by decide +kernel
theorem dX5_weighPartsBehind_31 : decode cX5_weighPartsBehind 31 = .ok (.iinc 3 1, 3) := by decide +kernel
theorem dX5_weighPartsBehind_34 : decode cX5_weighPartsBehind 34 = .ok (.goto (-27), 3) := by decide +kernel
theorem dX5_weighPartsBehind_37 : decode cX5_weighPartsBehind 37 = .ok (.iconst 0, 1) := by decide +kernel
theorem dX5_weighPartsBehind_38 : decode cX5_weighPartsBehind 38 = .ok (.istore_n 3, 1) := by decide +kernel
theorem dX5_weighPartsBehind_39 : decode cX5_weighPartsBehind 39 = .ok (.iload_n 3, 1) := by decide +kernel
theorem dX5_weighPartsBehind_40 : decode cX5_weighPartsBehind 40 = .ok (.aload_n 1, 1) := by decide +kernel
theorem dX5_weighPartsBehind_41 : decode cX5_weighPartsBehind 41 = .ok (.arraylength, 1) := by decide +kernel
theorem dX5_weighPartsBehind_42 : decode cX5_weighPartsBehind 42 = .ok (.if_icmp .ge 19, 3) := by decide +kernel
theorem dX5_weighPartsBehind_45 : decode cX5_weighPartsBehind 45 = .ok (.aload_n 1, 1) := by decide +kernel
theorem dX5_weighPartsBehind_46 : decode cX5_weighPartsBehind 46 = .ok (.iload_n 3, 1) := by decide +kernel
theorem dX5_weighPartsBehind_47 : decode cX5_weighPartsBehind 47 = .ok (.dup2, 1) := by decide +kernel
theorem dX5_weighPartsBehind_48 : decode cX5_weighPartsBehind 48 = .ok (.laload, 1) := by decide +kernel
theorem dX5_weighPartsBehind_49 : decode cX5_weighPartsBehind 49 = .ok (.iload_n 2, 1) := by decide +kernel
theorem dX5_weighPartsBehind_50 : decode cX5_weighPartsBehind 50 = .ok (.iconst 1, 1) := by decide +kernel
theorem dX5_weighPartsBehind_51 : decode cX5_weighPartsBehind 51 = .ok (.iadd, 1) := by decide +kernel
theorem dX5_weighPartsBehind_52 : decode cX5_weighPartsBehind 52 = .ok (.i2l, 1) := by decide +kernel
theorem dX5_weighPartsBehind_53 : decode cX5_weighPartsBehind 53 = .ok (.ldiv, 1) := by decide +kernel
theorem dX5_weighPartsBehind_54 : decode cX5_weighPartsBehind 54 = .ok (.lastore, 1) := by decide +kernel
theorem dX5_weighPartsBehind_55 : decode cX5_weighPartsBehind 55 = .ok (.iinc 3 1, 3) := by decide +kernel
theorem dX5_weighPartsBehind_58 : decode cX5_weighPartsBehind 58 = .ok (.goto (-19), 3) := by decide +kernel
theorem dX5_weighPartsBehind_61 : decode cX5_weighPartsBehind 61 = .ok (.return_, 1) := by decide +kernel
theorem dX5_partsOf_0 : decode cX5_partsOf 0 = .ok (.aload_n 0, 1) := by decide +kernel
theorem dX5_partsOf_1 : decode cX5_partsOf 1 = .ok (.getfield 24, 3) := by decide +kernel
theorem dX5_partsOf_4 : decode cX5_partsOf 4 = .ok (.invokestatic 57, 3) := by decide +kernel
theorem dX5_partsOf_7 : decode cX5_partsOf 7 = .ok (.aload_n 0, 1) := by decide +kernel
theorem dX5_partsOf_8 : decode cX5_partsOf 8 = .ok (.getfield 24, 3) := by decide +kernel
theorem dX5_partsOf_11 : decode cX5_partsOf 11 = .ok (.iconst 0, 1) := by decide +kernel
theorem dX5_partsOf_12 : decode cX5_partsOf 12 = .ok (.ldc2_w 61, 3) := by decide +kernel
theorem dX5_partsOf_15 : decode cX5_partsOf 15 = .ok (.lastore, 1) := by decide +kernel
theorem dX5_partsOf_16 : decode cX5_partsOf 16 = .ok (.iconst 0, 1) := by decide +kernel
theorem dX5_partsOf_17 : decode cX5_partsOf 17 = .ok (.istore_n 3, 1) := by decide +kernel
theorem dX5_partsOf_18 : decode cX5_partsOf 18 = .ok (.iload_n 3, 1) := by decide +kernel
theorem dX5_partsOf_19 : decode cX5_partsOf 19 = .ok (.aload_n 1, 1) := by decide +kernel
theorem dX5_partsOf_20 : decode cX5_partsOf 20 = .ok (.getfield 38, 3) := by decide +kernel
theorem dX5_partsOf_23 : decode cX5_partsOf 23 = .ok (.if_icmp .ge 56, 3) := by decide +kernel
theorem dX5_partsOf_26 : decode cX5_partsOf 26 = .ok (.aload_n 0, 1) := by decide +kernel
theorem dX5_partsOf_27 : decode cX5_partsOf 27 = .ok (.getfield 27, 3) := by decide +kernel
theorem dX5_partsOf_30 : decode cX5_partsOf 30 = .ok (.invokestatic 57, 3) := by decide +kernel
theorem dX5_partsOf_33 : decode cX5_partsOf 33 = .ok (.aload_n 0, 1) := by decide +kernel
theorem dX5_partsOf_34 : decode cX5_partsOf 34 = .ok (.getfield 24, 3) := by decide +kernel
theorem dX5_partsOf_37 : decode cX5_partsOf 37 = .ok (.aload_n 0, 1) := by decide +kernel
theorem dX5_partsOf_38 : decode cX5_partsOf 38 = .ok (.getfield 21, 3) := by decide +kernel
theorem dX5_partsOf_41 : decode cX5_partsOf 41 = .ok (.aload_n 1, 1) := by decide +kernel
theorem dX5_partsOf_42 : decode cX5_partsOf 42 = .ok (.iload_n 3, 1) := by decide +kernel
theorem dX5_partsOf_43 : decode cX5_partsOf 43 = .ok (.invokevirtual 44, 3) := by decide +kernel
theorem dX5_partsOf_46 : decode cX5_partsOf 46 = .ok (.aaload, 1) := by decide +kernel
theorem dX5_partsOf_47 : decode cX5_partsOf 47 = .ok (.aload_n 0, 1) := by decide +kernel
theorem dX5_partsOf_48 : decode cX5_partsOf 48 = .ok (.getfield 27, 3) := by decide +kernel
theorem dX5_partsOf_51 : decode cX5_partsOf 51 = .ok (.iconst 0, 1) := by decide +kernel
theorem dX5_partsOf_52 : decode cX5_partsOf 52 = .ok (.invokestatic 67, 3) := by decide +kernel
theorem dX5_partsOf_55 : decode cX5_partsOf 55 = .ok (.aload_n 0, 1) := by decide +kernel
theorem dX5_partsOf_56 : decode cX5_partsOf 56 = .ok (.getfield 27, 3) := by decide +kernel
theorem dX5_partsOf_59 : decode cX5_partsOf 59 = .ok (.iconst 0, 1) := by decide +kernel
theorem dX5_partsOf_60 : decode cX5_partsOf 60 = .ok (.aload_n 0, 1) := by decide +kernel
theorem dX5_partsOf_61 : decode cX5_partsOf 61 = .ok (.getfield 24, 3) := by decide +kernel
theorem dX5_partsOf_64 : decode cX5_partsOf 64 = .ok (.iconst 0, 1) := by decide +kernel
theorem dX5_partsOf_65 : decode cX5_partsOf 65 = .ok (.aload_n 0, 1) := by decide +kernel
theorem dX5_partsOf_66 : decode cX5_partsOf 66 = .ok (.getfield 24, 3) := by decide +kernel
theorem dX5_partsOf_69 : decode cX5_partsOf 69 = .ok (.arraylength, 1) := by decide +kernel
theorem dX5_partsOf_70 : decode cX5_partsOf 70 = .ok (.invokestatic 71, 3) := by decide +kernel
theorem dX5_partsOf_73 : decode cX5_partsOf 73 = .ok (.iinc 3 1, 3) := by decide +kernel
theorem dX5_partsOf_76 : decode cX5_partsOf 76 = .ok (.goto (-58), 3) := by decide +kernel
theorem dX5_partsOf_79 : decode cX5_partsOf 79 = .ok (.iload_n 2, 1) := by decide +kernel
theorem dX5_partsOf_80 : decode cX5_partsOf 80 = .ok (.ifCond .lt 21, 3) := by decide +kernel
theorem dX5_partsOf_83 : decode cX5_partsOf 83 = .ok (.iload_n 2, 1) := by decide +kernel
theorem dX5_partsOf_84 : decode cX5_partsOf 84 = .ok (.aload_n 0, 1) := by decide +kernel
theorem dX5_partsOf_85 : decode cX5_partsOf 85 = .ok (.getfield 24, 3) := by decide +kernel
theorem dX5_partsOf_88 : decode cX5_partsOf 88 = .ok (.arraylength, 1) := by decide +kernel
theorem dX5_partsOf_89 : decode cX5_partsOf 89 = .ok (.if_icmp .ge 12, 3) := by decide +kernel
theorem dX5_partsOf_92 : decode cX5_partsOf 92 = .ok (.aload_n 0, 1) := by decide +kernel
theorem dX5_partsOf_93 : decode cX5_partsOf 93 = .ok (.getfield 24, 3) := by decide +kernel
theorem dX5_partsOf_96 : decode cX5_partsOf 96 = .ok (.iload_n 2, 1) := by decide +kernel
theorem dX5_partsOf_97 : decode cX5_partsOf 97 = .ok (.laload, 1) := by decide +kernel
theorem dX5_partsOf_98 : decode cX5_partsOf 98 = .ok (.goto 4, 3) := by decide +kernel
theorem dX5_partsOf_101 : decode cX5_partsOf 101 = .ok (.lconst 0, 1) := by decide +kernel
theorem dX5_partsOf_102 : decode cX5_partsOf 102 = .ok (.lreturn, 1) := by decide +kernel
theorem dX5_addProducts_0 : decode cX5_addProducts 0 = .ok (.iconst 0, 1) := by decide +kernel
theorem dX5_addProducts_1 : decode cX5_addProducts 1 = .ok (.istore 4, 2) := by decide +kernel
theorem dX5_addProducts_3 : decode cX5_addProducts 3 = .ok (.iload 4, 2) := by decide +kernel
theorem dX5_addProducts_5 : decode cX5_addProducts 5 = .ok (.aload_n 0, 1) := by decide +kernel
theorem dX5_addProducts_6 : decode cX5_addProducts 6 = .ok (.arraylength, 1) := by decide +kernel
theorem dX5_addProducts_7 : decode cX5_addProducts 7 = .ok (.if_icmp .ge 71, 3) := by decide +kernel
theorem dX5_addProducts_10 : decode cX5_addProducts 10 = .ok (.aload_n 0, 1) := by decide +kernel
theorem dX5_addProducts_11 : decode cX5_addProducts 11 = .ok (.iload 4, 2) := by decide +kernel
theorem dX5_addProducts_13 : decode cX5_addProducts 13 = .ok (.laload, 1) := by decide +kernel
theorem dX5_addProducts_14 : decode cX5_addProducts 14 = .ok (.lconst 0, 1) := by decide +kernel
theorem dX5_addProducts_15 : decode cX5_addProducts 15 = .ok (.lcmp, 1) := by decide +kernel
theorem dX5_addProducts_16 : decode cX5_addProducts 16 = .ok (.ifCond .eq 56, 3) := by decide +kernel
theorem dX5_addProducts_19 : decode cX5_addProducts 19 = .ok (.iconst 0, 1) := by decide +kernel
theorem dX5_addProducts_20 : decode cX5_addProducts 20 = .ok (.istore 5, 2) := by decide +kernel
theorem dX5_addProducts_22 : decode cX5_addProducts 22 = .ok (.iload 5, 2) := by decide +kernel
theorem dX5_addProducts_24 : decode cX5_addProducts 24 = .ok (.aload_n 1, 1) := by decide +kernel
theorem dX5_addProducts_25 : decode cX5_addProducts 25 = .ok (.arraylength, 1) := by decide +kernel
theorem dX5_addProducts_26 : decode cX5_addProducts 26 = .ok (.if_icmp .ge 46, 3) := by decide +kernel
theorem dX5_addProducts_29 : decode cX5_addProducts 29 = .ok (.iload 4, 2) := by decide +kernel
theorem dX5_addProducts_31 : decode cX5_addProducts 31 = .ok (.iload 5, 2) := by decide +kernel
theorem dX5_addProducts_33 : decode cX5_addProducts 33 = .ok (.iadd, 1) := by decide +kernel
theorem dX5_addProducts_34 : decode cX5_addProducts 34 = .ok (.iload_n 3, 1) := by decide +kernel
theorem dX5_addProducts_35 : decode cX5_addProducts 35 = .ok (.iadd, 1) := by decide +kernel
theorem dX5_addProducts_36 : decode cX5_addProducts 36 = .ok (.aload_n 2, 1) := by decide +kernel
theorem dX5_addProducts_37 : decode cX5_addProducts 37 = .ok (.arraylength, 1) := by decide +kernel
theorem dX5_addProducts_38 : decode cX5_addProducts 38 = .ok (.if_icmp .ge 34, 3) := by decide +kernel
theorem dX5_addProducts_41 : decode cX5_addProducts 41 = .ok (.aload_n 2, 1) := by decide +kernel
theorem dX5_addProducts_42 : decode cX5_addProducts 42 = .ok (.iload 4, 2) := by decide +kernel
theorem dX5_addProducts_44 : decode cX5_addProducts 44 = .ok (.iload 5, 2) := by decide +kernel
theorem dX5_addProducts_46 : decode cX5_addProducts 46 = .ok (.iadd, 1) := by decide +kernel
theorem dX5_addProducts_47 : decode cX5_addProducts 47 = .ok (.iload_n 3, 1) := by decide +kernel
theorem dX5_addProducts_48 : decode cX5_addProducts 48 = .ok (.iadd, 1) := by decide +kernel
theorem dX5_addProducts_49 : decode cX5_addProducts 49 = .ok (.dup2, 1) := by decide +kernel
theorem dX5_addProducts_50 : decode cX5_addProducts 50 = .ok (.laload, 1) := by decide +kernel
theorem dX5_addProducts_51 : decode cX5_addProducts 51 = .ok (.aload_n 0, 1) := by decide +kernel
theorem dX5_addProducts_52 : decode cX5_addProducts 52 = .ok (.iload 4, 2) := by decide +kernel
theorem dX5_addProducts_54 : decode cX5_addProducts 54 = .ok (.laload, 1) := by decide +kernel
theorem dX5_addProducts_55 : decode cX5_addProducts 55 = .ok (.aload_n 1, 1) := by decide +kernel
theorem dX5_addProducts_56 : decode cX5_addProducts 56 = .ok (.iload 5, 2) := by decide +kernel
theorem dX5_addProducts_58 : decode cX5_addProducts 58 = .ok (.laload, 1) := by decide +kernel
theorem dX5_addProducts_59 : decode cX5_addProducts 59 = .ok (.lmul, 1) := by decide +kernel
theorem dX5_addProducts_60 : decode cX5_addProducts 60 = .ok (.ldc2_w 61, 3) := by decide +kernel
theorem dX5_addProducts_63 : decode cX5_addProducts 63 = .ok (.ldiv, 1) := by decide +kernel
theorem dX5_addProducts_64 : decode cX5_addProducts 64 = .ok (.ladd, 1) := by decide +kernel
theorem dX5_addProducts_65 : decode cX5_addProducts 65 = .ok (.lastore, 1) := by decide +kernel
theorem dX5_addProducts_66 : decode cX5_addProducts 66 = .ok (.iinc 5 1, 3) := by decide +kernel
theorem dX5_addProducts_69 : decode cX5_addProducts 69 = .ok (.goto (-47), 3) := by decide +kernel
theorem dX5_addProducts_72 : decode cX5_addProducts 72 = .ok (.iinc 4 1, 3) := by decide +kernel
theorem dX5_addProducts_75 : decode cX5_addProducts 75 = .ok (.goto (-72), 3) := by decide +kernel
theorem dX5_addProducts_78 : decode cX5_addProducts 78 = .ok (.return_, 1) := by decide +kernel
theorem dX5_clear_0 : decode cX5_clear 0 = .ok (.iconst 0, 1) := by decide +kernel
theorem dX5_clear_1 : decode cX5_clear 1 = .ok (.istore_n 1, 1) := by decide +kernel
theorem dX5_clear_2 : decode cX5_clear 2 = .ok (.iload_n 1, 1) := by decide +kernel
theorem dX5_clear_3 : decode cX5_clear 3 = .ok (.aload_n 0, 1) := by decide +kernel
theorem dX5_clear_4 : decode cX5_clear 4 = .ok (.arraylength, 1) := by decide +kernel
theorem dX5_clear_5 : decode cX5_clear 5 = .ok (.if_icmp .ge 13, 3) := by decide +kernel
theorem dX5_clear_8 : decode cX5_clear 8 = .ok (.aload_n 0, 1) := by decide +kernel
theorem dX5_clear_9 : decode cX5_clear 9 = .ok (.iload_n 1, 1) := by decide +kernel
theorem dX5_clear_10 : decode cX5_clear 10 = .ok (.lconst 0, 1) := by decide +kernel
theorem dX5_clear_11 : decode cX5_clear 11 = .ok (.lastore, 1) := by decide +kernel
theorem dX5_clear_12 : decode cX5_clear 12 = .ok (.iinc 1 1, 3) := by decide +kernel
theorem dX5_clear_15 : decode cX5_clear 15 = .ok (.goto (-13), 3) := by decide +kernel
theorem dX5_clear_18 : decode cX5_clear 18 = .ok (.return_, 1) := by decide +kernel
theorem dX6_init_0 : decode cX6_init 0 = .ok (.aload_n 0, 1) := by decide +kernel
theorem dX6_init_1 : decode cX6_init 1 = .ok (.invokespecial 3, 3) := by decide +kernel
theorem dX6_init_4 : decode cX6_init 4 = .ok (.aload_n 0, 1) := by decide +kernel
theorem dX6_init_5 : decode cX6_init 5 = .ok (.iconst 4, 1) := by decide +kernel
theorem dX6_init_6 : decode cX6_init 6 = .ok (.newarray .int, 2) := by decide +kernel
theorem dX6_init_8 : decode cX6_init 8 = .ok (.putfield 9, 3) := by decide +kernel
theorem dX6_init_11 : decode cX6_init 11 = .ok (.aload_n 0, 1) := by decide +kernel
theorem dX6_init_12 : decode cX6_init 12 = .ok (.iconst 4, 1) := by decide +kernel
theorem dX6_init_13 : decode cX6_init 13 = .ok (.newarray .int, 2) := by decide +kernel
theorem dX6_init_15 : decode cX6_init 15 = .ok (.putfield 15, 3) := by decide +kernel
theorem dX6_init_18 : decode cX6_init 18 = .ok (.aload_n 0, 1) := by decide +kernel
theorem dX6_init_19 : decode cX6_init 19 = .ok (.bipush 20, 2) := by decide +kernel
theorem dX6_init_21 : decode cX6_init 21 = .ok (.newarray .boolean, 2) := by decide +kernel
theorem dX6_init_23 : decode cX6_init 23 = .ok (.putfield 18, 3) := by decide +kernel
theorem dX6_init_26 : decode cX6_init 26 = .ok (.return_, 1) := by decide +kernel
theorem dX6_begin_0 : decode cX6_begin 0 = .ok (.aload_n 0, 1) := by decide +kernel
theorem dX6_begin_1 : decode cX6_begin 1 = .ok (.iconst 0, 1) := by decide +kernel
theorem dX6_begin_2 : decode cX6_begin 2 = .ok (.putfield 22, 3) := by decide +kernel
theorem dX6_begin_5 : decode cX6_begin 5 = .ok (.iconst 0, 1) := by decide +kernel
theorem dX6_begin_6 : decode cX6_begin 6 = .ok (.istore_n 1, 1) := by decide +kernel
theorem dX6_begin_7 : decode cX6_begin 7 = .ok (.iload_n 1, 1) := by decide +kernel
theorem dX6_begin_8 : decode cX6_begin 8 = .ok (.bipush 20, 2) := by decide +kernel
theorem dX6_begin_10 : decode cX6_begin 10 = .ok (.if_icmp .ge 16, 3) := by decide +kernel
theorem dX6_begin_13 : decode cX6_begin 13 = .ok (.aload_n 0, 1) := by decide +kernel
theorem dX6_begin_14 : decode cX6_begin 14 = .ok (.getfield 18, 3) := by decide +kernel
theorem dX6_begin_17 : decode cX6_begin 17 = .ok (.iload_n 1, 1) := by decide +kernel
theorem dX6_begin_18 : decode cX6_begin 18 = .ok (.iconst 0, 1) := by decide +kernel
theorem dX6_begin_19 : decode cX6_begin 19 = .ok (.bastore, 1) := by decide +kernel
theorem dX6_begin_20 : decode cX6_begin 20 = .ok (.iinc 1 1, 3) := by decide +kernel
theorem dX6_begin_23 : decode cX6_begin 23 = .ok (.goto (-16), 3) := by decide +kernel
theorem dX6_begin_26 : decode cX6_begin 26 = .ok (.return_, 1) := by decide +kernel
theorem dX6_copy_0 : decode cX6_copy 0 = .ok (.aload_n 0, 1) := by decide +kernel
theorem dX6_copy_1 : decode cX6_copy 1 = .ok (.aload_n 1, 1) := by decide +kernel
theorem dX6_copy_2 : decode cX6_copy 2 = .ok (.getfield 26, 3) := by decide +kernel
theorem dX6_copy_5 : decode cX6_copy 5 = .ok (.putfield 26, 3) := by decide +kernel
theorem dX6_copy_8 : decode cX6_copy 8 = .ok (.aload_n 0, 1) := by decide +kernel
theorem dX6_copy_9 : decode cX6_copy 9 = .ok (.aload_n 1, 1) := by decide +kernel
theorem dX6_copy_10 : decode cX6_copy 10 = .ok (.getfield 29, 3) := by decide +kernel
theorem dX6_copy_13 : decode cX6_copy 13 = .ok (.putfield 29, 3) := by decide +kernel
theorem dX6_copy_16 : decode cX6_copy 16 = .ok (.aload_n 0, 1) := by decide +kernel
theorem dX6_copy_17 : decode cX6_copy 17 = .ok (.aload_n 1, 1) := by decide +kernel
theorem dX6_copy_18 : decode cX6_copy 18 = .ok (.getfield 32, 3) := by decide +kernel
theorem dX6_copy_21 : decode cX6_copy 21 = .ok (.putfield 32, 3) := by decide +kernel
theorem dX6_copy_24 : decode cX6_copy 24 = .ok (.aload_n 0, 1) := by decide +kernel
theorem dX6_copy_25 : decode cX6_copy 25 = .ok (.aload_n 1, 1) := by decide +kernel
theorem dX6_copy_26 : decode cX6_copy 26 = .ok (.getfield 22, 3) := by decide +kernel
theorem dX6_copy_29 : decode cX6_copy 29 = .ok (.putfield 22, 3) := by decide +kernel
theorem dX6_copy_32 : decode cX6_copy 32 = .ok (.aload_n 1, 1) := by decide +kernel
theorem dX6_copy_33 : decode cX6_copy 33 = .ok (.getfield 9, 3) := by decide +kernel
theorem dX6_copy_36 : decode cX6_copy 36 = .ok (.iconst 0, 1) := by decide +kernel
theorem dX6_copy_37 : decode cX6_copy 37 = .ok (.aload_n 0, 1) := by decide +kernel
theorem dX6_copy_38 : decode cX6_copy 38 = .ok (.getfield 9, 3) := by decide +kernel
theorem dX6_copy_41 : decode cX6_copy 41 = .ok (.iconst 0, 1) := by decide +kernel
theorem dX6_copy_42 : decode cX6_copy 42 = .ok (.iconst 4, 1) := by decide +kernel
theorem dX6_copy_43 : decode cX6_copy 43 = .ok (.invokestatic 35, 3) := by decide +kernel
theorem dX6_copy_46 : decode cX6_copy 46 = .ok (.aload_n 1, 1) := by decide +kernel
theorem dX6_copy_47 : decode cX6_copy 47 = .ok (.getfield 15, 3) := by decide +kernel
theorem dX6_copy_50 : decode cX6_copy 50 = .ok (.iconst 0, 1) := by decide +kernel
theorem dX6_copy_51 : decode cX6_copy 51 = .ok (.aload_n 0, 1) := by decide +kernel
theorem dX6_copy_52 : decode cX6_copy 52 = .ok (.getfield 15, 3) := by decide +kernel
theorem dX6_copy_55 : decode cX6_copy 55 = .ok (.iconst 0, 1) := by decide +kernel
theorem dX6_copy_56 : decode cX6_copy 56 = .ok (.iconst 4, 1) := by decide +kernel
theorem dX6_copy_57 : decode cX6_copy 57 = .ok (.invokestatic 35, 3) := by decide +kernel
theorem dX6_copy_60 : decode cX6_copy 60 = .ok (.iconst 0, 1) := by decide +kernel
theorem dX6_copy_61 : decode cX6_copy 61 = .ok (.istore_n 2, 1) := by decide +kernel
theorem dX6_copy_62 : decode cX6_copy 62 = .ok (.iload_n 2, 1) := by decide +kernel
theorem dX6_copy_63 : decode cX6_copy 63 = .ok (.bipush 20, 2) := by decide +kernel
theorem dX6_copy_65 : decode cX6_copy 65 = .ok (.if_icmp .ge 21, 3) := by decide +kernel
theorem dX6_copy_68 : decode cX6_copy 68 = .ok (.aload_n 0, 1) := by decide +kernel
theorem dX6_copy_69 : decode cX6_copy 69 = .ok (.getfield 18, 3) := by decide +kernel
theorem dX6_copy_72 : decode cX6_copy 72 = .ok (.iload_n 2, 1) := by decide +kernel
theorem dX6_copy_73 : decode cX6_copy 73 = .ok (.aload_n 1, 1) := by decide +kernel
theorem dX6_copy_74 : decode cX6_copy 74 = .ok (.getfield 18, 3) := by decide +kernel
theorem dX6_copy_77 : decode cX6_copy 77 = .ok (.iload_n 2, 1) := by decide +kernel
theorem dX6_copy_78 : decode cX6_copy 78 = .ok (.baload, 1) := by decide +kernel
theorem dX6_copy_79 : decode cX6_copy 79 = .ok (.bastore, 1) := by decide +kernel
theorem dX6_copy_80 : decode cX6_copy 80 = .ok (.iinc 2 1, 3) := by decide +kernel
theorem dX6_copy_83 : decode cX6_copy 83 = .ok (.goto (-21), 3) := by decide +kernel
theorem dX6_copy_86 : decode cX6_copy 86 = .ok (.return_, 1) := by decide +kernel
theorem dX6_addSort_0 : decode cX6_addSort 0 = .ok (.aload_n 0, 1) := by decide +kernel
theorem dX6_addSort_1 : decode cX6_addSort 1 = .ok (.getfield 22, 3) := by decide +kernel
theorem dX6_addSort_4 : decode cX6_addSort 4 = .ok (.iconst 4, 1) := by decide +kernel
theorem dX6_addSort_5 : decode cX6_addSort 5 = .ok (.if_icmp .ge 33, 3) := by decide +kernel
theorem dX6_addSort_8 : decode cX6_addSort 8 = .ok (.aload_n 0, 1) := by decide +kernel
theorem dX6_addSort_9 : decode cX6_addSort 9 = .ok (.getfield 9, 3) := by decide +kernel
theorem dX6_addSort_12 : decode cX6_addSort 12 = .ok (.aload_n 0, 1) := by decide +kernel
theorem dX6_addSort_13 : decode cX6_addSort 13 = .ok (.getfield 22, 3) := by decide +kernel
theorem dX6_addSort_16 : decode cX6_addSort 16 = .ok (.iload_n 1, 1) := by decide +kernel
theorem dX6_addSort_17 : decode cX6_addSort 17 = .ok (.iastore, 1) := by decide +kernel
theorem dX6_addSort_18 : decode cX6_addSort 18 = .ok (.aload_n 0, 1) := by decide +kernel
theorem dX6_addSort_19 : decode cX6_addSort 19 = .ok (.getfield 15, 3) := by decide +kernel
theorem dX6_addSort_22 : decode cX6_addSort 22 = .ok (.aload_n 0, 1) := by decide +kernel
theorem dX6_addSort_23 : decode cX6_addSort 23 = .ok (.getfield 22, 3) := by decide +kernel
theorem dX6_addSort_26 : decode cX6_addSort 26 = .ok (.iload_n 2, 1) := by decide +kernel
theorem dX6_addSort_27 : decode cX6_addSort 27 = .ok (.iastore, 1) := by decide +kernel
theorem dX6_addSort_28 : decode cX6_addSort 28 = .ok (.aload_n 0, 1) := by decide +kernel
theorem dX6_addSort_29 : decode cX6_addSort 29 = .ok (.dup, 1) := by decide +kernel
theorem dX6_addSort_30 : decode cX6_addSort 30 = .ok (.getfield 22, 3) := by decide +kernel
theorem dX6_addSort_33 : decode cX6_addSort 33 = .ok (.iconst 1, 1) := by decide +kernel
theorem dX6_addSort_34 : decode cX6_addSort 34 = .ok (.iadd, 1) := by decide +kernel
theorem dX6_addSort_35 : decode cX6_addSort 35 = .ok (.putfield 22, 3) := by decide +kernel
theorem dX6_addSort_38 : decode cX6_addSort 38 = .ok (.return_, 1) := by decide +kernel
theorem dX6_addGate_0 : decode cX6_addGate 0 = .ok (.iload_n 1, 1) := by decide +kernel
theorem dX6_addGate_1 : decode cX6_addGate 1 = .ok (.istore_n 3, 1) := by decide +kernel
theorem dX6_addGate_2 : decode cX6_addGate 2 = .ok (.iload_n 3, 1) := by decide +kernel
theorem dX6_addGate_3 : decode cX6_addGate 3 = .ok (.iload_n 1, 1) := by decide +kernel
theorem dX6_addGate_4 : decode cX6_addGate 4 = .ok (.iload_n 2, 1) := by decide +kernel
theorem dX6_addGate_5 : decode cX6_addGate 5 = .ok (.iadd, 1) := by decide +kernel
theorem dX6_addGate_6 : decode cX6_addGate 6 = .ok (.if_icmp .ge 22, 3) := by decide +kernel
theorem dX6_addGate_9 : decode cX6_addGate 9 = .ok (.iload_n 3, 1) := by decide +kernel
theorem dX6_addGate_10 : decode cX6_addGate 10 = .ok (.bipush 20, 2) := by decide +kernel
theorem dX6_addGate_12 : decode cX6_addGate 12 = .ok (.if_icmp .ge 16, 3) := by decide +kernel
theorem dX6_addGate_15 : decode cX6_addGate 15 = .ok (.aload_n 0, 1) := by decide +kernel
theorem dX6_addGate_16 : decode cX6_addGate 16 = .ok (.getfield 18, 3) := by decide +kernel
theorem dX6_addGate_19 : decode cX6_addGate 19 = .ok (.iload_n 3, 1) := by decide +kernel
theorem dX6_addGate_20 : decode cX6_addGate 20 = .ok (.iconst 1, 1) := by decide +kernel
theorem dX6_addGate_21 : decode cX6_addGate 21 = .ok (.bastore, 1) := by decide +kernel
theorem dX6_addGate_22 : decode cX6_addGate 22 = .ok (.iinc 3 1, 3) := by decide +kernel
theorem dX6_addGate_25 : decode cX6_addGate 25 = .ok (.goto (-23), 3) := by decide +kernel
theorem dX6_addGate_28 : decode cX6_addGate 28 = .ok (.return_, 1) := by decide +kernel
theorem dX6_hasSort_0 : decode cX6_hasSort 0 = .ok (.iload_n 1, 1) := by decide +kernel
theorem dX6_hasSort_1 : decode cX6_hasSort 1 = .ok (.ifCond .lt 15, 3) := by decide +kernel
theorem dX6_hasSort_4 : decode cX6_hasSort 4 = .ok (.iload_n 1, 1) := by decide +kernel
theorem dX6_hasSort_5 : decode cX6_hasSort 5 = .ok (.aload_n 0, 1) := by decide +kernel
theorem dX6_hasSort_6 : decode cX6_hasSort 6 = .ok (.getfield 22, 3) := by decide +kernel
theorem dX6_hasSort_9 : decode cX6_hasSort 9 = .ok (.if_icmp .ge 7, 3) := by decide +kernel
theorem dX6_hasSort_12 : decode cX6_hasSort 12 = .ok (.iconst 1, 1) := by decide +kernel
theorem dX6_hasSort_13 : decode cX6_hasSort 13 = .ok (.goto 4, 3) := by decide +kernel
theorem dX6_hasSort_16 : decode cX6_hasSort 16 = .ok (.iconst 0, 1) := by decide +kernel
theorem dX6_hasSort_17 : decode cX6_hasSort 17 = .ok (.ireturn, 1) := by decide +kernel
theorem dX6_hasYard_0 : decode cX6_hasYard 0 = .ok (.iload_n 1, 1) := by decide +kernel
theorem dX6_hasYard_1 : decode cX6_hasYard 1 = .ok (.ifCond .lt 15, 3) := by decide +kernel
theorem dX6_hasYard_4 : decode cX6_hasYard 4 = .ok (.iload_n 1, 1) := by decide +kernel
theorem dX6_hasYard_5 : decode cX6_hasYard 5 = .ok (.aload_n 0, 1) := by decide +kernel
theorem dX6_hasYard_6 : decode cX6_hasYard 6 = .ok (.getfield 26, 3) := by decide +kernel
theorem dX6_hasYard_9 : decode cX6_hasYard 9 = .ok (.if_icmp .ge 7, 3) := by decide +kernel
theorem dX6_hasYard_12 : decode cX6_hasYard 12 = .ok (.iconst 1, 1) := by decide +kernel
theorem dX6_hasYard_13 : decode cX6_hasYard 13 = .ok (.goto 4, 3) := by decide +kernel
theorem dX6_hasYard_16 : decode cX6_hasYard 16 = .ok (.iconst 0, 1) := by decide +kernel
theorem dX6_hasYard_17 : decode cX6_hasYard 17 = .ok (.ireturn, 1) := by decide +kernel
theorem dX6_isGate_0 : decode cX6_isGate 0 = .ok (.aload_n 0, 1) := by decide +kernel
theorem dX6_isGate_1 : decode cX6_isGate 1 = .ok (.iload_n 1, 1) := by decide +kernel
theorem dX6_isGate_2 : decode cX6_isGate 2 = .ok (.invokevirtual 41, 3) := by decide +kernel
theorem dX6_isGate_5 : decode cX6_isGate 5 = .ok (.ifCond .eq 16, 3) := by decide +kernel
theorem dX6_isGate_8 : decode cX6_isGate 8 = .ok (.aload_n 0, 1) := by decide +kernel
theorem dX6_isGate_9 : decode cX6_isGate 9 = .ok (.getfield 18, 3) := by decide +kernel
theorem dX6_isGate_12 : decode cX6_isGate 12 = .ok (.iload_n 1, 1) := by decide +kernel
theorem dX6_isGate_13 : decode cX6_isGate 13 = .ok (.baload, 1) := by decide +kernel
theorem dX6_isGate_14 : decode cX6_isGate 14 = .ok (.ifCond .eq 7, 3) := by decide +kernel
theorem dX6_isGate_17 : decode cX6_isGate 17 = .ok (.iconst 1, 1) := by decide +kernel
theorem dX6_isGate_18 : decode cX6_isGate 18 = .ok (.goto 4, 3) := by decide +kernel
theorem dX6_isGate_21 : decode cX6_isGate 21 = .ok (.iconst 0, 1) := by decide +kernel
theorem dX6_isGate_22 : decode cX6_isGate 22 = .ok (.ireturn, 1) := by decide +kernel
theorem dX6_isWall_0 : decode cX6_isWall 0 = .ok (.aload_n 0, 1) := by decide +kernel
theorem dX6_isWall_1 : decode cX6_isWall 1 = .ok (.iload_n 1, 1) := by decide +kernel
theorem dX6_isWall_2 : decode cX6_isWall 2 = .ok (.invokevirtual 41, 3) := by decide +kernel
theorem dX6_isWall_5 : decode cX6_isWall 5 = .ok (.ifCond .eq 12, 3) := by decide +kernel
theorem dX6_isWall_8 : decode cX6_isWall 8 = .ok (.aload_n 0, 1) := by decide +kernel
theorem dX6_isWall_9 : decode cX6_isWall 9 = .ok (.getfield 18, 3) := by decide +kernel
theorem dX6_isWall_12 : decode cX6_isWall 12 = .ok (.iload_n 1, 1) := by decide +kernel
theorem dX6_isWall_13 : decode cX6_isWall 13 = .ok (.baload, 1) := by decide +kernel
theorem dX6_isWall_14 : decode cX6_isWall 14 = .ok (.ifCond .eq 7, 3) := by decide +kernel
theorem dX6_isWall_17 : decode cX6_isWall 17 = .ok (.iconst 1, 1) := by decide +kernel
theorem dX6_isWall_18 : decode cX6_isWall 18 = .ok (.goto 4, 3) := by decide +kernel
theorem dX6_isWall_21 : decode cX6_isWall 21 = .ok (.iconst 0, 1) := by decide +kernel
theorem dX6_isWall_22 : decode cX6_isWall 22 = .ok (.ireturn, 1) := by decide +kernel
theorem dX6_lengthOf_0 : decode cX6_lengthOf 0 = .ok (.aload_n 0, 1) := by decide +kernel
theorem dX6_lengthOf_1 : decode cX6_lengthOf 1 = .ok (.iload_n 1, 1) := by decide +kernel
theorem dX6_lengthOf_2 : decode cX6_lengthOf 2 = .ok (.invokevirtual 45, 3) := by decide +kernel
theorem dX6_lengthOf_5 : decode cX6_lengthOf 5 = .ok (.ifCond .eq 12, 3) := by decide +kernel
theorem dX6_lengthOf_8 : decode cX6_lengthOf 8 = .ok (.aload_n 0, 1) := by decide +kernel
theorem dX6_lengthOf_9 : decode cX6_lengthOf 9 = .ok (.getfield 9, 3) := by decide +kernel
theorem dX6_lengthOf_12 : decode cX6_lengthOf 12 = .ok (.iload_n 1, 1) := by decide +kernel
theorem dX6_lengthOf_13 : decode cX6_lengthOf 13 = .ok (.iaload, 1) := by decide +kernel
theorem dX6_lengthOf_14 : decode cX6_lengthOf 14 = .ok (.goto 4, 3) := by decide +kernel
theorem dX6_lengthOf_17 : decode cX6_lengthOf 17 = .ok (.iconst 0, 1) := by decide +kernel
theorem dX6_lengthOf_18 : decode cX6_lengthOf 18 = .ok (.ireturn, 1) := by decide +kernel
theorem dX6_weightOf_0 : decode cX6_weightOf 0 = .ok (.aload_n 0, 1) := by decide +kernel
theorem dX6_weightOf_1 : decode cX6_weightOf 1 = .ok (.iload_n 1, 1) := by decide +kernel
theorem dX6_weightOf_2 : decode cX6_weightOf 2 = .ok (.invokevirtual 45, 3) := by decide +kernel
theorem dX6_weightOf_5 : decode cX6_weightOf 5 = .ok (.ifCond .eq 12, 3) := by decide +kernel
theorem dX6_weightOf_8 : decode cX6_weightOf 8 = .ok (.aload_n 0, 1) := by decide +kernel
theorem dX6_weightOf_9 : decode cX6_weightOf 9 = .ok (.getfield 15, 3) := by decide +kernel
theorem dX6_weightOf_12 : decode cX6_weightOf 12 = .ok (.iload_n 1, 1) := by decide +kernel
theorem dX6_weightOf_13 : decode cX6_weightOf 13 = .ok (.iaload, 1) := by decide +kernel
theorem dX6_weightOf_14 : decode cX6_weightOf 14 = .ok (.goto 4, 3) := by decide +kernel
theorem dX6_weightOf_17 : decode cX6_weightOf 17 = .ok (.iconst 0, 1) := by decide +kernel
theorem dX6_weightOf_18 : decode cX6_weightOf 18 = .ok (.ireturn, 1) := by decide +kernel
theorem dX6_allWeights_0 : decode cX6_allWeights 0 = .ok (.iconst 0, 1) := by decide +kernel
theorem dX6_allWeights_1 : decode cX6_allWeights 1 = .ok (.istore_n 1, 1) := by decide +kernel
theorem dX6_allWeights_2 : decode cX6_allWeights 2 = .ok (.iconst 0, 1) := by decide +kernel
theorem dX6_allWeights_3 : decode cX6_allWeights 3 = .ok (.istore_n 2, 1) := by decide +kernel
theorem dX6_allWeights_4 : decode cX6_allWeights 4 = .ok (.iload_n 2, 1) := by decide +kernel
theorem dX6_allWeights_5 : decode cX6_allWeights 5 = .ok (.aload_n 0, 1) := by decide +kernel
theorem dX6_allWeights_6 : decode cX6_allWeights 6 = .ok (.getfield 22, 3) := by decide +kernel
theorem dX6_allWeights_9 : decode cX6_allWeights 9 = .ok (.if_icmp .ge 18, 3) := by decide +kernel
theorem dX6_allWeights_12 : decode cX6_allWeights 12 = .ok (.iload_n 1, 1) := by decide +kernel
theorem dX6_allWeights_13 : decode cX6_allWeights 13 = .ok (.aload_n 0, 1) := by decide +kernel
theorem dX6_allWeights_14 : decode cX6_allWeights 14 = .ok (.getfield 15, 3) := by decide +kernel
theorem dX6_allWeights_17 : decode cX6_allWeights 17 = .ok (.iload_n 2, 1) := by decide +kernel
theorem dX6_allWeights_18 : decode cX6_allWeights 18 = .ok (.iaload, 1) := by decide +kernel
theorem dX6_allWeights_19 : decode cX6_allWeights 19 = .ok (.iadd, 1) := by decide +kernel
theorem dX6_allWeights_20 : decode cX6_allWeights 20 = .ok (.istore_n 1, 1) := by decide +kernel
theorem dX6_allWeights_21 : decode cX6_allWeights 21 = .ok (.iinc 2 1, 3) := by decide +kernel
theorem dX6_allWeights_24 : decode cX6_allWeights 24 = .ok (.goto (-20), 3) := by decide +kernel
theorem dX6_allWeights_27 : decode cX6_allWeights 27 = .ok (.iload_n 1, 1) := by decide +kernel
theorem dX6_allWeights_28 : decode cX6_allWeights 28 = .ok (.ireturn, 1) := by decide +kernel
theorem dX6_sortBy_0 : decode cX6_sortBy 0 = .ok (.iload_n 1, 1) := by decide +kernel
theorem dX6_sortBy_1 : decode cX6_sortBy 1 = .ok (.istore_n 2, 1) := by decide +kernel
theorem dX6_sortBy_2 : decode cX6_sortBy 2 = .ok (.iconst 0, 1) := by decide +kernel
theorem dX6_sortBy_3 : decode cX6_sortBy 3 = .ok (.istore_n 3, 1) := by decide +kernel
theorem dX6_sortBy_4 : decode cX6_sortBy 4 = .ok (.iload_n 3, 1) := by decide +kernel
theorem dX6_sortBy_5 : decode cX6_sortBy 5 = .ok (.aload_n 0, 1) := by decide +kernel
theorem dX6_sortBy_6 : decode cX6_sortBy 6 = .ok (.getfield 22, 3) := by decide +kernel
theorem dX6_sortBy_9 : decode cX6_sortBy 9 = .ok (.if_icmp .ge 30, 3) := by decide +kernel
theorem dX6_sortBy_12 : decode cX6_sortBy 12 = .ok (.iload_n 2, 1) := by decide +kernel
theorem dX6_sortBy_13 : decode cX6_sortBy 13 = .ok (.aload_n 0, 1) := by decide +kernel
theorem dX6_sortBy_14 : decode cX6_sortBy 14 = .ok (.getfield 15, 3) := by decide +kernel
theorem dX6_sortBy_17 : decode cX6_sortBy 17 = .ok (.iload_n 3, 1) := by decide +kernel
theorem dX6_sortBy_18 : decode cX6_sortBy 18 = .ok (.iaload, 1) := by decide +kernel
theorem dX6_sortBy_19 : decode cX6_sortBy 19 = .ok (.if_icmp .ge 5, 3) := by decide +kernel
theorem dX6_sortBy_22 : decode cX6_sortBy 22 = .ok (.iload_n 3, 1) := by decide +kernel
theorem dX6_sortBy_23 : decode cX6_sortBy 23 = .ok (.ireturn, 1) := by decide +kernel
theorem dX6_sortBy_24 : decode cX6_sortBy 24 = .ok (.iload_n 2, 1) := by decide +kernel
theorem dX6_sortBy_25 : decode cX6_sortBy 25 = .ok (.aload_n 0, 1) := by decide +kernel
theorem dX6_sortBy_26 : decode cX6_sortBy 26 = .ok (.getfield 15, 3) := by decide +kernel
theorem dX6_sortBy_29 : decode cX6_sortBy 29 = .ok (.iload_n 3, 1) := by decide +kernel
theorem dX6_sortBy_30 : decode cX6_sortBy 30 = .ok (.iaload, 1) := by decide +kernel
theorem dX6_sortBy_31 : decode cX6_sortBy 31 = .ok (.isub, 1) := by decide +kernel
theorem dX6_sortBy_32 : decode cX6_sortBy 32 = .ok (.istore_n 2, 1) := by decide +kernel
theorem dX6_sortBy_33 : decode cX6_sortBy 33 = .ok (.iinc 3 1, 3) := by decide +kernel
theorem dX6_sortBy_36 : decode cX6_sortBy 36 = .ok (.goto (-32), 3) := by decide +kernel
theorem dX6_sortBy_39 : decode cX6_sortBy 39 = .ok (.iconst (-1), 1) := by decide +kernel
theorem dX6_sortBy_40 : decode cX6_sortBy 40 = .ok (.ireturn, 1) := by decide +kernel
theorem dX6_shortest_0 : decode cX6_shortest 0 = .ok (.bipush 21, 2) := by decide +kernel
theorem dX6_shortest_2 : decode cX6_shortest 2 = .ok (.istore_n 1, 1) := by decide +kernel
theorem dX6_shortest_3 : decode cX6_shortest 3 = .ok (.iconst 0, 1) := by decide +kernel
theorem dX6_shortest_4 : decode cX6_shortest 4 = .ok (.istore_n 2, 1) := by decide +kernel
theorem dX6_shortest_5 : decode cX6_shortest 5 = .ok (.iload_n 2, 1) := by decide +kernel
theorem dX6_shortest_6 : decode cX6_shortest 6 = .ok (.aload_n 0, 1) := by decide +kernel
theorem dX6_shortest_7 : decode cX6_shortest 7 = .ok (.getfield 22, 3) := by decide +kernel
theorem dX6_shortest_10 : decode cX6_shortest 10 = .ok (.if_icmp .ge 20, 3) := by decide +kernel
theorem dX6_shortest_13 : decode cX6_shortest 13 = .ok (.iload_n 1, 1) := by decide +kernel
theorem dX6_shortest_14 : decode cX6_shortest 14 = .ok (.aload_n 0, 1) := by decide +kernel
theorem dX6_shortest_15 : decode cX6_shortest 15 = .ok (.getfield 9, 3) := by decide +kernel
theorem dX6_shortest_18 : decode cX6_shortest 18 = .ok (.iload_n 2, 1) := by decide +kernel
theorem dX6_shortest_19 : decode cX6_shortest 19 = .ok (.iaload, 1) := by decide +kernel
theorem dX6_shortest_20 : decode cX6_shortest 20 = .ok (.invokestatic 48, 3) := by decide +kernel
theorem dX6_shortest_23 : decode cX6_shortest 23 = .ok (.istore_n 1, 1) := by decide +kernel
theorem dX6_shortest_24 : decode cX6_shortest 24 = .ok (.iinc 2 1, 3) := by decide +kernel
theorem dX6_shortest_27 : decode cX6_shortest 27 = .ok (.goto (-22), 3) := by decide +kernel
theorem dX6_shortest_30 : decode cX6_shortest 30 = .ok (.iload_n 1, 1) := by decide +kernel
theorem dX6_shortest_31 : decode cX6_shortest 31 = .ok (.ireturn, 1) := by decide +kernel
theorem dX7_init_0 : decode cX7_init 0 = .ok (.aload_n 0, 1) := by decide +kernel
theorem dX7_init_1 : decode cX7_init 1 = .ok (.invokespecial 3, 3) := by decide +kernel
theorem dX7_init_4 : decode cX7_init 4 = .ok (.aload_n 0, 1) := by decide +kernel
theorem dX7_init_5 : decode cX7_init 5 = .ok (.sipush 160, 3) := by decide +kernel
theorem dX7_init_8 : decode cX7_init 8 = .ok (.newarray .int, 2) := by decide +kernel
theorem dX7_init_10 : decode cX7_init 10 = .ok (.putfield 9, 3) := by decide +kernel
theorem dX7_init_13 : decode cX7_init 13 = .ok (.aload_n 0, 1) := by decide +kernel
theorem dX7_init_14 : decode cX7_init 14 = .ok (.sipush 160, 3) := by decide +kernel
theorem dX7_init_17 : decode cX7_init 17 = .ok (.newarray .int, 2) := by decide +kernel
theorem dX7_init_19 : decode cX7_init 19 = .ok (.putfield 15, 3) := by decide +kernel
theorem dX7_init_22 : decode cX7_init 22 = .ok (.aload_n 0, 1) := by decide +kernel
theorem dX7_init_23 : decode cX7_init 23 = .ok (.bipush 32, 2) := by decide +kernel
theorem dX7_init_25 : decode cX7_init 25 = .ok (.newarray .int, 2) := by decide +kernel
theorem dX7_init_27 : decode cX7_init 27 = .ok (.putfield 18, 3) := by decide +kernel
theorem dX7_init_30 : decode cX7_init 30 = .ok (.return_, 1) := by decide +kernel
theorem dX7_copy_0 : decode cX7_copy 0 = .ok (.aload_n 0, 1) := by decide +kernel
theorem dX7_copy_1 : decode cX7_copy 1 = .ok (.aload_n 1, 1) := by decide +kernel
theorem dX7_copy_2 : decode cX7_copy 2 = .ok (.getfield 21, 3) := by decide +kernel
theorem dX7_copy_5 : decode cX7_copy 5 = .ok (.putfield 21, 3) := by decide +kernel
theorem dX7_copy_8 : decode cX7_copy 8 = .ok (.aload_n 1, 1) := by decide +kernel
theorem dX7_copy_9 : decode cX7_copy 9 = .ok (.getfield 9, 3) := by decide +kernel
theorem dX7_copy_12 : decode cX7_copy 12 = .ok (.iconst 0, 1) := by decide +kernel
theorem dX7_copy_13 : decode cX7_copy 13 = .ok (.aload_n 0, 1) := by decide +kernel
theorem dX7_copy_14 : decode cX7_copy 14 = .ok (.getfield 9, 3) := by decide +kernel
theorem dX7_copy_17 : decode cX7_copy 17 = .ok (.iconst 0, 1) := by decide +kernel
theorem dX7_copy_18 : decode cX7_copy 18 = .ok (.sipush 160, 3) := by decide +kernel
theorem dX7_copy_21 : decode cX7_copy 21 = .ok (.invokestatic 25, 3) := by decide +kernel
theorem dX7_copy_24 : decode cX7_copy 24 = .ok (.aload_n 1, 1) := by decide +kernel
theorem dX7_copy_25 : decode cX7_copy 25 = .ok (.getfield 15, 3) := by decide +kernel
theorem dX7_copy_28 : decode cX7_copy 28 = .ok (.iconst 0, 1) := by decide +kernel
theorem dX7_copy_29 : decode cX7_copy 29 = .ok (.aload_n 0, 1) := by decide +kernel
theorem dX7_copy_30 : decode cX7_copy 30 = .ok (.getfield 15, 3) := by decide +kernel
theorem dX7_copy_33 : decode cX7_copy 33 = .ok (.iconst 0, 1) := by decide +kernel
theorem dX7_copy_34 : decode cX7_copy 34 = .ok (.sipush 160, 3) := by decide +kernel
theorem dX7_copy_37 : decode cX7_copy 37 = .ok (.invokestatic 25, 3) := by decide +kernel
theorem dX7_copy_40 : decode cX7_copy 40 = .ok (.return_, 1) := by decide +kernel
theorem dX7_add_0 : decode cX7_add 0 = .ok (.aload_n 0, 1) := by decide +kernel
theorem dX7_add_1 : decode cX7_add 1 = .ok (.getfield 21, 3) := by decide +kernel
theorem dX7_add_4 : decode cX7_add 4 = .ok (.sipush 160, 3) := by decide +kernel
theorem dX7_add_7 : decode cX7_add 7 = .ok (.if_icmp .ge 33, 3) := by decide +kernel
theorem dX7_add_10 : decode cX7_add 10 = .ok (.aload_n 0, 1) := by decide +kernel
theorem dX7_add_11 : decode cX7_add 11 = .ok (.getfield 9, 3) := by decide +kernel
theorem dX7_add_14 : decode cX7_add 14 = .ok (.aload_n 0, 1) := by decide +kernel
theorem dX7_add_15 : decode cX7_add 15 = .ok (.getfield 21, 3) := by decide +kernel
theorem dX7_add_18 : decode cX7_add 18 = .ok (.iload_n 1, 1) := by decide +kernel
theorem dX7_add_19 : decode cX7_add 19 = .ok (.iastore, 1) := by decide +kernel
theorem dX7_add_20 : decode cX7_add 20 = .ok (.aload_n 0, 1) := by decide +kernel
theorem dX7_add_21 : decode cX7_add 21 = .ok (.getfield 15, 3) := by decide +kernel
theorem dX7_add_24 : decode cX7_add 24 = .ok (.aload_n 0, 1) := by decide +kernel
theorem dX7_add_25 : decode cX7_add 25 = .ok (.getfield 21, 3) := by decide +kernel
theorem dX7_add_28 : decode cX7_add 28 = .ok (.iload_n 2, 1) := by decide +kernel
theorem dX7_add_29 : decode cX7_add 29 = .ok (.iastore, 1) := by decide +kernel
theorem dX7_add_30 : decode cX7_add 30 = .ok (.aload_n 0, 1) := by decide +kernel
theorem dX7_add_31 : decode cX7_add 31 = .ok (.dup, 1) := by decide +kernel
theorem dX7_add_32 : decode cX7_add 32 = .ok (.getfield 21, 3) := by decide +kernel
theorem dX7_add_35 : decode cX7_add 35 = .ok (.iconst 1, 1) := by decide +kernel
theorem dX7_add_36 : decode cX7_add 36 = .ok (.iadd, 1) := by decide +kernel
theorem dX7_add_37 : decode cX7_add 37 = .ok (.putfield 21, 3) := by decide +kernel
theorem dX7_add_40 : decode cX7_add 40 = .ok (.return_, 1) := by decide +kernel
theorem dX7_setDetail_0 : decode cX7_setDetail 0 = .ok (.iload_n 1, 1) := by decide +kernel
theorem dX7_setDetail_1 : decode cX7_setDetail 1 = .ok (.ifCond .lt 18, 3) := by decide +kernel
theorem dX7_setDetail_4 : decode cX7_setDetail 4 = .ok (.iload_n 1, 1) := by decide +kernel
theorem dX7_setDetail_5 : decode cX7_setDetail 5 = .ok (.aload_n 0, 1) := by decide +kernel
theorem dX7_setDetail_6 : decode cX7_setDetail 6 = .ok (.getfield 21, 3) := by decide +kernel
theorem dX7_setDetail_9 : decode cX7_setDetail 9 = .ok (.if_icmp .ge 10, 3) := by decide +kernel
theorem dX7_setDetail_12 : decode cX7_setDetail 12 = .ok (.aload_n 0, 1) := by decide +kernel
theorem dX7_setDetail_13 : decode cX7_setDetail 13 = .ok (.getfield 15, 3) := by decide +kernel
theorem dX7_setDetail_16 : decode cX7_setDetail 16 = .ok (.iload_n 1, 1) := by decide +kernel
theorem dX7_setDetail_17 : decode cX7_setDetail 17 = .ok (.iload_n 2, 1) := by decide +kernel
theorem dX7_setDetail_18 : decode cX7_setDetail 18 = .ok (.iastore, 1) := by decide +kernel
theorem dX7_setDetail_19 : decode cX7_setDetail 19 = .ok (.return_, 1) := by decide +kernel
theorem dX7_worth_0 : decode cX7_worth 0 = .ok (.aload_n 0, 1) := by decide +kernel
theorem dX7_worth_1 : decode cX7_worth 1 = .ok (.iconst 0, 1) := by decide +kernel
theorem dX7_worth_2 : decode cX7_worth 2 = .ok (.putfield 31, 3) := by decide +kernel
theorem dX7_worth_5 : decode cX7_worth 5 = .ok (.iconst 0, 1) := by decide +kernel
theorem dX7_worth_6 : decode cX7_worth 6 = .ok (.istore_n 2, 1) := by decide +kernel
theorem dX7_worth_7 : decode cX7_worth 7 = .ok (.iconst 0, 1) := by decide +kernel
theorem dX7_worth_8 : decode cX7_worth 8 = .ok (.istore_n 3, 1) := by decide +kernel
theorem dX7_worth_9 : decode cX7_worth 9 = .ok (.iload_n 3, 1) := by decide +kernel
theorem dX7_worth_10 : decode cX7_worth 10 = .ok (.aload_n 0, 1) := by decide +kernel
theorem dX7_worth_11 : decode cX7_worth 11 = .ok (.getfield 21, 3) := by decide +kernel
theorem dX7_worth_14 : decode cX7_worth 14 = .ok (.if_icmp .ge 191, 3) := by decide +kernel
theorem dX7_worth_17 : decode cX7_worth 17 = .ok (.iload_n 3, 1) := by decide +kernel
theorem dX7_worth_18 : decode cX7_worth 18 = .ok (.iload_n 2, 1) := by decide +kernel
theorem dX7_worth_19 : decode cX7_worth 19 = .ok (.if_icmp .ge 6, 3) := by decide +kernel
theorem dX7_worth_22 : decode cX7_worth 22 = .ok (.goto 177, 3) := by decide +kernel
theorem dX7_worth_25 : decode cX7_worth 25 = .ok (.aload_n 0, 1) := by decide +kernel
theorem dX7_worth_26 : decode cX7_worth 26 = .ok (.getfield 9, 3) := by decide +kernel
theorem dX7_worth_29 : decode cX7_worth 29 = .ok (.iload_n 3, 1) := by decide +kernel
theorem dX7_worth_30 : decode cX7_worth 30 = .ok (.iaload, 1) := by decide +kernel
theorem dX7_worth_31 : decode cX7_worth 31 = .ok (.bipush 13, 2) := by decide +kernel
theorem dX7_worth_33 : decode cX7_worth 33 = .ok (.if_icmp .ne 8, 3) := by decide +kernel
theorem dX7_worth_36 : decode cX7_worth 36 = .ok (.aload_n 0, 1) := by decide +kernel
theorem dX7_worth_37 : decode cX7_worth 37 = .ok (.invokevirtual 34, 3) := by decide +kernel
theorem dX7_worth_40 : decode cX7_worth 40 = .ok (.ireturn, 1) := by decide +kernel
theorem dX7_worth_41 : decode cX7_worth 41 = .ok (.aload_n 0, 1) := by decide +kernel
theorem dX7_worth_42 : decode cX7_worth 42 = .ok (.getfield 9, 3) := by decide +kernel
theorem dX7_worth_45 : decode cX7_worth 45 = .ok (.iload_n 3, 1) := by decide +kernel
theorem dX7_worth_46 : decode cX7_worth 46 = .ok (.iaload, 1) := by decide +kernel
theorem dX7_worth_47 : decode cX7_worth 47 = .ok (.bipush 12, 2) := by decide +kernel
theorem dX7_worth_49 : decode cX7_worth 49 = .ok (.if_icmp .ne 24, 3) := by decide +kernel
theorem dX7_worth_52 : decode cX7_worth 52 = .ok (.aload_n 0, 1) := by decide +kernel
theorem dX7_worth_53 : decode cX7_worth 53 = .ok (.invokevirtual 34, 3) := by decide +kernel
theorem dX7_worth_56 : decode cX7_worth 56 = .ok (.ifCond .ne 12, 3) := by decide +kernel
theorem dX7_worth_59 : decode cX7_worth 59 = .ok (.aload_n 0, 1) := by decide +kernel
theorem dX7_worth_60 : decode cX7_worth 60 = .ok (.getfield 15, 3) := by decide +kernel
theorem dX7_worth_63 : decode cX7_worth 63 = .ok (.iload_n 3, 1) := by decide +kernel
theorem dX7_worth_64 : decode cX7_worth 64 = .ok (.iaload, 1) := by decide +kernel
theorem dX7_worth_65 : decode cX7_worth 65 = .ok (.goto 4, 3) := by decide +kernel
theorem dX7_worth_68 : decode cX7_worth 68 = .ok (.iload_n 3, 1) := by decide +kernel
theorem dX7_worth_69 : decode cX7_worth 69 = .ok (.istore_n 2, 1) := by decide +kernel
theorem dX7_worth_70 : decode cX7_worth 70 = .ok (.goto 129, 3) := by decide +kernel
theorem dX7_worth_73 : decode cX7_worth 73 = .ok (.aload_n 0, 1) := by decide +kernel
theorem dX7_worth_74 : decode cX7_worth 74 = .ok (.getfield 9, 3) := by decide +kernel
theorem dX7_worth_77 : decode cX7_worth 77 = .ok (.iload_n 3, 1) := by decide +kernel
theorem dX7_worth_78 : decode cX7_worth 78 = .ok (.iaload, 1) := by decide +kernel
theorem dX7_worth_79 : decode cX7_worth 79 = .ok (.ifCond .ne 16, 3) := by decide +kernel
theorem dX7_worth_82 : decode cX7_worth 82 = .ok (.aload_n 0, 1) := by decide +kernel
theorem dX7_worth_83 : decode cX7_worth 83 = .ok (.aload_n 0, 1) := by decide +kernel
theorem dX7_worth_84 : decode cX7_worth 84 = .ok (.getfield 15, 3) := by decide +kernel
theorem dX7_worth_87 : decode cX7_worth 87 = .ok (.iload_n 3, 1) := by decide +kernel
theorem dX7_worth_88 : decode cX7_worth 88 = .ok (.iaload, 1) := by decide +kernel
theorem dX7_worth_89 : decode cX7_worth 89 = .ok (.invokevirtual 38, 3) := by decide +kernel
theorem dX7_worth_92 : decode cX7_worth 92 = .ok (.goto 107, 3) := by decide +kernel
theorem dX7_worth_95 : decode cX7_worth 95 = .ok (.aload_n 0, 1) := by decide +kernel
theorem dX7_worth_96 : decode cX7_worth 96 = .ok (.getfield 9, 3) := by decide +kernel
theorem dX7_worth_99 : decode cX7_worth 99 = .ok (.iload_n 3, 1) := by decide +kernel
theorem dX7_worth_100 : decode cX7_worth 100 = .ok (.iaload, 1) := by decide +kernel
theorem dX7_worth_101 : decode cX7_worth 101 = .ok (.iconst 1, 1) := by decide +kernel
theorem dX7_worth_102 : decode cX7_worth 102 = .ok (.if_icmp .ne 42, 3) := by decide +kernel
theorem dX7_worth_105 : decode cX7_worth 105 = .ok (.aload_n 0, 1) := by decide +kernel
theorem dX7_worth_106 : decode cX7_worth 106 = .ok (.aload_n 0, 1) := by decide +kernel
theorem dX7_worth_107 : decode cX7_worth 107 = .ok (.getfield 15, 3) := by decide +kernel
theorem dX7_worth_110 : decode cX7_worth 110 = .ok (.iload_n 3, 1) := by decide +kernel
theorem dX7_worth_111 : decode cX7_worth 111 = .ok (.iaload, 1) := by decide +kernel
theorem dX7_worth_112 : decode cX7_worth 112 = .ok (.ifCond .lt 25, 3) := by decide +kernel
theorem dX7_worth_115 : decode cX7_worth 115 = .ok (.aload_n 0, 1) := by decide +kernel
theorem dX7_worth_116 : decode cX7_worth 116 = .ok (.getfield 15, 3) := by decide +kernel
theorem dX7_worth_119 : decode cX7_worth 119 = .ok (.iload_n 3, 1) := by decide +kernel
theorem dX7_worth_120 : decode cX7_worth 120 = .ok (.iaload, 1) := by decide +kernel
theorem dX7_worth_121 : decode cX7_worth 121 = .ok (.aload_n 1, 1) := by decide +kernel
theorem dX7_worth_122 : decode cX7_worth 122 = .ok (.arraylength, 1) := by decide +kernel
theorem dX7_worth_123 : decode cX7_worth 123 = .ok (.if_icmp .ge 14, 3) := by decide +kernel
theorem dX7_worth_126 : decode cX7_worth 126 = .ok (.aload_n 1, 1) := by decide +kernel
theorem dX7_worth_127 : decode cX7_worth 127 = .ok (.aload_n 0, 1) := by decide +kernel
theorem dX7_worth_128 : decode cX7_worth 128 = .ok (.getfield 15, 3) := by decide +kernel
theorem dX7_worth_131 : decode cX7_worth 131 = .ok (.iload_n 3, 1) := by decide +kernel
theorem dX7_worth_132 : decode cX7_worth 132 = .ok (.iaload, 1) := by decide +kernel
theorem dX7_worth_133 : decode cX7_worth 133 = .ok (.iaload, 1) := by decide +kernel
theorem dX7_worth_134 : decode cX7_worth 134 = .ok (.goto 4, 3) := by decide +kernel
theorem dX7_worth_137 : decode cX7_worth 137 = .ok (.iconst 0, 1) := by decide +kernel
theorem dX7_worth_138 : decode cX7_worth 138 = .ok (.invokevirtual 38, 3) := by decide +kernel
theorem dX7_worth_141 : decode cX7_worth 141 = .ok (.goto 58, 3) := by decide +kernel
theorem dX7_worth_144 : decode cX7_worth 144 = .ok (.aload_n 0, 1) := by decide +kernel
theorem dX7_worth_145 : decode cX7_worth 145 = .ok (.getfield 9, 3) := by decide +kernel
theorem dX7_worth_148 : decode cX7_worth 148 = .ok (.iload_n 3, 1) := by decide +kernel
theorem dX7_worth_149 : decode cX7_worth 149 = .ok (.iaload, 1) := by decide +kernel
theorem dX7_worth_150 : decode cX7_worth 150 = .ok (.bipush 9, 2) := by decide +kernel
theorem dX7_worth_152 : decode cX7_worth 152 = .ok (.if_icmp .ne 22, 3) := by decide +kernel
theorem dX7_worth_155 : decode cX7_worth 155 = .ok (.aload_n 0, 1) := by decide +kernel
theorem dX7_worth_156 : decode cX7_worth 156 = .ok (.aload_n 0, 1) := by decide +kernel
theorem dX7_worth_157 : decode cX7_worth 157 = .ok (.invokevirtual 34, 3) := by decide +kernel
theorem dX7_worth_160 : decode cX7_worth 160 = .ok (.ifCond .ne 7, 3) := by decide +kernel
theorem dX7_worth_163 : decode cX7_worth 163 = .ok (.iconst 1, 1) := by decide +kernel
theorem dX7_worth_164 : decode cX7_worth 164 = .ok (.goto 4, 3) := by decide +kernel
theorem dX7_worth_167 : decode cX7_worth 167 = .ok (.iconst 0, 1) := by decide +kernel
theorem dX7_worth_168 : decode cX7_worth 168 = .ok (.invokevirtual 38, 3) := by decide +kernel
theorem dX7_worth_171 : decode cX7_worth 171 = .ok (.goto 28, 3) := by decide +kernel
theorem dX7_worth_174 : decode cX7_worth 174 = .ok (.aload_n 0, 1) := by decide +kernel
theorem dX7_worth_175 : decode cX7_worth 175 = .ok (.invokevirtual 34, 3) := by decide +kernel
theorem dX7_worth_178 : decode cX7_worth 178 = .ok (.istore 4, 2) := by decide +kernel
theorem dX7_worth_180 : decode cX7_worth 180 = .ok (.aload_n 0, 1) := by decide +kernel
theorem dX7_worth_181 : decode cX7_worth 181 = .ok (.aload_n 0, 1) := by decide +kernel
theorem dX7_worth_182 : decode cX7_worth 182 = .ok (.getfield 9, 3) := by decide +kernel
theorem dX7_worth_185 : decode cX7_worth 185 = .ok (.iload_n 3, 1) := by decide +kernel
theorem dX7_worth_186 : decode cX7_worth 186 = .ok (.iaload, 1) := by decide +kernel
theorem dX7_worth_187 : decode cX7_worth 187 = .ok (.aload_n 0, 1) := by decide +kernel
theorem dX7_worth_188 : decode cX7_worth 188 = .ok (.invokevirtual 34, 3) := by decide +kernel
theorem dX7_worth_191 : decode cX7_worth 191 = .ok (.iload 4, 2) := by decide +kernel
theorem dX7_worth_193 : decode cX7_worth 193 = .ok (.invokestatic 42, 3) := by decide +kernel
theorem dX7_worth_196 : decode cX7_worth 196 = .ok (.invokevirtual 38, 3) := by decide +kernel
theorem dX7_worth_199 : decode cX7_worth 199 = .ok (.iinc 3 1, 3) := by decide +kernel
theorem dX7_worth_202 : decode cX7_worth 202 = .ok (.goto (-193), 3) := by decide +kernel
theorem dX7_worth_205 : decode cX7_worth 205 = .ok (.iconst 0, 1) := by decide +kernel
theorem dX7_worth_206 : decode cX7_worth 206 = .ok (.ireturn, 1) := by decide +kernel
theorem dX7_push_0 : decode cX7_push 0 = .ok (.aload_n 0, 1) := by decide +kernel
theorem dX7_push_1 : decode cX7_push 1 = .ok (.getfield 31, 3) := by decide +kernel
theorem dX7_push_4 : decode cX7_push 4 = .ok (.bipush 32, 2) := by decide +kernel
theorem dX7_push_6 : decode cX7_push 6 = .ok (.if_icmp .ge 23, 3) := by decide +kernel
theorem dX7_push_9 : decode cX7_push 9 = .ok (.aload_n 0, 1) := by decide +kernel
theorem dX7_push_10 : decode cX7_push 10 = .ok (.getfield 18, 3) := by decide +kernel
theorem dX7_push_13 : decode cX7_push 13 = .ok (.aload_n 0, 1) := by decide +kernel
theorem dX7_push_14 : decode cX7_push 14 = .ok (.getfield 31, 3) := by decide +kernel
theorem dX7_push_17 : decode cX7_push 17 = .ok (.iload_n 1, 1) := by decide +kernel
theorem dX7_push_18 : decode cX7_push 18 = .ok (.iastore, 1) := by decide +kernel
theorem dX7_push_19 : decode cX7_push 19 = .ok (.aload_n 0, 1) := by decide +kernel
theorem dX7_push_20 : decode cX7_push 20 = .ok (.dup, 1) := by decide +kernel
theorem dX7_push_21 : decode cX7_push 21 = .ok (.getfield 31, 3) := by decide +kernel
theorem dX7_push_24 : decode cX7_push 24 = .ok (.iconst 1, 1) := by decide +kernel
theorem dX7_push_25 : decode cX7_push 25 = .ok (.iadd, 1) := by decide +kernel
theorem dX7_push_26 : decode cX7_push 26 = .ok (.putfield 31, 3) := by decide +kernel
theorem dX7_push_29 : decode cX7_push 29 = .ok (.return_, 1) := by decide +kernel
theorem dX7_pop_0 : decode cX7_pop 0 = .ok (.aload_n 0, 1) := by decide +kernel
theorem dX7_pop_1 : decode cX7_pop 1 = .ok (.getfield 31, 3) := by decide +kernel
theorem dX7_pop_4 : decode cX7_pop 4 = .ok (.ifCond .gt 5, 3) := by decide +kernel
theorem dX7_pop_7 : decode cX7_pop 7 = .ok (.iconst 0, 1) := by decide +kernel
theorem dX7_pop_8 : decode cX7_pop 8 = .ok (.ireturn, 1) := by decide +kernel
theorem dX7_pop_9 : decode cX7_pop 9 = .ok (.aload_n 0, 1) := by decide +kernel
theorem dX7_pop_10 : decode cX7_pop 10 = .ok (.dup, 1) := by decide +kernel
theorem dX7_pop_11 : decode cX7_pop 11 = .ok (.getfield 31, 3) := by decide +kernel
theorem dX7_pop_14 : decode cX7_pop 14 = .ok (.iconst 1, 1) := by decide +kernel
theorem dX7_pop_15 : decode cX7_pop 15 = .ok (.isub, 1) := by decide +kernel
theorem dX7_pop_16 : decode cX7_pop 16 = .ok (.putfield 31, 3) := by decide +kernel
theorem dX7_pop_19 : decode cX7_pop 19 = .ok (.aload_n 0, 1) := by decide +kernel
theorem dX7_pop_20 : decode cX7_pop 20 = .ok (.getfield 18, 3) := by decide +kernel
theorem dX7_pop_23 : decode cX7_pop 23 = .ok (.aload_n 0, 1) := by decide +kernel
theorem dX7_pop_24 : decode cX7_pop 24 = .ok (.getfield 31, 3) := by decide +kernel
theorem dX7_pop_27 : decode cX7_pop 27 = .ok (.iaload, 1) := by decide +kernel
theorem dX7_pop_28 : decode cX7_pop 28 = .ok (.ireturn, 1) := by decide +kernel
theorem dX7_joined_0 : decode cX7_joined 0 = .ok (.iload_n 0, 1) := by decide +kernel
theorem dX7_joined_1 : decode cX7_joined 1 = .ok (.tableswitch 140 2 11 #[55, 64, 73, 82, 99, 110, 121, 140, 132, 136], 55) := by decide +kernel
theorem dX7_joined_56 : decode cX7_joined 56 = .ok (.iload_n 1, 1) := by decide +kernel
theorem dX7_joined_57 : decode cX7_joined 57 = .ok (.i2l, 1) := by decide +kernel
theorem dX7_joined_58 : decode cX7_joined 58 = .ok (.iload_n 2, 1) := by decide +kernel
theorem dX7_joined_59 : decode cX7_joined 59 = .ok (.i2l, 1) := by decide +kernel
theorem dX7_joined_60 : decode cX7_joined 60 = .ok (.ladd, 1) := by decide +kernel
theorem dX7_joined_61 : decode cX7_joined 61 = .ok (.invokestatic 46, 3) := by decide +kernel
theorem dX7_joined_64 : decode cX7_joined 64 = .ok (.ireturn, 1) := by decide +kernel
theorem dX7_joined_65 : decode cX7_joined 65 = .ok (.iload_n 1, 1) := by decide +kernel
theorem dX7_joined_66 : decode cX7_joined 66 = .ok (.i2l, 1) := by decide +kernel
theorem dX7_joined_67 : decode cX7_joined 67 = .ok (.iload_n 2, 1) := by decide +kernel
theorem dX7_joined_68 : decode cX7_joined 68 = .ok (.i2l, 1) := by decide +kernel
theorem dX7_joined_69 : decode cX7_joined 69 = .ok (.lsub, 1) := by decide +kernel
theorem dX7_joined_70 : decode cX7_joined 70 = .ok (.invokestatic 46, 3) := by decide +kernel
theorem dX7_joined_73 : decode cX7_joined 73 = .ok (.ireturn, 1) := by decide +kernel
theorem dX7_joined_74 : decode cX7_joined 74 = .ok (.iload_n 1, 1) := by decide +kernel
theorem dX7_joined_75 : decode cX7_joined 75 = .ok (.i2l, 1) := by decide +kernel
theorem dX7_joined_76 : decode cX7_joined 76 = .ok (.iload_n 2, 1) := by decide +kernel
theorem dX7_joined_77 : decode cX7_joined 77 = .ok (.i2l, 1) := by decide +kernel
theorem dX7_joined_78 : decode cX7_joined 78 = .ok (.lmul, 1) := by decide +kernel
theorem dX7_joined_79 : decode cX7_joined 79 = .ok (.invokestatic 46, 3) := by decide +kernel
theorem dX7_joined_82 : decode cX7_joined 82 = .ok (.ireturn, 1) := by decide +kernel
theorem dX7_joined_83 : decode cX7_joined 83 = .ok (.iload_n 2, 1) := by decide +kernel
theorem dX7_joined_84 : decode cX7_joined 84 = .ok (.ifCond .ne 7, 3) := by decide +kernel
theorem dX7_joined_87 : decode cX7_joined 87 = .ok (.iconst 0, 1) := by decide +kernel
theorem dX7_joined_88 : decode cX7_joined 88 = .ok (.goto 11, 3) := by decide +kernel
theorem dX7_joined_91 : decode cX7_joined 91 = .ok (.iload_n 1, 1) := by decide +kernel
theorem dX7_joined_92 : decode cX7_joined 92 = .ok (.i2l, 1) := by decide +kernel
theorem dX7_joined_93 : decode cX7_joined 93 = .ok (.iload_n 2, 1) := by decide +kernel
theorem dX7_joined_94 : decode cX7_joined 94 = .ok (.i2l, 1) := by decide +kernel
theorem dX7_joined_95 : decode cX7_joined 95 = .ok (.ldiv, 1) := by decide +kernel
theorem dX7_joined_96 : decode cX7_joined 96 = .ok (.invokestatic 46, 3) := by decide +kernel
theorem dX7_joined_99 : decode cX7_joined 99 = .ok (.ireturn, 1) := by decide +kernel
theorem dX7_joined_100 : decode cX7_joined 100 = .ok (.iload_n 1, 1) := by decide +kernel
theorem dX7_joined_101 : decode cX7_joined 101 = .ok (.iload_n 2, 1) := by decide +kernel
theorem dX7_joined_102 : decode cX7_joined 102 = .ok (.if_icmp .ne 7, 3) := by decide +kernel
theorem dX7_joined_105 : decode cX7_joined 105 = .ok (.iconst 1, 1) := by decide +kernel
theorem dX7_joined_106 : decode cX7_joined 106 = .ok (.goto 4, 3) := by decide +kernel
theorem dX7_joined_109 : decode cX7_joined 109 = .ok (.iconst 0, 1) := by decide +kernel
theorem dX7_joined_110 : decode cX7_joined 110 = .ok (.ireturn, 1) := by decide +kernel
theorem dX7_joined_111 : decode cX7_joined 111 = .ok (.iload_n 1, 1) := by decide +kernel
theorem dX7_joined_112 : decode cX7_joined 112 = .ok (.iload_n 2, 1) := by decide +kernel
theorem dX7_joined_113 : decode cX7_joined 113 = .ok (.if_icmp .ge 7, 3) := by decide +kernel
theorem dX7_joined_116 : decode cX7_joined 116 = .ok (.iconst 1, 1) := by decide +kernel
theorem dX7_joined_117 : decode cX7_joined 117 = .ok (.goto 4, 3) := by decide +kernel
theorem dX7_joined_120 : decode cX7_joined 120 = .ok (.iconst 0, 1) := by decide +kernel
theorem dX7_joined_121 : decode cX7_joined 121 = .ok (.ireturn, 1) := by decide +kernel
theorem dX7_joined_122 : decode cX7_joined 122 = .ok (.iload_n 1, 1) := by decide +kernel
theorem dX7_joined_123 : decode cX7_joined 123 = .ok (.iload_n 2, 1) := by decide +kernel
theorem dX7_joined_124 : decode cX7_joined 124 = .ok (.if_icmp .le 7, 3) := by decide +kernel
theorem dX7_joined_127 : decode cX7_joined 127 = .ok (.iconst 1, 1) := by decide +kernel
theorem dX7_joined_128 : decode cX7_joined 128 = .ok (.goto 4, 3) := by decide +kernel
theorem dX7_joined_131 : decode cX7_joined 131 = .ok (.iconst 0, 1) := by decide +kernel
theorem dX7_joined_132 : decode cX7_joined 132 = .ok (.ireturn, 1) := by decide +kernel
theorem dX7_joined_133 : decode cX7_joined 133 = .ok (.iload_n 1, 1) := by decide +kernel
theorem dX7_joined_134 : decode cX7_joined 134 = .ok (.iload_n 2, 1) := by decide +kernel
theorem dX7_joined_135 : decode cX7_joined 135 = .ok (.iand, 1) := by decide +kernel
theorem dX7_joined_136 : decode cX7_joined 136 = .ok (.ireturn, 1) := by decide +kernel
theorem dX7_joined_137 : decode cX7_joined 137 = .ok (.iload_n 1, 1) := by decide +kernel
theorem dX7_joined_138 : decode cX7_joined 138 = .ok (.iload_n 2, 1) := by decide +kernel
theorem dX7_joined_139 : decode cX7_joined 139 = .ok (.ior, 1) := by decide +kernel
theorem dX7_joined_140 : decode cX7_joined 140 = .ok (.ireturn, 1) := by decide +kernel
theorem dX7_joined_141 : decode cX7_joined 141 = .ok (.iconst 0, 1) := by decide +kernel
theorem dX7_joined_142 : decode cX7_joined 142 = .ok (.ireturn, 1) := by decide +kernel
theorem dX7_bounded_0 : decode cX7_bounded 0 = .ok (.ldc2_w 50, 3) := by decide +kernel
theorem dX7_bounded_3 : decode cX7_bounded 3 = .ok (.ldc2_w 52, 3) := by decide +kernel
theorem dX7_bounded_6 : decode cX7_bounded 6 = .ok (.lload_n 0, 1) := by decide +kernel
theorem dX7_bounded_7 : decode cX7_bounded 7 = .ok (.invokestatic 54, 3) := by decide +kernel
theorem dX7_bounded_10 : decode cX7_bounded 10 = .ok (.invokestatic 60, 3) := by decide +kernel
theorem dX7_bounded_13 : decode cX7_bounded 13 = .ok (.l2i, 1) := by decide +kernel
theorem dX7_bounded_14 : decode cX7_bounded 14 = .ok (.ireturn, 1) := by decide +kernel
theorem dX8_init_0 : decode cX8_init 0 = .ok (.aload_n 0, 1) := by decide +kernel
theorem dX8_init_1 : decode cX8_init 1 = .ok (.invokespecial 3, 3) := by decide +kernel
theorem dX8_init_4 : decode cX8_init 4 = .ok (.aload_n 0, 1) := by decide +kernel
theorem dX8_init_5 : decode cX8_init 5 = .ok (.new 9, 3) := by decide +kernel
theorem dX8_init_8 : decode cX8_init 8 = .ok (.dup, 1) := by decide +kernel
theorem dX8_init_9 : decode cX8_init 9 = .ok (.invokespecial 11, 3) := by decide +kernel
theorem dX8_init_12 : decode cX8_init 12 = .ok (.putfield 12, 3) := by decide +kernel
theorem dX8_init_15 : decode cX8_init 15 = .ok (.aload_n 0, 1) := by decide +kernel
theorem dX8_init_16 : decode cX8_init 16 = .ok (.aload_n 1, 1) := by decide +kernel
theorem dX8_init_17 : decode cX8_init 17 = .ok (.putfield 18, 3) := by decide +kernel
theorem dX8_init_20 : decode cX8_init 20 = .ok (.return_, 1) := by decide +kernel
theorem dX8_read_0 : decode cX8_read 0 = .ok (.aload_n 0, 1) := by decide +kernel
theorem dX8_read_1 : decode cX8_read 1 = .ok (.getfield 18, 3) := by decide +kernel
theorem dX8_read_4 : decode cX8_read 4 = .ok (.invokevirtual 22, 3) := by decide +kernel
theorem dX8_read_7 : decode cX8_read 7 = .ok (.aload_n 0, 1) := by decide +kernel
theorem dX8_read_8 : decode cX8_read 8 = .ok (.getfield 12, 3) := by decide +kernel
theorem dX8_read_11 : decode cX8_read 11 = .ok (.iconst 0, 1) := by decide +kernel
theorem dX8_read_12 : decode cX8_read 12 = .ok (.putfield 27, 3) := by decide +kernel
theorem dX8_read_15 : decode cX8_read 15 = .ok (.aload_n 0, 1) := by decide +kernel
theorem dX8_read_16 : decode cX8_read 16 = .ok (.invokevirtual 31, 3) := by decide +kernel
theorem dX8_read_19 : decode cX8_read 19 = .ok (.iconst 0, 1) := by decide +kernel
theorem dX8_read_20 : decode cX8_read 20 = .ok (.istore_n 1, 1) := by decide +kernel
theorem dX8_read_21 : decode cX8_read 21 = .ok (.iload_n 1, 1) := by decide +kernel
theorem dX8_read_22 : decode cX8_read 22 = .ok (.sipush 160, 3) := by decide +kernel
theorem dX8_read_25 : decode cX8_read 25 = .ok (.if_icmp .ge 32, 3) := by decide +kernel
theorem dX8_read_28 : decode cX8_read 28 = .ok (.aload_n 0, 1) := by decide +kernel
theorem dX8_read_29 : decode cX8_read 29 = .ok (.getfield 18, 3) := by decide +kernel
theorem dX8_read_32 : decode cX8_read 32 = .ok (.invokevirtual 34, 3) := by decide +kernel
theorem dX8_read_35 : decode cX8_read 35 = .ok (.bipush 59, 2) := by decide +kernel
theorem dX8_read_37 : decode cX8_read 37 = .ok (.if_icmp .ne 20, 3) := by decide +kernel
theorem dX8_read_40 : decode cX8_read 40 = .ok (.aload_n 0, 1) := by decide +kernel
theorem dX8_read_41 : decode cX8_read 41 = .ok (.getfield 18, 3) := by decide +kernel
theorem dX8_read_44 : decode cX8_read 44 = .ok (.invokevirtual 38, 3) := by decide +kernel
theorem dX8_read_47 : decode cX8_read 47 = .ok (.aload_n 0, 1) := by decide +kernel
theorem dX8_read_48 : decode cX8_read 48 = .ok (.invokevirtual 31, 3) := by decide +kernel
theorem dX8_read_51 : decode cX8_read 51 = .ok (.iinc 1 1, 3) := by decide +kernel
theorem dX8_read_54 : decode cX8_read 54 = .ok (.goto (-33), 3) := by decide +kernel
theorem dX8_read_57 : decode cX8_read 57 = .ok (.aload_n 0, 1) := by decide +kernel
theorem dX8_read_58 : decode cX8_read 58 = .ok (.getfield 18, 3) := by decide +kernel
theorem dX8_read_61 : decode cX8_read 61 = .ok (.invokevirtual 34, 3) := by decide +kernel
theorem dX8_read_64 : decode cX8_read 64 = .ok (.iconst (-1), 1) := by decide +kernel
theorem dX8_read_65 : decode cX8_read 65 = .ok (.if_icmp .eq 10, 3) := by decide +kernel
theorem dX8_read_68 : decode cX8_read 68 = .ok (.aload_n 0, 1) := by decide +kernel
theorem dX8_read_69 : decode cX8_read 69 = .ok (.getfield 18, 3) := by decide +kernel
theorem dX8_read_72 : decode cX8_read 72 = .ok (.invokevirtual 41, 3) := by decide +kernel
theorem dX8_read_75 : decode cX8_read 75 = .ok (.aload_n 0, 1) := by decide +kernel
theorem dX8_read_76 : decode cX8_read 76 = .ok (.getfield 18, 3) := by decide +kernel
theorem dX8_read_79 : decode cX8_read 79 = .ok (.getfield 44, 3) := by decide +kernel
theorem dX8_read_82 : decode cX8_read 82 = .ok (.ireturn, 1) := by decide +kernel
theorem dX8_readClause_0 : decode cX8_readClause 0 = .ok (.aload_n 0, 1) := by decide +kernel
theorem dX8_readClause_1 : decode cX8_readClause 1 = .ok (.getfield 18, 3) := by decide +kernel
theorem dX8_readClause_4 : decode cX8_readClause 4 = .ok (.bipush 121, 2) := by decide +kernel
theorem dX8_readClause_6 : decode cX8_readClause 6 = .ok (.invokevirtual 47, 3) := by decide +kernel
theorem dX8_readClause_9 : decode cX8_readClause 9 = .ok (.aload_n 0, 1) := by decide +kernel
theorem dX8_readClause_10 : decode cX8_readClause 10 = .ok (.getfield 18, 3) := by decide +kernel
theorem dX8_readClause_13 : decode cX8_readClause 13 = .ok (.bipush 58, 2) := by decide +kernel
theorem dX8_readClause_15 : decode cX8_readClause 15 = .ok (.invokevirtual 47, 3) := by decide +kernel
theorem dX8_readClause_18 : decode cX8_readClause 18 = .ok (.aload_n 0, 1) := by decide +kernel
theorem dX8_readClause_19 : decode cX8_readClause 19 = .ok (.getfield 18, 3) := by decide +kernel
theorem dX8_readClause_22 : decode cX8_readClause 22 = .ok (.invokevirtual 34, 3) := by decide +kernel
theorem dX8_readClause_25 : decode cX8_readClause 25 = .ok (.istore_n 1, 1) := by decide +kernel
theorem dX8_readClause_26 : decode cX8_readClause 26 = .ok (.iload_n 1, 1) := by decide +kernel
theorem dX8_readClause_27 : decode cX8_readClause 27 = .ok (.bipush 33, 2) := by decide +kernel
theorem dX8_readClause_29 : decode cX8_readClause 29 = .ok (.if_icmp .eq 13, 3) := by decide +kernel
theorem dX8_readClause_32 : decode cX8_readClause 32 = .ok (.iload_n 1, 1) := by decide +kernel
theorem dX8_readClause_33 : decode cX8_readClause 33 = .ok (.bipush 40, 2) := by decide +kernel
theorem dX8_readClause_35 : decode cX8_readClause 35 = .ok (.if_icmp .eq 7, 3) := by decide +kernel
theorem dX8_readClause_38 : decode cX8_readClause 38 = .ok (.iconst 1, 1) := by decide +kernel
theorem dX8_readClause_39 : decode cX8_readClause 39 = .ok (.goto 4, 3) := by decide +kernel
theorem dX8_readClause_42 : decode cX8_readClause 42 = .ok (.iconst 0, 1) := by decide +kernel
theorem dX8_readClause_43 : decode cX8_readClause 43 = .ok (.istore_n 2, 1) := by decide +kernel
theorem dX8_readClause_44 : decode cX8_readClause 44 = .ok (.iload_n 2, 1) := by decide +kernel
theorem dX8_readClause_45 : decode cX8_readClause 45 = .ok (.ifCond .eq 8, 3) := by decide +kernel
theorem dX8_readClause_48 : decode cX8_readClause 48 = .ok (.aload_n 0, 1) := by decide +kernel
theorem dX8_readClause_49 : decode cX8_readClause 49 = .ok (.iconst 0, 1) := by decide +kernel
theorem dX8_readClause_50 : decode cX8_readClause 50 = .ok (.invokevirtual 51, 3) := by decide +kernel
theorem dX8_readClause_53 : decode cX8_readClause 53 = .ok (.iload_n 2, 1) := by decide +kernel
theorem dX8_readClause_54 : decode cX8_readClause 54 = .ok (.ifCond .eq 28, 3) := by decide +kernel
theorem dX8_readClause_57 : decode cX8_readClause 57 = .ok (.aload_n 0, 1) := by decide +kernel
theorem dX8_readClause_58 : decode cX8_readClause 58 = .ok (.getfield 18, 3) := by decide +kernel
theorem dX8_readClause_61 : decode cX8_readClause 61 = .ok (.invokevirtual 34, 3) := by decide +kernel
theorem dX8_readClause_64 : decode cX8_readClause 64 = .ok (.invokestatic 55, 3) := by decide +kernel
theorem dX8_readClause_67 : decode cX8_readClause 67 = .ok (.iconst (-1), 1) := by decide +kernel
theorem dX8_readClause_68 : decode cX8_readClause 68 = .ok (.if_icmp .ne 14, 3) := by decide +kernel
theorem dX8_readClause_71 : decode cX8_readClause 71 = .ok (.aload_n 0, 1) := by decide +kernel
theorem dX8_readClause_72 : decode cX8_readClause 72 = .ok (.getfield 12, 3) := by decide +kernel
theorem dX8_readClause_75 : decode cX8_readClause 75 = .ok (.bipush 13, 2) := by decide +kernel
theorem dX8_readClause_77 : decode cX8_readClause 77 = .ok (.iconst 0, 1) := by decide +kernel
theorem dX8_readClause_78 : decode cX8_readClause 78 = .ok (.invokevirtual 59, 3) := by decide +kernel
theorem dX8_readClause_81 : decode cX8_readClause 81 = .ok (.return_, 1) := by decide +kernel
theorem dX8_readClause_82 : decode cX8_readClause 82 = .ok (.aload_n 0, 1) := by decide +kernel
theorem dX8_readClause_83 : decode cX8_readClause 83 = .ok (.iconst 0, 1) := by decide +kernel
theorem dX8_readClause_84 : decode cX8_readClause 84 = .ok (.iload_n 2, 1) := by decide +kernel
theorem dX8_readClause_85 : decode cX8_readClause 85 = .ok (.invokevirtual 63, 3) := by decide +kernel
theorem dX8_readClause_88 : decode cX8_readClause 88 = .ok (.aload_n 0, 1) := by decide +kernel
theorem dX8_readClause_89 : decode cX8_readClause 89 = .ok (.getfield 18, 3) := by decide +kernel
theorem dX8_readClause_92 : decode cX8_readClause 92 = .ok (.bipush 63, 2) := by decide +kernel
theorem dX8_readClause_94 : decode cX8_readClause 94 = .ok (.invokevirtual 47, 3) := by decide +kernel
theorem dX8_readClause_97 : decode cX8_readClause 97 = .ok (.aload_n 0, 1) := by decide +kernel
theorem dX8_readClause_98 : decode cX8_readClause 98 = .ok (.getfield 12, 3) := by decide +kernel
theorem dX8_readClause_101 : decode cX8_readClause 101 = .ok (.getfield 27, 3) := by decide +kernel
theorem dX8_readClause_104 : decode cX8_readClause 104 = .ok (.istore_n 3, 1) := by decide +kernel
theorem dX8_readClause_105 : decode cX8_readClause 105 = .ok (.aload_n 0, 1) := by decide +kernel
theorem dX8_readClause_106 : decode cX8_readClause 106 = .ok (.getfield 12, 3) := by decide +kernel
theorem dX8_readClause_109 : decode cX8_readClause 109 = .ok (.bipush 12, 2) := by decide +kernel
theorem dX8_readClause_111 : decode cX8_readClause 111 = .ok (.iconst 0, 1) := by decide +kernel
theorem dX8_readClause_112 : decode cX8_readClause 112 = .ok (.invokevirtual 59, 3) := by decide +kernel
theorem dX8_readClause_115 : decode cX8_readClause 115 = .ok (.aload_n 0, 1) := by decide +kernel
theorem dX8_readClause_116 : decode cX8_readClause 116 = .ok (.iconst 0, 1) := by decide +kernel
theorem dX8_readClause_117 : decode cX8_readClause 117 = .ok (.invokevirtual 51, 3) := by decide +kernel
theorem dX8_readClause_120 : decode cX8_readClause 120 = .ok (.aload_n 0, 1) := by decide +kernel
theorem dX8_readClause_121 : decode cX8_readClause 121 = .ok (.getfield 12, 3) := by decide +kernel
theorem dX8_readClause_124 : decode cX8_readClause 124 = .ok (.bipush 13, 2) := by decide +kernel
theorem dX8_readClause_126 : decode cX8_readClause 126 = .ok (.iconst 0, 1) := by decide +kernel
theorem dX8_readClause_127 : decode cX8_readClause 127 = .ok (.invokevirtual 59, 3) := by decide +kernel
theorem dX8_readClause_130 : decode cX8_readClause 130 = .ok (.aload_n 0, 1) := by decide +kernel
theorem dX8_readClause_131 : decode cX8_readClause 131 = .ok (.getfield 12, 3) := by decide +kernel
theorem dX8_readClause_134 : decode cX8_readClause 134 = .ok (.iload_n 3, 1) := by decide +kernel
theorem dX8_readClause_135 : decode cX8_readClause 135 = .ok (.aload_n 0, 1) := by decide +kernel
theorem dX8_readClause_136 : decode cX8_readClause 136 = .ok (.getfield 12, 3) := by decide +kernel
theorem dX8_readClause_139 : decode cX8_readClause 139 = .ok (.getfield 27, 3) := by decide +kernel
theorem dX8_readClause_142 : decode cX8_readClause 142 = .ok (.invokevirtual 67, 3) := by decide +kernel
theorem dX8_readClause_145 : decode cX8_readClause 145 = .ok (.return_, 1) := by decide +kernel
theorem dX8_readCondition_0 : decode cX8_readCondition 0 = .ok (.aload_n 0, 1) := by decide +kernel
theorem dX8_readCondition_1 : decode cX8_readCondition 1 = .ok (.iload_n 1, 1) := by decide +kernel
theorem dX8_readCondition_2 : decode cX8_readCondition 2 = .ok (.iload_n 2, 1) := by decide +kernel
theorem dX8_readCondition_3 : decode cX8_readCondition 3 = .ok (.invokevirtual 70, 3) := by decide +kernel
theorem dX8_readCondition_6 : decode cX8_readCondition 6 = .ok (.iconst 0, 1) := by decide +kernel
theorem dX8_readCondition_7 : decode cX8_readCondition 7 = .ok (.istore_n 3, 1) := by decide +kernel
theorem dX8_readCondition_8 : decode cX8_readCondition 8 = .ok (.iload_n 3, 1) := by decide +kernel
theorem dX8_readCondition_9 : decode cX8_readCondition 9 = .ok (.sipush 160, 3) := by decide +kernel
theorem dX8_readCondition_12 : decode cX8_readCondition 12 = .ok (.if_icmp .ge 44, 3) := by decide +kernel
theorem dX8_readCondition_15 : decode cX8_readCondition 15 = .ok (.aload_n 0, 1) := by decide +kernel
theorem dX8_readCondition_16 : decode cX8_readCondition 16 = .ok (.getfield 18, 3) := by decide +kernel
theorem dX8_readCondition_19 : decode cX8_readCondition 19 = .ok (.invokevirtual 34, 3) := by decide +kernel
theorem dX8_readCondition_22 : decode cX8_readCondition 22 = .ok (.bipush 124, 2) := by decide +kernel
theorem dX8_readCondition_24 : decode cX8_readCondition 24 = .ok (.if_icmp .ne 32, 3) := by decide +kernel
theorem dX8_readCondition_27 : decode cX8_readCondition 27 = .ok (.aload_n 0, 1) := by decide +kernel
theorem dX8_readCondition_28 : decode cX8_readCondition 28 = .ok (.getfield 18, 3) := by decide +kernel
theorem dX8_readCondition_31 : decode cX8_readCondition 31 = .ok (.invokevirtual 38, 3) := by decide +kernel
theorem dX8_readCondition_34 : decode cX8_readCondition 34 = .ok (.aload_n 0, 1) := by decide +kernel
theorem dX8_readCondition_35 : decode cX8_readCondition 35 = .ok (.iload_n 1, 1) := by decide +kernel
theorem dX8_readCondition_36 : decode cX8_readCondition 36 = .ok (.iconst 0, 1) := by decide +kernel
theorem dX8_readCondition_37 : decode cX8_readCondition 37 = .ok (.invokevirtual 70, 3) := by decide +kernel
theorem dX8_readCondition_40 : decode cX8_readCondition 40 = .ok (.aload_n 0, 1) := by decide +kernel
theorem dX8_readCondition_41 : decode cX8_readCondition 41 = .ok (.getfield 12, 3) := by decide +kernel
theorem dX8_readCondition_44 : decode cX8_readCondition 44 = .ok (.bipush 11, 2) := by decide +kernel
theorem dX8_readCondition_46 : decode cX8_readCondition 46 = .ok (.iconst 0, 1) := by decide +kernel
theorem dX8_readCondition_47 : decode cX8_readCondition 47 = .ok (.invokevirtual 59, 3) := by decide +kernel
theorem dX8_readCondition_50 : decode cX8_readCondition 50 = .ok (.iinc 3 1, 3) := by decide +kernel
theorem dX8_readCondition_53 : decode cX8_readCondition 53 = .ok (.goto (-45), 3) := by decide +kernel
theorem dX8_readCondition_56 : decode cX8_readCondition 56 = .ok (.return_, 1) := by decide +kernel
theorem dX8_readTruth_0 : decode cX8_readTruth 0 = .ok (.aload_n 0, 1) := by decide +kernel
theorem dX8_readTruth_1 : decode cX8_readTruth 1 = .ok (.iload_n 1, 1) := by decide +kernel
theorem dX8_readTruth_2 : decode cX8_readTruth 2 = .ok (.iload_n 2, 1) := by decide +kernel
theorem dX8_readTruth_3 : decode cX8_readTruth 3 = .ok (.invokevirtual 73, 3) := by decide +kernel
theorem dX8_readTruth_6 : decode cX8_readTruth 6 = .ok (.iconst 0, 1) := by decide +kernel
theorem dX8_readTruth_7 : decode cX8_readTruth 7 = .ok (.istore_n 3, 1) := by decide +kernel
theorem dX8_readTruth_8 : decode cX8_readTruth 8 = .ok (.iload_n 3, 1) := by decide +kernel
theorem dX8_readTruth_9 : decode cX8_readTruth 9 = .ok (.sipush 160, 3) := by decide +kernel
theorem dX8_readTruth_12 : decode cX8_readTruth 12 = .ok (.if_icmp .ge 44, 3) := by decide +kernel
theorem dX8_readTruth_15 : decode cX8_readTruth 15 = .ok (.aload_n 0, 1) := by decide +kernel
theorem dX8_readTruth_16 : decode cX8_readTruth 16 = .ok (.getfield 18, 3) := by decide +kernel
theorem dX8_readTruth_19 : decode cX8_readTruth 19 = .ok (.invokevirtual 34, 3) := by decide +kernel
theorem dX8_readTruth_22 : decode cX8_readTruth 22 = .ok (.bipush 38, 2) := by decide +kernel
theorem dX8_readTruth_24 : decode cX8_readTruth 24 = .ok (.if_icmp .ne 32, 3) := by decide +kernel
theorem dX8_readTruth_27 : decode cX8_readTruth 27 = .ok (.aload_n 0, 1) := by decide +kernel
theorem dX8_readTruth_28 : decode cX8_readTruth 28 = .ok (.getfield 18, 3) := by decide +kernel
theorem dX8_readTruth_31 : decode cX8_readTruth 31 = .ok (.invokevirtual 38, 3) := by decide +kernel
theorem dX8_readTruth_34 : decode cX8_readTruth 34 = .ok (.aload_n 0, 1) := by decide +kernel
theorem dX8_readTruth_35 : decode cX8_readTruth 35 = .ok (.iload_n 1, 1) := by decide +kernel
theorem dX8_readTruth_36 : decode cX8_readTruth 36 = .ok (.iconst 0, 1) := by decide +kernel
theorem dX8_readTruth_37 : decode cX8_readTruth 37 = .ok (.invokevirtual 73, 3) := by decide +kernel
theorem dX8_readTruth_40 : decode cX8_readTruth 40 = .ok (.aload_n 0, 1) := by decide +kernel
theorem dX8_readTruth_41 : decode cX8_readTruth 41 = .ok (.getfield 12, 3) := by decide +kernel
theorem dX8_readTruth_44 : decode cX8_readTruth 44 = .ok (.bipush 10, 2) := by decide +kernel
theorem dX8_readTruth_46 : decode cX8_readTruth 46 = .ok (.iconst 0, 1) := by decide +kernel
theorem dX8_readTruth_47 : decode cX8_readTruth 47 = .ok (.invokevirtual 59, 3) := by decide +kernel
theorem dX8_readTruth_50 : decode cX8_readTruth 50 = .ok (.iinc 3 1, 3) := by decide +kernel
theorem dX8_readTruth_53 : decode cX8_readTruth 53 = .ok (.goto (-45), 3) := by decide +kernel
theorem dX8_readTruth_56 : decode cX8_readTruth 56 = .ok (.return_, 1) := by decide +kernel
theorem dX8_readUnit_0 : decode cX8_readUnit 0 = .ok (.aload_n 0, 1) := by decide +kernel
theorem dX8_readUnit_1 : decode cX8_readUnit 1 = .ok (.getfield 18, 3) := by decide +kernel
theorem dX8_readUnit_4 : decode cX8_readUnit 4 = .ok (.invokevirtual 34, 3) := by decide +kernel
theorem dX8_readUnit_7 : decode cX8_readUnit 7 = .ok (.istore_n 3, 1) := by decide +kernel
theorem dX8_readUnit_8 : decode cX8_readUnit 8 = .ok (.iload_n 2, 1) := by decide +kernel
theorem dX8_readUnit_9 : decode cX8_readUnit 9 = .ok (.ifCond .ne 36, 3) := by decide +kernel
theorem dX8_readUnit_12 : decode cX8_readUnit 12 = .ok (.iload_n 3, 1) := by decide +kernel
theorem dX8_readUnit_13 : decode cX8_readUnit 13 = .ok (.bipush 33, 2) := by decide +kernel
theorem dX8_readUnit_15 : decode cX8_readUnit 15 = .ok (.if_icmp .ne 30, 3) := by decide +kernel
theorem dX8_readUnit_18 : decode cX8_readUnit 18 = .ok (.aload_n 0, 1) := by decide +kernel
theorem dX8_readUnit_19 : decode cX8_readUnit 19 = .ok (.iload_n 1, 1) := by decide +kernel
theorem dX8_readUnit_20 : decode cX8_readUnit 20 = .ok (.invokevirtual 76, 3) := by decide +kernel
theorem dX8_readUnit_23 : decode cX8_readUnit 23 = .ok (.ifCond .eq 21, 3) := by decide +kernel
theorem dX8_readUnit_26 : decode cX8_readUnit 26 = .ok (.aload_n 0, 1) := by decide +kernel
theorem dX8_readUnit_27 : decode cX8_readUnit 27 = .ok (.iload_n 1, 1) := by decide +kernel
theorem dX8_readUnit_28 : decode cX8_readUnit 28 = .ok (.iconst 1, 1) := by decide +kernel
theorem dX8_readUnit_29 : decode cX8_readUnit 29 = .ok (.iadd, 1) := by decide +kernel
theorem dX8_readUnit_30 : decode cX8_readUnit 30 = .ok (.iconst 0, 1) := by decide +kernel
theorem dX8_readUnit_31 : decode cX8_readUnit 31 = .ok (.invokevirtual 73, 3) := by decide +kernel
theorem dX8_readUnit_34 : decode cX8_readUnit 34 = .ok (.aload_n 0, 1) := by decide +kernel
theorem dX8_readUnit_35 : decode cX8_readUnit 35 = .ok (.getfield 12, 3) := by decide +kernel
theorem dX8_readUnit_38 : decode cX8_readUnit 38 = .ok (.bipush 9, 2) := by decide +kernel
theorem dX8_readUnit_40 : decode cX8_readUnit 40 = .ok (.iconst 0, 1) := by decide +kernel
theorem dX8_readUnit_41 : decode cX8_readUnit 41 = .ok (.invokevirtual 59, 3) := by decide +kernel
theorem dX8_readUnit_44 : decode cX8_readUnit 44 = .ok (.return_, 1) := by decide +kernel
theorem dX8_readUnit_45 : decode cX8_readUnit 45 = .ok (.iload_n 2, 1) := by decide +kernel
theorem dX8_readUnit_46 : decode cX8_readUnit 46 = .ok (.ifCond .ne 35, 3) := by decide +kernel
theorem dX8_readUnit_49 : decode cX8_readUnit 49 = .ok (.iload_n 3, 1) := by decide +kernel
theorem dX8_readUnit_50 : decode cX8_readUnit 50 = .ok (.bipush 40, 2) := by decide +kernel
theorem dX8_readUnit_52 : decode cX8_readUnit 52 = .ok (.if_icmp .ne 29, 3) := by decide +kernel
theorem dX8_readUnit_55 : decode cX8_readUnit 55 = .ok (.aload_n 0, 1) := by decide +kernel
theorem dX8_readUnit_56 : decode cX8_readUnit 56 = .ok (.iload_n 1, 1) := by decide +kernel
theorem dX8_readUnit_57 : decode cX8_readUnit 57 = .ok (.invokevirtual 76, 3) := by decide +kernel
theorem dX8_readUnit_60 : decode cX8_readUnit 60 = .ok (.ifCond .eq 20, 3) := by decide +kernel
theorem dX8_readUnit_63 : decode cX8_readUnit 63 = .ok (.aload_n 0, 1) := by decide +kernel
theorem dX8_readUnit_64 : decode cX8_readUnit 64 = .ok (.iload_n 1, 1) := by decide +kernel
theorem dX8_readUnit_65 : decode cX8_readUnit 65 = .ok (.iconst 1, 1) := by decide +kernel
theorem dX8_readUnit_66 : decode cX8_readUnit 66 = .ok (.iadd, 1) := by decide +kernel
theorem dX8_readUnit_67 : decode cX8_readUnit 67 = .ok (.iconst 0, 1) := by decide +kernel
theorem dX8_readUnit_68 : decode cX8_readUnit 68 = .ok (.invokevirtual 63, 3) := by decide +kernel
theorem dX8_readUnit_71 : decode cX8_readUnit 71 = .ok (.aload_n 0, 1) := by decide +kernel
theorem dX8_readUnit_72 : decode cX8_readUnit 72 = .ok (.getfield 18, 3) := by decide +kernel
theorem dX8_readUnit_75 : decode cX8_readUnit 75 = .ok (.bipush 41, 2) := by decide +kernel
theorem dX8_readUnit_77 : decode cX8_readUnit 77 = .ok (.invokevirtual 47, 3) := by decide +kernel
theorem dX8_readUnit_80 : decode cX8_readUnit 80 = .ok (.return_, 1) := by decide +kernel
theorem dX8_readUnit_81 : decode cX8_readUnit 81 = .ok (.iload_n 2, 1) := by decide +kernel
theorem dX8_readUnit_82 : decode cX8_readUnit 82 = .ok (.ifCond .ne 8, 3) := by decide +kernel
theorem dX8_readUnit_85 : decode cX8_readUnit 85 = .ok (.aload_n 0, 1) := by decide +kernel
theorem dX8_readUnit_86 : decode cX8_readUnit 86 = .ok (.iload_n 1, 1) := by decide +kernel
theorem dX8_readUnit_87 : decode cX8_readUnit 87 = .ok (.invokevirtual 51, 3) := by decide +kernel
theorem dX8_readUnit_90 : decode cX8_readUnit 90 = .ok (.aload_n 0, 1) := by decide +kernel
theorem dX8_readUnit_91 : decode cX8_readUnit 91 = .ok (.getfield 18, 3) := by decide +kernel
theorem dX8_readUnit_94 : decode cX8_readUnit 94 = .ok (.invokevirtual 34, 3) := by decide +kernel
theorem dX8_readUnit_97 : decode cX8_readUnit 97 = .ok (.invokestatic 55, 3) := by decide +kernel
theorem dX8_readUnit_100 : decode cX8_readUnit 100 = .ok (.istore 4, 2) := by decide +kernel
theorem dX8_readUnit_102 : decode cX8_readUnit 102 = .ok (.iload 4, 2) := by decide +kernel
theorem dX8_readUnit_104 : decode cX8_readUnit 104 = .ok (.iconst (-1), 1) := by decide +kernel
theorem dX8_readUnit_105 : decode cX8_readUnit 105 = .ok (.if_icmp .ne 11, 3) := by decide +kernel
theorem dX8_readUnit_108 : decode cX8_readUnit 108 = .ok (.aload_n 0, 1) := by decide +kernel
theorem dX8_readUnit_109 : decode cX8_readUnit 109 = .ok (.getfield 18, 3) := by decide +kernel
theorem dX8_readUnit_112 : decode cX8_readUnit 112 = .ok (.invokevirtual 41, 3) := by decide +kernel
theorem dX8_readUnit_115 : decode cX8_readUnit 115 = .ok (.return_, 1) := by decide +kernel
theorem dX8_readUnit_116 : decode cX8_readUnit 116 = .ok (.aload_n 0, 1) := by decide +kernel
theorem dX8_readUnit_117 : decode cX8_readUnit 117 = .ok (.getfield 18, 3) := by decide +kernel
theorem dX8_readUnit_120 : decode cX8_readUnit 120 = .ok (.invokevirtual 38, 3) := by decide +kernel
theorem dX8_readUnit_123 : decode cX8_readUnit 123 = .ok (.aload_n 0, 1) := by decide +kernel
theorem dX8_readUnit_124 : decode cX8_readUnit 124 = .ok (.iload_n 1, 1) := by decide +kernel
theorem dX8_readUnit_125 : decode cX8_readUnit 125 = .ok (.invokevirtual 51, 3) := by decide +kernel
theorem dX8_readUnit_128 : decode cX8_readUnit 128 = .ok (.aload_n 0, 1) := by decide +kernel
theorem dX8_readUnit_129 : decode cX8_readUnit 129 = .ok (.getfield 12, 3) := by decide +kernel
theorem dX8_readUnit_132 : decode cX8_readUnit 132 = .ok (.iload 4, 2) := by decide +kernel
theorem dX8_readUnit_134 : decode cX8_readUnit 134 = .ok (.iconst 0, 1) := by decide +kernel
theorem dX8_readUnit_135 : decode cX8_readUnit 135 = .ok (.invokevirtual 59, 3) := by decide +kernel
theorem dX8_readUnit_138 : decode cX8_readUnit 138 = .ok (.return_, 1) := by decide +kernel
theorem dX8_readSum_0 : decode cX8_readSum 0 = .ok (.aload_n 0, 1) := by decide +kernel
theorem dX8_readSum_1 : decode cX8_readSum 1 = .ok (.iload_n 1, 1) := by decide +kernel
theorem dX8_readSum_2 : decode cX8_readSum 2 = .ok (.invokevirtual 80, 3) := by decide +kernel
theorem dX8_readSum_5 : decode cX8_readSum 5 = .ok (.iconst 0, 1) := by decide +kernel
theorem dX8_readSum_6 : decode cX8_readSum 6 = .ok (.istore_n 2, 1) := by decide +kernel
theorem dX8_readSum_7 : decode cX8_readSum 7 = .ok (.iload_n 2, 1) := by decide +kernel
theorem dX8_readSum_8 : decode cX8_readSum 8 = .ok (.sipush 160, 3) := by decide +kernel
theorem dX8_readSum_11 : decode cX8_readSum 11 = .ok (.if_icmp .ge 61, 3) := by decide +kernel
theorem dX8_readSum_14 : decode cX8_readSum 14 = .ok (.aload_n 0, 1) := by decide +kernel
theorem dX8_readSum_15 : decode cX8_readSum 15 = .ok (.getfield 18, 3) := by decide +kernel
theorem dX8_readSum_18 : decode cX8_readSum 18 = .ok (.invokevirtual 34, 3) := by decide +kernel
theorem dX8_readSum_21 : decode cX8_readSum 21 = .ok (.istore_n 3, 1) := by decide +kernel
theorem dX8_readSum_22 : decode cX8_readSum 22 = .ok (.iload_n 3, 1) := by decide +kernel
theorem dX8_readSum_23 : decode cX8_readSum 23 = .ok (.bipush 43, 2) := by decide +kernel
theorem dX8_readSum_25 : decode cX8_readSum 25 = .ok (.if_icmp .eq 10, 3) := by decide +kernel
theorem dX8_readSum_28 : decode cX8_readSum 28 = .ok (.iload_n 3, 1) := by decide +kernel
theorem dX8_readSum_29 : decode cX8_readSum 29 = .ok (.bipush 45, 2) := by decide +kernel
theorem dX8_readSum_31 : decode cX8_readSum 31 = .ok (.if_icmp .eq 4, 3) := by decide +kernel
theorem dX8_readSum_34 : decode cX8_readSum 34 = .ok (.return_, 1) := by decide +kernel
theorem dX8_readSum_35 : decode cX8_readSum 35 = .ok (.aload_n 0, 1) := by decide +kernel
theorem dX8_readSum_36 : decode cX8_readSum 36 = .ok (.getfield 18, 3) := by decide +kernel
theorem dX8_readSum_39 : decode cX8_readSum 39 = .ok (.invokevirtual 38, 3) := by decide +kernel
theorem dX8_readSum_42 : decode cX8_readSum 42 = .ok (.aload_n 0, 1) := by decide +kernel
theorem dX8_readSum_43 : decode cX8_readSum 43 = .ok (.iload_n 1, 1) := by decide +kernel
theorem dX8_readSum_44 : decode cX8_readSum 44 = .ok (.invokevirtual 80, 3) := by decide +kernel
theorem dX8_readSum_47 : decode cX8_readSum 47 = .ok (.aload_n 0, 1) := by decide +kernel
theorem dX8_readSum_48 : decode cX8_readSum 48 = .ok (.getfield 12, 3) := by decide +kernel
theorem dX8_readSum_51 : decode cX8_readSum 51 = .ok (.iload_n 3, 1) := by decide +kernel
theorem dX8_readSum_52 : decode cX8_readSum 52 = .ok (.bipush 43, 2) := by decide +kernel
theorem dX8_readSum_54 : decode cX8_readSum 54 = .ok (.if_icmp .ne 7, 3) := by decide +kernel
theorem dX8_readSum_57 : decode cX8_readSum 57 = .ok (.iconst 2, 1) := by decide +kernel
theorem dX8_readSum_58 : decode cX8_readSum 58 = .ok (.goto 4, 3) := by decide +kernel
theorem dX8_readSum_61 : decode cX8_readSum 61 = .ok (.iconst 3, 1) := by decide +kernel
theorem dX8_readSum_62 : decode cX8_readSum 62 = .ok (.iconst 0, 1) := by decide +kernel
theorem dX8_readSum_63 : decode cX8_readSum 63 = .ok (.invokevirtual 59, 3) := by decide +kernel
theorem dX8_readSum_66 : decode cX8_readSum 66 = .ok (.iinc 2 1, 3) := by decide +kernel
theorem dX8_readSum_69 : decode cX8_readSum 69 = .ok (.goto (-62), 3) := by decide +kernel
theorem dX8_readSum_72 : decode cX8_readSum 72 = .ok (.return_, 1) := by decide +kernel
theorem dX8_readTerm_0 : decode cX8_readTerm 0 = .ok (.aload_n 0, 1) := by decide +kernel
theorem dX8_readTerm_1 : decode cX8_readTerm 1 = .ok (.iload_n 1, 1) := by decide +kernel
theorem dX8_readTerm_2 : decode cX8_readTerm 2 = .ok (.invokevirtual 83, 3) := by decide +kernel
theorem dX8_readTerm_5 : decode cX8_readTerm 5 = .ok (.iconst 0, 1) := by decide +kernel
theorem dX8_readTerm_6 : decode cX8_readTerm 6 = .ok (.istore_n 2, 1) := by decide +kernel
theorem dX8_readTerm_7 : decode cX8_readTerm 7 = .ok (.iload_n 2, 1) := by decide +kernel
theorem dX8_readTerm_8 : decode cX8_readTerm 8 = .ok (.sipush 160, 3) := by decide +kernel
theorem dX8_readTerm_11 : decode cX8_readTerm 11 = .ok (.if_icmp .ge 61, 3) := by decide +kernel
theorem dX8_readTerm_14 : decode cX8_readTerm 14 = .ok (.aload_n 0, 1) := by decide +kernel
theorem dX8_readTerm_15 : decode cX8_readTerm 15 = .ok (.getfield 18, 3) := by decide +kernel
theorem dX8_readTerm_18 : decode cX8_readTerm 18 = .ok (.invokevirtual 34, 3) := by decide +kernel
theorem dX8_readTerm_21 : decode cX8_readTerm 21 = .ok (.istore_n 3, 1) := by decide +kernel
theorem dX8_readTerm_22 : decode cX8_readTerm 22 = .ok (.iload_n 3, 1) := by decide +kernel
theorem dX8_readTerm_23 : decode cX8_readTerm 23 = .ok (.bipush 42, 2) := by decide +kernel
theorem dX8_readTerm_25 : decode cX8_readTerm 25 = .ok (.if_icmp .eq 10, 3) := by decide +kernel
theorem dX8_readTerm_28 : decode cX8_readTerm 28 = .ok (.iload_n 3, 1) := by decide +kernel
theorem dX8_readTerm_29 : decode cX8_readTerm 29 = .ok (.bipush 47, 2) := by decide +kernel
theorem dX8_readTerm_31 : decode cX8_readTerm 31 = .ok (.if_icmp .eq 4, 3) := by decide +kernel
theorem dX8_readTerm_34 : decode cX8_readTerm 34 = .ok (.return_, 1) := by decide +kernel
theorem dX8_readTerm_35 : decode cX8_readTerm 35 = .ok (.aload_n 0, 1) := by decide +kernel
theorem dX8_readTerm_36 : decode cX8_readTerm 36 = .ok (.getfield 18, 3) := by decide +kernel
theorem dX8_readTerm_39 : decode cX8_readTerm 39 = .ok (.invokevirtual 38, 3) := by decide +kernel
theorem dX8_readTerm_42 : decode cX8_readTerm 42 = .ok (.aload_n 0, 1) := by decide +kernel
theorem dX8_readTerm_43 : decode cX8_readTerm 43 = .ok (.iload_n 1, 1) := by decide +kernel
theorem dX8_readTerm_44 : decode cX8_readTerm 44 = .ok (.invokevirtual 83, 3) := by decide +kernel
theorem dX8_readTerm_47 : decode cX8_readTerm 47 = .ok (.aload_n 0, 1) := by decide +kernel
theorem dX8_readTerm_48 : decode cX8_readTerm 48 = .ok (.getfield 12, 3) := by decide +kernel
theorem dX8_readTerm_51 : decode cX8_readTerm 51 = .ok (.iload_n 3, 1) := by decide +kernel
theorem dX8_readTerm_52 : decode cX8_readTerm 52 = .ok (.bipush 42, 2) := by decide +kernel
theorem dX8_readTerm_54 : decode cX8_readTerm 54 = .ok (.if_icmp .ne 7, 3) := by decide +kernel
theorem dX8_readTerm_57 : decode cX8_readTerm 57 = .ok (.iconst 4, 1) := by decide +kernel
theorem dX8_readTerm_58 : decode cX8_readTerm 58 = .ok (.goto 4, 3) := by decide +kernel
theorem dX8_readTerm_61 : decode cX8_readTerm 61 = .ok (.iconst 5, 1) := by decide +kernel
theorem dX8_readTerm_62 : decode cX8_readTerm 62 = .ok (.iconst 0, 1) := by decide +kernel
theorem dX8_readTerm_63 : decode cX8_readTerm 63 = .ok (.invokevirtual 59, 3) := by decide +kernel
theorem dX8_readTerm_66 : decode cX8_readTerm 66 = .ok (.iinc 2 1, 3) := by decide +kernel
theorem dX8_readTerm_69 : decode cX8_readTerm 69 = .ok (.goto (-62), 3) := by decide +kernel
theorem dX8_readTerm_72 : decode cX8_readTerm 72 = .ok (.return_, 1) := by decide +kernel
theorem dX8_readAtom_0 : decode cX8_readAtom 0 = .ok (.aload_n 0, 1) := by decide +kernel
theorem dX8_readAtom_1 : decode cX8_readAtom 1 = .ok (.getfield 18, 3) := by decide +kernel
theorem dX8_readAtom_4 : decode cX8_readAtom 4 = .ok (.invokevirtual 34, 3) := by decide +kernel
theorem dX8_readAtom_7 : decode cX8_readAtom 7 = .ok (.istore_n 2, 1) := by decide +kernel
theorem dX8_readAtom_8 : decode cX8_readAtom 8 = .ok (.iload_n 2, 1) := by decide +kernel
theorem dX8_readAtom_9 : decode cX8_readAtom 9 = .ok (.bipush 91, 2) := by decide +kernel
theorem dX8_readAtom_11 : decode cX8_readAtom 11 = .ok (.if_icmp .ne 28, 3) := by decide +kernel
theorem dX8_readAtom_14 : decode cX8_readAtom 14 = .ok (.aload_n 0, 1) := by decide +kernel
theorem dX8_readAtom_15 : decode cX8_readAtom 15 = .ok (.iload_n 1, 1) := by decide +kernel
theorem dX8_readAtom_16 : decode cX8_readAtom 16 = .ok (.invokevirtual 76, 3) := by decide +kernel
theorem dX8_readAtom_19 : decode cX8_readAtom 19 = .ok (.ifCond .eq 19, 3) := by decide +kernel
theorem dX8_readAtom_22 : decode cX8_readAtom 22 = .ok (.aload_n 0, 1) := by decide +kernel
theorem dX8_readAtom_23 : decode cX8_readAtom 23 = .ok (.iload_n 1, 1) := by decide +kernel
theorem dX8_readAtom_24 : decode cX8_readAtom 24 = .ok (.iconst 1, 1) := by decide +kernel
theorem dX8_readAtom_25 : decode cX8_readAtom 25 = .ok (.iadd, 1) := by decide +kernel
theorem dX8_readAtom_26 : decode cX8_readAtom 26 = .ok (.invokevirtual 51, 3) := by decide +kernel
theorem dX8_readAtom_29 : decode cX8_readAtom 29 = .ok (.aload_n 0, 1) := by decide +kernel
theorem dX8_readAtom_30 : decode cX8_readAtom 30 = .ok (.getfield 18, 3) := by decide +kernel
theorem dX8_readAtom_33 : decode cX8_readAtom 33 = .ok (.bipush 93, 2) := by decide +kernel
theorem dX8_readAtom_35 : decode cX8_readAtom 35 = .ok (.invokevirtual 47, 3) := by decide +kernel
theorem dX8_readAtom_38 : decode cX8_readAtom 38 = .ok (.return_, 1) := by decide +kernel
theorem dX8_readAtom_39 : decode cX8_readAtom 39 = .ok (.iconst 0, 1) := by decide +kernel
theorem dX8_readAtom_40 : decode cX8_readAtom 40 = .ok (.istore_n 3, 1) := by decide +kernel
theorem dX8_readAtom_41 : decode cX8_readAtom 41 = .ok (.iload_n 3, 1) := by decide +kernel
theorem dX8_readAtom_42 : decode cX8_readAtom 42 = .ok (.ldc 86, 2) := by decide +kernel
theorem dX8_readAtom_44 : decode cX8_readAtom 44 = .ok (.invokevirtual 88, 3) := by decide +kernel
theorem dX8_readAtom_47 : decode cX8_readAtom 47 = .ok (.if_icmp .ge 36, 3) := by decide +kernel
theorem dX8_readAtom_50 : decode cX8_readAtom 50 = .ok (.ldc 86, 2) := by decide +kernel
theorem dX8_readAtom_52 : decode cX8_readAtom 52 = .ok (.iload_n 3, 1) := by decide +kernel
theorem dX8_readAtom_53 : decode cX8_readAtom 53 = .ok (.invokevirtual 93, 3) := by decide +kernel
theorem dX8_readAtom_56 : decode cX8_readAtom 56 = .ok (.iload_n 2, 1) := by decide +kernel
theorem dX8_readAtom_57 : decode cX8_readAtom 57 = .ok (.if_icmp .ne 20, 3) := by decide +kernel
theorem dX8_readAtom_60 : decode cX8_readAtom 60 = .ok (.aload_n 0, 1) := by decide +kernel
theorem dX8_readAtom_61 : decode cX8_readAtom 61 = .ok (.getfield 18, 3) := by decide +kernel
theorem dX8_readAtom_64 : decode cX8_readAtom 64 = .ok (.invokevirtual 38, 3) := by decide +kernel
theorem dX8_readAtom_67 : decode cX8_readAtom 67 = .ok (.aload_n 0, 1) := by decide +kernel
theorem dX8_readAtom_68 : decode cX8_readAtom 68 = .ok (.getfield 12, 3) := by decide +kernel
theorem dX8_readAtom_71 : decode cX8_readAtom 71 = .ok (.iconst 1, 1) := by decide +kernel
theorem dX8_readAtom_72 : decode cX8_readAtom 72 = .ok (.iload_n 3, 1) := by decide +kernel
theorem dX8_readAtom_73 : decode cX8_readAtom 73 = .ok (.invokevirtual 59, 3) := by decide +kernel
theorem dX8_readAtom_76 : decode cX8_readAtom 76 = .ok (.return_, 1) := by decide +kernel
theorem dX8_readAtom_77 : decode cX8_readAtom 77 = .ok (.iinc 3 1, 3) := by decide +kernel
theorem dX8_readAtom_80 : decode cX8_readAtom 80 = .ok (.goto (-39), 3) := by decide +kernel
theorem dX8_readAtom_83 : decode cX8_readAtom 83 = .ok (.aload_n 0, 1) := by decide +kernel
theorem dX8_readAtom_84 : decode cX8_readAtom 84 = .ok (.getfield 12, 3) := by decide +kernel
theorem dX8_readAtom_87 : decode cX8_readAtom 87 = .ok (.iconst 0, 1) := by decide +kernel
theorem dX8_readAtom_88 : decode cX8_readAtom 88 = .ok (.aload_n 0, 1) := by decide +kernel
theorem dX8_readAtom_89 : decode cX8_readAtom 89 = .ok (.getfield 18, 3) := by decide +kernel
theorem dX8_readAtom_92 : decode cX8_readAtom 92 = .ok (.iconst 4, 1) := by decide +kernel
theorem dX8_readAtom_93 : decode cX8_readAtom 93 = .ok (.invokevirtual 97, 3) := by decide +kernel
theorem dX8_readAtom_96 : decode cX8_readAtom 96 = .ok (.invokevirtual 59, 3) := by decide +kernel
theorem dX8_readAtom_99 : decode cX8_readAtom 99 = .ok (.return_, 1) := by decide +kernel
theorem dX8_goDeeper_0 : decode cX8_goDeeper 0 = .ok (.iload_n 1, 1) := by decide +kernel
theorem dX8_goDeeper_1 : decode cX8_goDeeper 1 = .ok (.bipush 6, 2) := by decide +kernel
theorem dX8_goDeeper_3 : decode cX8_goDeeper 3 = .ok (.if_icmp .lt 12, 3) := by decide +kernel
theorem dX8_goDeeper_6 : decode cX8_goDeeper 6 = .ok (.aload_n 0, 1) := by decide +kernel
theorem dX8_goDeeper_7 : decode cX8_goDeeper 7 = .ok (.getfield 18, 3) := by decide +kernel
theorem dX8_goDeeper_10 : decode cX8_goDeeper 10 = .ok (.invokevirtual 41, 3) := by decide +kernel
theorem dX8_goDeeper_13 : decode cX8_goDeeper 13 = .ok (.iconst 0, 1) := by decide +kernel
theorem dX8_goDeeper_14 : decode cX8_goDeeper 14 = .ok (.ireturn, 1) := by decide +kernel
theorem dX8_goDeeper_15 : decode cX8_goDeeper 15 = .ok (.aload_n 0, 1) := by decide +kernel
theorem dX8_goDeeper_16 : decode cX8_goDeeper 16 = .ok (.getfield 18, 3) := by decide +kernel
theorem dX8_goDeeper_19 : decode cX8_goDeeper 19 = .ok (.invokevirtual 38, 3) := by decide +kernel
theorem dX8_goDeeper_22 : decode cX8_goDeeper 22 = .ok (.iconst 1, 1) := by decide +kernel
theorem dX8_goDeeper_23 : decode cX8_goDeeper 23 = .ok (.ireturn, 1) := by decide +kernel
theorem dX8_comparison_0 : decode cX8_comparison 0 = .ok (.iload_n 0, 1) := by decide +kernel
theorem dX8_comparison_1 : decode cX8_comparison 1 = .ok (.tableswitch 36 60 62 #[30, 27, 33], 27) := by decide +kernel
theorem dX8_comparison_28 : decode cX8_comparison 28 = .ok (.bipush 6, 2) := by decide +kernel
theorem dX8_comparison_30 : decode cX8_comparison 30 = .ok (.ireturn, 1) := by decide +kernel
theorem dX8_comparison_31 : decode cX8_comparison 31 = .ok (.bipush 7, 2) := by decide +kernel
theorem dX8_comparison_33 : decode cX8_comparison 33 = .ok (.ireturn, 1) := by decide +kernel
theorem dX8_comparison_34 : decode cX8_comparison 34 = .ok (.bipush 8, 2) := by decide +kernel
theorem dX8_comparison_36 : decode cX8_comparison 36 = .ok (.ireturn, 1) := by decide +kernel
theorem dX8_comparison_37 : decode cX8_comparison 37 = .ok (.iconst (-1), 1) := by decide +kernel
theorem dX8_comparison_38 : decode cX8_comparison 38 = .ok (.ireturn, 1) := by decide +kernel
theorem dX9_init_0 : decode cX9_init 0 = .ok (.aload_n 0, 1) := by decide +kernel
theorem dX9_init_1 : decode cX9_init 1 = .ok (.invokespecial 3, 3) := by decide +kernel
theorem dX9_init_4 : decode cX9_init 4 = .ok (.aload_n 0, 1) := by decide +kernel
theorem dX9_init_5 : decode cX9_init 5 = .ok (.bipush 20, 2) := by decide +kernel
theorem dX9_init_7 : decode cX9_init 7 = .ok (.newarray .int, 2) := by decide +kernel
theorem dX9_init_9 : decode cX9_init 9 = .ok (.putfield 9, 3) := by decide +kernel
theorem dX9_init_12 : decode cX9_init 12 = .ok (.aload_n 0, 1) := by decide +kernel
theorem dX9_init_13 : decode cX9_init 13 = .ok (.bipush 20, 2) := by decide +kernel
theorem dX9_init_15 : decode cX9_init 15 = .ok (.newarray .int, 2) := by decide +kernel
theorem dX9_init_17 : decode cX9_init 17 = .ok (.putfield 15, 3) := by decide +kernel
theorem dX9_init_20 : decode cX9_init 20 = .ok (.iconst 0, 1) := by decide +kernel
theorem dX9_init_21 : decode cX9_init 21 = .ok (.istore_n 1, 1) := by decide +kernel
theorem dX9_init_22 : decode cX9_init 22 = .ok (.iload_n 1, 1) := by decide +kernel
theorem dX9_init_23 : decode cX9_init 23 = .ok (.bipush 20, 2) := by decide +kernel
theorem dX9_init_25 : decode cX9_init 25 = .ok (.if_icmp .ge 23, 3) := by decide +kernel
theorem dX9_init_28 : decode cX9_init 28 = .ok (.aload_n 0, 1) := by decide +kernel
theorem dX9_init_29 : decode cX9_init 29 = .ok (.getfield 9, 3) := by decide +kernel
theorem dX9_init_32 : decode cX9_init 32 = .ok (.iload_n 1, 1) := by decide +kernel
theorem dX9_init_33 : decode cX9_init 33 = .ok (.iconst (-1), 1) := by decide +kernel
theorem dX9_init_34 : decode cX9_init 34 = .ok (.iastore, 1) := by decide +kernel
theorem dX9_init_35 : decode cX9_init 35 = .ok (.aload_n 0, 1) := by decide +kernel
theorem dX9_init_36 : decode cX9_init 36 = .ok (.getfield 15, 3) := by decide +kernel
theorem dX9_init_39 : decode cX9_init 39 = .ok (.iload_n 1, 1) := by decide +kernel
theorem dX9_init_40 : decode cX9_init 40 = .ok (.iconst (-1), 1) := by decide +kernel
theorem dX9_init_41 : decode cX9_init 41 = .ok (.iastore, 1) := by decide +kernel
theorem dX9_init_42 : decode cX9_init 42 = .ok (.iinc 1 1, 3) := by decide +kernel
theorem dX9_init_45 : decode cX9_init 45 = .ok (.goto (-23), 3) := by decide +kernel
theorem dX9_init_48 : decode cX9_init 48 = .ok (.return_, 1) := by decide +kernel
theorem dX9_copy_0 : decode cX9_copy 0 = .ok (.aload_n 1, 1) := by decide +kernel
theorem dX9_copy_1 : decode cX9_copy 1 = .ok (.getfield 9, 3) := by decide +kernel
theorem dX9_copy_4 : decode cX9_copy 4 = .ok (.iconst 0, 1) := by decide +kernel
theorem dX9_copy_5 : decode cX9_copy 5 = .ok (.aload_n 0, 1) := by decide +kernel
theorem dX9_copy_6 : decode cX9_copy 6 = .ok (.getfield 9, 3) := by decide +kernel
theorem dX9_copy_9 : decode cX9_copy 9 = .ok (.iconst 0, 1) := by decide +kernel
theorem dX9_copy_10 : decode cX9_copy 10 = .ok (.bipush 20, 2) := by decide +kernel
theorem dX9_copy_12 : decode cX9_copy 12 = .ok (.invokestatic 18, 3) := by decide +kernel
theorem dX9_copy_15 : decode cX9_copy 15 = .ok (.aload_n 1, 1) := by decide +kernel
theorem dX9_copy_16 : decode cX9_copy 16 = .ok (.getfield 15, 3) := by decide +kernel
theorem dX9_copy_19 : decode cX9_copy 19 = .ok (.iconst 0, 1) := by decide +kernel
theorem dX9_copy_20 : decode cX9_copy 20 = .ok (.aload_n 0, 1) := by decide +kernel
theorem dX9_copy_21 : decode cX9_copy 21 = .ok (.getfield 15, 3) := by decide +kernel
theorem dX9_copy_24 : decode cX9_copy 24 = .ok (.iconst 0, 1) := by decide +kernel
theorem dX9_copy_25 : decode cX9_copy 25 = .ok (.bipush 20, 2) := by decide +kernel
theorem dX9_copy_27 : decode cX9_copy 27 = .ok (.invokestatic 18, 3) := by decide +kernel
theorem dX9_copy_30 : decode cX9_copy 30 = .ok (.aload_n 0, 1) := by decide +kernel
theorem dX9_copy_31 : decode cX9_copy 31 = .ok (.aload_n 1, 1) := by decide +kernel
theorem dX9_copy_32 : decode cX9_copy 32 = .ok (.getfield 24, 3) := by decide +kernel
theorem dX9_copy_35 : decode cX9_copy 35 = .ok (.putfield 24, 3) := by decide +kernel
theorem dX9_copy_38 : decode cX9_copy 38 = .ok (.aload_n 0, 1) := by decide +kernel
theorem dX9_copy_39 : decode cX9_copy 39 = .ok (.aload_n 1, 1) := by decide +kernel
theorem dX9_copy_40 : decode cX9_copy 40 = .ok (.getfield 28, 3) := by decide +kernel
theorem dX9_copy_43 : decode cX9_copy 43 = .ok (.putfield 28, 3) := by decide +kernel
theorem dX9_copy_46 : decode cX9_copy 46 = .ok (.aload_n 0, 1) := by decide +kernel
theorem dX9_copy_47 : decode cX9_copy 47 = .ok (.aload_n 1, 1) := by decide +kernel
theorem dX9_copy_48 : decode cX9_copy 48 = .ok (.getfield 31, 3) := by decide +kernel
theorem dX9_copy_51 : decode cX9_copy 51 = .ok (.putfield 31, 3) := by decide +kernel
theorem dX9_copy_54 : decode cX9_copy 54 = .ok (.aload_n 0, 1) := by decide +kernel
theorem dX9_copy_55 : decode cX9_copy 55 = .ok (.aload_n 1, 1) := by decide +kernel
theorem dX9_copy_56 : decode cX9_copy 56 = .ok (.getfield 34, 3) := by decide +kernel
theorem dX9_copy_59 : decode cX9_copy 59 = .ok (.putfield 34, 3) := by decide +kernel
theorem dX9_copy_62 : decode cX9_copy 62 = .ok (.return_, 1) := by decide +kernel
theorem dX9_placeAt_0 : decode cX9_placeAt 0 = .ok (.iload_n 1, 1) := by decide +kernel
theorem dX9_placeAt_1 : decode cX9_placeAt 1 = .ok (.ifCond .lt 18, 3) := by decide +kernel
theorem dX9_placeAt_4 : decode cX9_placeAt 4 = .ok (.iload_n 1, 1) := by decide +kernel
theorem dX9_placeAt_5 : decode cX9_placeAt 5 = .ok (.bipush 20, 2) := by decide +kernel
theorem dX9_placeAt_7 : decode cX9_placeAt 7 = .ok (.if_icmp .ge 12, 3) := by decide +kernel
theorem dX9_placeAt_10 : decode cX9_placeAt 10 = .ok (.aload_n 0, 1) := by decide +kernel
theorem dX9_placeAt_11 : decode cX9_placeAt 11 = .ok (.getfield 9, 3) := by decide +kernel
theorem dX9_placeAt_14 : decode cX9_placeAt 14 = .ok (.iload_n 1, 1) := by decide +kernel
theorem dX9_placeAt_15 : decode cX9_placeAt 15 = .ok (.iaload, 1) := by decide +kernel
theorem dX9_placeAt_16 : decode cX9_placeAt 16 = .ok (.goto 4, 3) := by decide +kernel
theorem dX9_placeAt_19 : decode cX9_placeAt 19 = .ok (.iconst (-1), 1) := by decide +kernel
theorem dX9_placeAt_20 : decode cX9_placeAt 20 = .ok (.ireturn, 1) := by decide +kernel
theorem dX9_sortAt_0 : decode cX9_sortAt 0 = .ok (.iload_n 1, 1) := by decide +kernel
theorem dX9_sortAt_1 : decode cX9_sortAt 1 = .ok (.ifCond .lt 18, 3) := by decide +kernel
theorem dX9_sortAt_4 : decode cX9_sortAt 4 = .ok (.iload_n 1, 1) := by decide +kernel
theorem dX9_sortAt_5 : decode cX9_sortAt 5 = .ok (.bipush 20, 2) := by decide +kernel
theorem dX9_sortAt_7 : decode cX9_sortAt 7 = .ok (.if_icmp .ge 12, 3) := by decide +kernel
theorem dX9_sortAt_10 : decode cX9_sortAt 10 = .ok (.aload_n 0, 1) := by decide +kernel
theorem dX9_sortAt_11 : decode cX9_sortAt 11 = .ok (.getfield 15, 3) := by decide +kernel
theorem dX9_sortAt_14 : decode cX9_sortAt 14 = .ok (.iload_n 1, 1) := by decide +kernel
theorem dX9_sortAt_15 : decode cX9_sortAt 15 = .ok (.iaload, 1) := by decide +kernel
theorem dX9_sortAt_16 : decode cX9_sortAt 16 = .ok (.goto 4, 3) := by decide +kernel
theorem dX9_sortAt_19 : decode cX9_sortAt 19 = .ok (.iconst (-1), 1) := by decide +kernel
theorem dX9_sortAt_20 : decode cX9_sortAt 20 = .ok (.ireturn, 1) := by decide +kernel
theorem dX9_enter_0 : decode cX9_enter 0 = .ok (.iload_n 1, 1) := by decide +kernel
theorem dX9_enter_1 : decode cX9_enter 1 = .ok (.ifCond .lt 11, 3) := by decide +kernel
theorem dX9_enter_4 : decode cX9_enter 4 = .ok (.iload_n 1, 1) := by decide +kernel
theorem dX9_enter_5 : decode cX9_enter 5 = .ok (.bipush 20, 2) := by decide +kernel
theorem dX9_enter_7 : decode cX9_enter 7 = .ok (.iload_n 2, 1) := by decide +kernel
theorem dX9_enter_8 : decode cX9_enter 8 = .ok (.isub, 1) := by decide +kernel
theorem dX9_enter_9 : decode cX9_enter 9 = .ok (.if_icmp .le 4, 3) := by decide +kernel
theorem dX9_enter_12 : decode cX9_enter 12 = .ok (.return_, 1) := by decide +kernel
theorem dX9_enter_13 : decode cX9_enter 13 = .ok (.iload_n 1, 1) := by decide +kernel
theorem dX9_enter_14 : decode cX9_enter 14 = .ok (.istore 4, 2) := by decide +kernel
theorem dX9_enter_16 : decode cX9_enter 16 = .ok (.iload 4, 2) := by decide +kernel
theorem dX9_enter_18 : decode cX9_enter 18 = .ok (.iload_n 1, 1) := by decide +kernel
theorem dX9_enter_19 : decode cX9_enter 19 = .ok (.iload_n 2, 1) := by decide +kernel
theorem dX9_enter_20 : decode cX9_enter 20 = .ok (.iadd, 1) := by decide +kernel
theorem dX9_enter_21 : decode cX9_enter 21 = .ok (.if_icmp .ge 25, 3) := by decide +kernel
theorem dX9_enter_24 : decode cX9_enter 24 = .ok (.aload_n 0, 1) := by decide +kernel
theorem dX9_enter_25 : decode cX9_enter 25 = .ok (.getfield 9, 3) := by decide +kernel
theorem dX9_enter_28 : decode cX9_enter 28 = .ok (.iload 4, 2) := by decide +kernel
theorem dX9_enter_30 : decode cX9_enter 30 = .ok (.iload_n 1, 1) := by decide +kernel
theorem dX9_enter_31 : decode cX9_enter 31 = .ok (.iastore, 1) := by decide +kernel
theorem dX9_enter_32 : decode cX9_enter 32 = .ok (.aload_n 0, 1) := by decide +kernel
theorem dX9_enter_33 : decode cX9_enter 33 = .ok (.getfield 15, 3) := by decide +kernel
theorem dX9_enter_36 : decode cX9_enter 36 = .ok (.iload 4, 2) := by decide +kernel
theorem dX9_enter_38 : decode cX9_enter 38 = .ok (.iload_n 3, 1) := by decide +kernel
theorem dX9_enter_39 : decode cX9_enter 39 = .ok (.iastore, 1) := by decide +kernel
theorem dX9_enter_40 : decode cX9_enter 40 = .ok (.iinc 4 1, 3) := by decide +kernel
theorem dX9_enter_43 : decode cX9_enter 43 = .ok (.goto (-27), 3) := by decide +kernel
theorem dX9_enter_46 : decode cX9_enter 46 = .ok (.aload_n 0, 1) := by decide +kernel
theorem dX9_enter_47 : decode cX9_enter 47 = .ok (.dup, 1) := by decide +kernel
theorem dX9_enter_48 : decode cX9_enter 48 = .ok (.getfield 24, 3) := by decide +kernel
theorem dX9_enter_51 : decode cX9_enter 51 = .ok (.iconst 1, 1) := by decide +kernel
theorem dX9_enter_52 : decode cX9_enter 52 = .ok (.iadd, 1) := by decide +kernel
theorem dX9_enter_53 : decode cX9_enter 53 = .ok (.putfield 24, 3) := by decide +kernel
theorem dX9_enter_56 : decode cX9_enter 56 = .ok (.return_, 1) := by decide +kernel
theorem dX9_exit_0 : decode cX9_exit 0 = .ok (.aload_n 0, 1) := by decide +kernel
theorem dX9_exit_1 : decode cX9_exit 1 = .ok (.iload_n 1, 1) := by decide +kernel
theorem dX9_exit_2 : decode cX9_exit 2 = .ok (.invokevirtual 37, 3) := by decide +kernel
theorem dX9_exit_5 : decode cX9_exit 5 = .ok (.ifCond .ne 4, 3) := by decide +kernel
theorem dX9_exit_8 : decode cX9_exit 8 = .ok (.return_, 1) := by decide +kernel
theorem dX9_exit_9 : decode cX9_exit 9 = .ok (.iload_n 1, 1) := by decide +kernel
theorem dX9_exit_10 : decode cX9_exit 10 = .ok (.istore_n 2, 1) := by decide +kernel
theorem dX9_exit_11 : decode cX9_exit 11 = .ok (.iload_n 2, 1) := by decide +kernel
theorem dX9_exit_12 : decode cX9_exit 12 = .ok (.bipush 20, 2) := by decide +kernel
theorem dX9_exit_14 : decode cX9_exit 14 = .ok (.if_icmp .ge 33, 3) := by decide +kernel
theorem dX9_exit_17 : decode cX9_exit 17 = .ok (.aload_n 0, 1) := by decide +kernel
theorem dX9_exit_18 : decode cX9_exit 18 = .ok (.getfield 9, 3) := by decide +kernel
theorem dX9_exit_21 : decode cX9_exit 21 = .ok (.iload_n 2, 1) := by decide +kernel
theorem dX9_exit_22 : decode cX9_exit 22 = .ok (.iaload, 1) := by decide +kernel
theorem dX9_exit_23 : decode cX9_exit 23 = .ok (.iload_n 1, 1) := by decide +kernel
theorem dX9_exit_24 : decode cX9_exit 24 = .ok (.if_icmp .ne 17, 3) := by decide +kernel
theorem dX9_exit_27 : decode cX9_exit 27 = .ok (.aload_n 0, 1) := by decide +kernel
theorem dX9_exit_28 : decode cX9_exit 28 = .ok (.getfield 9, 3) := by decide +kernel
theorem dX9_exit_31 : decode cX9_exit 31 = .ok (.iload_n 2, 1) := by decide +kernel
theorem dX9_exit_32 : decode cX9_exit 32 = .ok (.iconst (-1), 1) := by decide +kernel
theorem dX9_exit_33 : decode cX9_exit 33 = .ok (.iastore, 1) := by decide +kernel
theorem dX9_exit_34 : decode cX9_exit 34 = .ok (.aload_n 0, 1) := by decide +kernel
theorem dX9_exit_35 : decode cX9_exit 35 = .ok (.getfield 15, 3) := by decide +kernel
theorem dX9_exit_38 : decode cX9_exit 38 = .ok (.iload_n 2, 1) := by decide +kernel
theorem dX9_exit_39 : decode cX9_exit 39 = .ok (.iconst (-1), 1) := by decide +kernel
theorem dX9_exit_40 : decode cX9_exit 40 = .ok (.iastore, 1) := by decide +kernel
theorem dX9_exit_41 : decode cX9_exit 41 = .ok (.iinc 2 1, 3) := by decide +kernel
theorem dX9_exit_44 : decode cX9_exit 44 = .ok (.goto (-33), 3) := by decide +kernel
theorem dX9_exit_47 : decode cX9_exit 47 = .ok (.aload_n 0, 1) := by decide +kernel
theorem dX9_exit_48 : decode cX9_exit 48 = .ok (.dup, 1) := by decide +kernel
theorem dX9_exit_49 : decode cX9_exit 49 = .ok (.getfield 24, 3) := by decide +kernel
theorem dX9_exit_52 : decode cX9_exit 52 = .ok (.iconst 1, 1) := by decide +kernel
theorem dX9_exit_53 : decode cX9_exit 53 = .ok (.isub, 1) := by decide +kernel
theorem dX9_exit_54 : decode cX9_exit 54 = .ok (.putfield 24, 3) := by decide +kernel
theorem dX9_exit_57 : decode cX9_exit 57 = .ok (.return_, 1) := by decide +kernel
theorem dX9_beginsAt_0 : decode cX9_beginsAt 0 = .ok (.iload_n 1, 1) := by decide +kernel
theorem dX9_beginsAt_1 : decode cX9_beginsAt 1 = .ok (.ifCond .lt 23, 3) := by decide +kernel
theorem dX9_beginsAt_4 : decode cX9_beginsAt 4 = .ok (.iload_n 1, 1) := by decide +kernel
theorem dX9_beginsAt_5 : decode cX9_beginsAt 5 = .ok (.bipush 20, 2) := by decide +kernel
theorem dX9_beginsAt_7 : decode cX9_beginsAt 7 = .ok (.if_icmp .ge 17, 3) := by decide +kernel
theorem dX9_beginsAt_10 : decode cX9_beginsAt 10 = .ok (.aload_n 0, 1) := by decide +kernel
theorem dX9_beginsAt_11 : decode cX9_beginsAt 11 = .ok (.getfield 9, 3) := by decide +kernel
theorem dX9_beginsAt_14 : decode cX9_beginsAt 14 = .ok (.iload_n 1, 1) := by decide +kernel
theorem dX9_beginsAt_15 : decode cX9_beginsAt 15 = .ok (.iaload, 1) := by decide +kernel
theorem dX9_beginsAt_16 : decode cX9_beginsAt 16 = .ok (.iload_n 1, 1) := by decide +kernel
theorem dX9_beginsAt_17 : decode cX9_beginsAt 17 = .ok (.if_icmp .ne 7, 3) := by decide +kernel
theorem dX9_beginsAt_20 : decode cX9_beginsAt 20 = .ok (.iconst 1, 1) := by decide +kernel
theorem dX9_beginsAt_21 : decode cX9_beginsAt 21 = .ok (.goto 4, 3) := by decide +kernel
theorem dX9_beginsAt_24 : decode cX9_beginsAt 24 = .ok (.iconst 0, 1) := by decide +kernel
theorem dX9_beginsAt_25 : decode cX9_beginsAt 25 = .ok (.ireturn, 1) := by decide +kernel
theorem dX9_carBy_0 : decode cX9_carBy 0 = .ok (.iconst 0, 1) := by decide +kernel
theorem dX9_carBy_1 : decode cX9_carBy 1 = .ok (.istore_n 2, 1) := by decide +kernel
theorem dX9_carBy_2 : decode cX9_carBy 2 = .ok (.iconst 0, 1) := by decide +kernel
theorem dX9_carBy_3 : decode cX9_carBy 3 = .ok (.istore_n 3, 1) := by decide +kernel
theorem dX9_carBy_4 : decode cX9_carBy 4 = .ok (.iload_n 3, 1) := by decide +kernel
theorem dX9_carBy_5 : decode cX9_carBy 5 = .ok (.bipush 20, 2) := by decide +kernel
theorem dX9_carBy_7 : decode cX9_carBy 7 = .ok (.if_icmp .ge 27, 3) := by decide +kernel
theorem dX9_carBy_10 : decode cX9_carBy 10 = .ok (.aload_n 0, 1) := by decide +kernel
theorem dX9_carBy_11 : decode cX9_carBy 11 = .ok (.iload_n 3, 1) := by decide +kernel
theorem dX9_carBy_12 : decode cX9_carBy 12 = .ok (.invokevirtual 37, 3) := by decide +kernel
theorem dX9_carBy_15 : decode cX9_carBy 15 = .ok (.ifCond .eq 13, 3) := by decide +kernel
theorem dX9_carBy_18 : decode cX9_carBy 18 = .ok (.iload_n 2, 1) := by decide +kernel
theorem dX9_carBy_19 : decode cX9_carBy 19 = .ok (.iload_n 1, 1) := by decide +kernel
theorem dX9_carBy_20 : decode cX9_carBy 20 = .ok (.if_icmp .ne 5, 3) := by decide +kernel
theorem dX9_carBy_23 : decode cX9_carBy 23 = .ok (.iload_n 3, 1) := by decide +kernel
theorem dX9_carBy_24 : decode cX9_carBy 24 = .ok (.ireturn, 1) := by decide +kernel
theorem dX9_carBy_25 : decode cX9_carBy 25 = .ok (.iinc 2 1, 3) := by decide +kernel
theorem dX9_carBy_28 : decode cX9_carBy 28 = .ok (.iinc 3 1, 3) := by decide +kernel
theorem dX9_carBy_31 : decode cX9_carBy 31 = .ok (.goto (-27), 3) := by decide +kernel
theorem dX9_carBy_34 : decode cX9_carBy 34 = .ok (.iconst (-1), 1) := by decide +kernel
theorem dX9_carBy_35 : decode cX9_carBy 35 = .ok (.ireturn, 1) := by decide +kernel
theorem dX10_init_0 : decode cX10_init 0 = .ok (.aload_n 0, 1) := by decide +kernel
theorem dX10_init_1 : decode cX10_init 1 = .ok (.invokespecial 3, 3) := by decide +kernel
theorem dX10_init_4 : decode cX10_init 4 = .ok (.aload_n 0, 1) := by decide +kernel
theorem dX10_init_5 : decode cX10_init 5 = .ok (.sipush 160, 3) := by decide +kernel
theorem dX10_init_8 : decode cX10_init 8 = .ok (.newarray .int, 2) := by decide +kernel
theorem dX10_init_10 : decode cX10_init 10 = .ok (.putfield 9, 3) := by decide +kernel
theorem dX10_init_13 : decode cX10_init 13 = .ok (.return_, 1) := by decide +kernel
theorem dX10_signsIn_0 : decode cX10_signsIn 0 = .ok (.iconst 0, 1) := by decide +kernel
theorem dX10_signsIn_1 : decode cX10_signsIn 1 = .ok (.istore_n 1, 1) := by decide +kernel
theorem dX10_signsIn_2 : decode cX10_signsIn 2 = .ok (.bipush 24, 2) := by decide +kernel
theorem dX10_signsIn_4 : decode cX10_signsIn 4 = .ok (.istore_n 2, 1) := by decide +kernel
theorem dX10_signsIn_5 : decode cX10_signsIn 5 = .ok (.iload_n 2, 1) := by decide +kernel
theorem dX10_signsIn_6 : decode cX10_signsIn 6 = .ok (.ifCond .lt 22, 3) := by decide +kernel
theorem dX10_signsIn_9 : decode cX10_signsIn 9 = .ok (.iload_n 0, 1) := by decide +kernel
theorem dX10_signsIn_10 : decode cX10_signsIn 10 = .ok (.iload_n 2, 1) := by decide +kernel
theorem dX10_signsIn_11 : decode cX10_signsIn 11 = .ok (.iushr, 1) := by decide +kernel
theorem dX10_signsIn_12 : decode cX10_signsIn 12 = .ok (.sipush 255, 3) := by decide +kernel
theorem dX10_signsIn_15 : decode cX10_signsIn 15 = .ok (.iand, 1) := by decide +kernel
theorem dX10_signsIn_16 : decode cX10_signsIn 16 = .ok (.ifCond .eq 6, 3) := by decide +kernel
theorem dX10_signsIn_19 : decode cX10_signsIn 19 = .ok (.iinc 1 1, 3) := by decide +kernel
theorem dX10_signsIn_22 : decode cX10_signsIn 22 = .ok (.iinc 2 (-8), 3) := by decide +kernel
theorem dX10_signsIn_25 : decode cX10_signsIn 25 = .ok (.goto (-20), 3) := by decide +kernel
theorem dX10_signsIn_28 : decode cX10_signsIn 28 = .ok (.iload_n 1, 1) := by decide +kernel
theorem dX10_signsIn_29 : decode cX10_signsIn 29 = .ok (.ireturn, 1) := by decide +kernel
theorem dX10_add_0 : decode cX10_add 0 = .ok (.bipush 24, 2) := by decide +kernel
theorem dX10_add_2 : decode cX10_add 2 = .ok (.istore_n 2, 1) := by decide +kernel
theorem dX10_add_3 : decode cX10_add 3 = .ok (.iload_n 2, 1) := by decide +kernel
theorem dX10_add_4 : decode cX10_add 4 = .ok (.ifCond .lt 51, 3) := by decide +kernel
theorem dX10_add_7 : decode cX10_add 7 = .ok (.iload_n 1, 1) := by decide +kernel
theorem dX10_add_8 : decode cX10_add 8 = .ok (.iload_n 2, 1) := by decide +kernel
theorem dX10_add_9 : decode cX10_add 9 = .ok (.iushr, 1) := by decide +kernel
theorem dX10_add_10 : decode cX10_add 10 = .ok (.sipush 255, 3) := by decide +kernel
theorem dX10_add_13 : decode cX10_add 13 = .ok (.iand, 1) := by decide +kernel
theorem dX10_add_14 : decode cX10_add 14 = .ok (.istore_n 3, 1) := by decide +kernel
theorem dX10_add_15 : decode cX10_add 15 = .ok (.iload_n 3, 1) := by decide +kernel
theorem dX10_add_16 : decode cX10_add 16 = .ok (.ifCond .eq 33, 3) := by decide +kernel
theorem dX10_add_19 : decode cX10_add 19 = .ok (.aload_n 0, 1) := by decide +kernel
theorem dX10_add_20 : decode cX10_add 20 = .ok (.getfield 15, 3) := by decide +kernel
theorem dX10_add_23 : decode cX10_add 23 = .ok (.sipush 160, 3) := by decide +kernel
theorem dX10_add_26 : decode cX10_add 26 = .ok (.if_icmp .ge 23, 3) := by decide +kernel
theorem dX10_add_29 : decode cX10_add 29 = .ok (.aload_n 0, 1) := by decide +kernel
theorem dX10_add_30 : decode cX10_add 30 = .ok (.getfield 9, 3) := by decide +kernel
theorem dX10_add_33 : decode cX10_add 33 = .ok (.aload_n 0, 1) := by decide +kernel
theorem dX10_add_34 : decode cX10_add 34 = .ok (.getfield 15, 3) := by decide +kernel
theorem dX10_add_37 : decode cX10_add 37 = .ok (.iload_n 3, 1) := by decide +kernel
theorem dX10_add_38 : decode cX10_add 38 = .ok (.iastore, 1) := by decide +kernel
theorem dX10_add_39 : decode cX10_add 39 = .ok (.aload_n 0, 1) := by decide +kernel
theorem dX10_add_40 : decode cX10_add 40 = .ok (.dup, 1) := by decide +kernel
theorem dX10_add_41 : decode cX10_add 41 = .ok (.getfield 15, 3) := by decide +kernel
theorem dX10_add_44 : decode cX10_add 44 = .ok (.iconst 1, 1) := by decide +kernel
theorem dX10_add_45 : decode cX10_add 45 = .ok (.iadd, 1) := by decide +kernel
theorem dX10_add_46 : decode cX10_add 46 = .ok (.putfield 15, 3) := by decide +kernel
theorem dX10_add_49 : decode cX10_add 49 = .ok (.iinc 2 (-8), 3) := by decide +kernel
theorem dX10_add_52 : decode cX10_add 52 = .ok (.goto (-49), 3) := by decide +kernel
theorem dX10_add_55 : decode cX10_add 55 = .ok (.return_, 1) := by decide +kernel
theorem dX10_rewind_0 : decode cX10_rewind 0 = .ok (.aload_n 0, 1) := by decide +kernel
theorem dX10_rewind_1 : decode cX10_rewind 1 = .ok (.iconst 0, 1) := by decide +kernel
theorem dX10_rewind_2 : decode cX10_rewind 2 = .ok (.putfield 19, 3) := by decide +kernel
theorem dX10_rewind_5 : decode cX10_rewind 5 = .ok (.aload_n 0, 1) := by decide +kernel
theorem dX10_rewind_6 : decode cX10_rewind 6 = .ok (.iconst (-1), 1) := by decide +kernel
theorem dX10_rewind_7 : decode cX10_rewind 7 = .ok (.putfield 22, 3) := by decide +kernel
theorem dX10_rewind_10 : decode cX10_rewind 10 = .ok (.return_, 1) := by decide +kernel
theorem dX10_look_0 : decode cX10_look 0 = .ok (.aload_n 0, 1) := by decide +kernel
theorem dX10_look_1 : decode cX10_look 1 = .ok (.getfield 19, 3) := by decide +kernel
theorem dX10_look_4 : decode cX10_look 4 = .ok (.aload_n 0, 1) := by decide +kernel
theorem dX10_look_5 : decode cX10_look 5 = .ok (.getfield 15, 3) := by decide +kernel
theorem dX10_look_8 : decode cX10_look 8 = .ok (.if_icmp .ge 30, 3) := by decide +kernel
theorem dX10_look_11 : decode cX10_look 11 = .ok (.aload_n 0, 1) := by decide +kernel
theorem dX10_look_12 : decode cX10_look 12 = .ok (.getfield 9, 3) := by decide +kernel
theorem dX10_look_15 : decode cX10_look 15 = .ok (.aload_n 0, 1) := by decide +kernel
theorem dX10_look_16 : decode cX10_look 16 = .ok (.getfield 19, 3) := by decide +kernel
theorem dX10_look_19 : decode cX10_look 19 = .ok (.iaload, 1) := by decide +kernel
theorem dX10_look_20 : decode cX10_look 20 = .ok (.bipush 32, 2) := by decide +kernel
theorem dX10_look_22 : decode cX10_look 22 = .ok (.if_icmp .ne 16, 3) := by decide +kernel
theorem dX10_look_25 : decode cX10_look 25 = .ok (.aload_n 0, 1) := by decide +kernel
theorem dX10_look_26 : decode cX10_look 26 = .ok (.dup, 1) := by decide +kernel
theorem dX10_look_27 : decode cX10_look 27 = .ok (.getfield 19, 3) := by decide +kernel
theorem dX10_look_30 : decode cX10_look 30 = .ok (.iconst 1, 1) := by decide +kernel
theorem dX10_look_31 : decode cX10_look 31 = .ok (.iadd, 1) := by decide +kernel
theorem dX10_look_32 : decode cX10_look 32 = .ok (.putfield 19, 3) := by decide +kernel
theorem dX10_look_35 : decode cX10_look 35 = .ok (.goto (-35), 3) := by decide +kernel
theorem dX10_look_38 : decode cX10_look 38 = .ok (.aload_n 0, 1) := by decide +kernel
theorem dX10_look_39 : decode cX10_look 39 = .ok (.getfield 22, 3) := by decide +kernel
theorem dX10_look_42 : decode cX10_look 42 = .ok (.iconst (-1), 1) := by decide +kernel
theorem dX10_look_43 : decode cX10_look 43 = .ok (.if_icmp .ne 26, 3) := by decide +kernel
theorem dX10_look_46 : decode cX10_look 46 = .ok (.aload_n 0, 1) := by decide +kernel
theorem dX10_look_47 : decode cX10_look 47 = .ok (.getfield 19, 3) := by decide +kernel
theorem dX10_look_50 : decode cX10_look 50 = .ok (.aload_n 0, 1) := by decide +kernel
theorem dX10_look_51 : decode cX10_look 51 = .ok (.getfield 15, 3) := by decide +kernel
theorem dX10_look_54 : decode cX10_look 54 = .ok (.if_icmp .ge 15, 3) := by decide +kernel
theorem dX10_look_57 : decode cX10_look 57 = .ok (.aload_n 0, 1) := by decide +kernel
theorem dX10_look_58 : decode cX10_look 58 = .ok (.getfield 9, 3) := by decide +kernel
theorem dX10_look_61 : decode cX10_look 61 = .ok (.aload_n 0, 1) := by decide +kernel
theorem dX10_look_62 : decode cX10_look 62 = .ok (.getfield 19, 3) := by decide +kernel
theorem dX10_look_65 : decode cX10_look 65 = .ok (.iaload, 1) := by decide +kernel
theorem dX10_look_66 : decode cX10_look 66 = .ok (.goto 4, 3) := by decide +kernel
theorem dX10_look_69 : decode cX10_look 69 = .ok (.iconst (-1), 1) := by decide +kernel
theorem dX10_look_70 : decode cX10_look 70 = .ok (.ireturn, 1) := by decide +kernel
theorem dX10_step_0 : decode cX10_step 0 = .ok (.aload_n 0, 1) := by decide +kernel
theorem dX10_step_1 : decode cX10_step 1 = .ok (.getfield 19, 3) := by decide +kernel
theorem dX10_step_4 : decode cX10_step 4 = .ok (.aload_n 0, 1) := by decide +kernel
theorem dX10_step_5 : decode cX10_step 5 = .ok (.getfield 15, 3) := by decide +kernel
theorem dX10_step_8 : decode cX10_step 8 = .ok (.if_icmp .ge 13, 3) := by decide +kernel
theorem dX10_step_11 : decode cX10_step 11 = .ok (.aload_n 0, 1) := by decide +kernel
theorem dX10_step_12 : decode cX10_step 12 = .ok (.dup, 1) := by decide +kernel
theorem dX10_step_13 : decode cX10_step 13 = .ok (.getfield 19, 3) := by decide +kernel
theorem dX10_step_16 : decode cX10_step 16 = .ok (.iconst 1, 1) := by decide +kernel
theorem dX10_step_17 : decode cX10_step 17 = .ok (.iadd, 1) := by decide +kernel
theorem dX10_step_18 : decode cX10_step 18 = .ok (.putfield 19, 3) := by decide +kernel
theorem dX10_step_21 : decode cX10_step 21 = .ok (.return_, 1) := by decide +kernel
theorem dX10_refuse_0 : decode cX10_refuse 0 = .ok (.aload_n 0, 1) := by decide +kernel
theorem dX10_refuse_1 : decode cX10_refuse 1 = .ok (.getfield 22, 3) := by decide +kernel
theorem dX10_refuse_4 : decode cX10_refuse 4 = .ok (.iconst (-1), 1) := by decide +kernel
theorem dX10_refuse_5 : decode cX10_refuse 5 = .ok (.if_icmp .ne 11, 3) := by decide +kernel
theorem dX10_refuse_8 : decode cX10_refuse 8 = .ok (.aload_n 0, 1) := by decide +kernel
theorem dX10_refuse_9 : decode cX10_refuse 9 = .ok (.aload_n 0, 1) := by decide +kernel
theorem dX10_refuse_10 : decode cX10_refuse 10 = .ok (.getfield 19, 3) := by decide +kernel
theorem dX10_refuse_13 : decode cX10_refuse 13 = .ok (.putfield 22, 3) := by decide +kernel
theorem dX10_refuse_16 : decode cX10_refuse 16 = .ok (.return_, 1) := by decide +kernel
theorem dX10_refuseLastDigit_0 : decode cX10_refuseLastDigit 0 = .ok (.aload_n 0, 1) := by decide +kernel
theorem dX10_refuseLastDigit_1 : decode cX10_refuseLastDigit 1 = .ok (.getfield 22, 3) := by decide +kernel
theorem dX10_refuseLastDigit_4 : decode cX10_refuseLastDigit 4 = .ok (.iconst (-1), 1) := by decide +kernel
theorem dX10_refuseLastDigit_5 : decode cX10_refuseLastDigit 5 = .ok (.if_icmp .ne 13, 3) := by decide +kernel
theorem dX10_refuseLastDigit_8 : decode cX10_refuseLastDigit 8 = .ok (.aload_n 0, 1) := by decide +kernel
theorem dX10_refuseLastDigit_9 : decode cX10_refuseLastDigit 9 = .ok (.aload_n 0, 1) := by decide +kernel
theorem dX10_refuseLastDigit_10 : decode cX10_refuseLastDigit 10 = .ok (.getfield 19, 3) := by decide +kernel
theorem dX10_refuseLastDigit_13 : decode cX10_refuseLastDigit 13 = .ok (.iconst 1, 1) := by decide +kernel
theorem dX10_refuseLastDigit_14 : decode cX10_refuseLastDigit 14 = .ok (.isub, 1) := by decide +kernel
theorem dX10_refuseLastDigit_15 : decode cX10_refuseLastDigit 15 = .ok (.putfield 22, 3) := by decide +kernel
theorem dX10_refuseLastDigit_18 : decode cX10_refuseLastDigit 18 = .ok (.return_, 1) := by decide +kernel
theorem dX10_expect_0 : decode cX10_expect 0 = .ok (.aload_n 0, 1) := by decide +kernel
theorem dX10_expect_1 : decode cX10_expect 1 = .ok (.invokevirtual 25, 3) := by decide +kernel
theorem dX10_expect_4 : decode cX10_expect 4 = .ok (.iload_n 1, 1) := by decide +kernel
theorem dX10_expect_5 : decode cX10_expect 5 = .ok (.if_icmp .ne 10, 3) := by decide +kernel
theorem dX10_expect_8 : decode cX10_expect 8 = .ok (.aload_n 0, 1) := by decide +kernel
theorem dX10_expect_9 : decode cX10_expect 9 = .ok (.invokevirtual 29, 3) := by decide +kernel
theorem dX10_expect_12 : decode cX10_expect 12 = .ok (.goto 7, 3) := by decide +kernel
theorem dX10_expect_15 : decode cX10_expect 15 = .ok (.aload_n 0, 1) := by decide +kernel
theorem dX10_expect_16 : decode cX10_expect 16 = .ok (.invokevirtual 32, 3) := by decide +kernel
theorem dX10_expect_19 : decode cX10_expect 19 = .ok (.return_, 1) := by decide +kernel
theorem dX10_onDigit_0 : decode cX10_onDigit 0 = .ok (.aload_n 0, 1) := by decide +kernel
theorem dX10_onDigit_1 : decode cX10_onDigit 1 = .ok (.getfield 19, 3) := by decide +kernel
theorem dX10_onDigit_4 : decode cX10_onDigit 4 = .ok (.aload_n 0, 1) := by decide +kernel
theorem dX10_onDigit_5 : decode cX10_onDigit 5 = .ok (.getfield 15, 3) := by decide +kernel
theorem dX10_onDigit_8 : decode cX10_onDigit 8 = .ok (.if_icmp .ge 35, 3) := by decide +kernel
theorem dX10_onDigit_11 : decode cX10_onDigit 11 = .ok (.aload_n 0, 1) := by decide +kernel
theorem dX10_onDigit_12 : decode cX10_onDigit 12 = .ok (.getfield 9, 3) := by decide +kernel
theorem dX10_onDigit_15 : decode cX10_onDigit 15 = .ok (.aload_n 0, 1) := by decide +kernel
theorem dX10_onDigit_16 : decode cX10_onDigit 16 = .ok (.getfield 19, 3) := by decide +kernel
theorem dX10_onDigit_19 : decode cX10_onDigit 19 = .ok (.iaload, 1) := by decide +kernel
theorem dX10_onDigit_20 : decode cX10_onDigit 20 = .ok (.bipush 48, 2) := by decide +kernel
theorem dX10_onDigit_22 : decode cX10_onDigit 22 = .ok (.if_icmp .lt 21, 3) := by decide +kernel
theorem dX10_onDigit_25 : decode cX10_onDigit 25 = .ok (.aload_n 0, 1) := by decide +kernel
theorem dX10_onDigit_26 : decode cX10_onDigit 26 = .ok (.getfield 9, 3) := by decide +kernel
theorem dX10_onDigit_29 : decode cX10_onDigit 29 = .ok (.aload_n 0, 1) := by decide +kernel
theorem dX10_onDigit_30 : decode cX10_onDigit 30 = .ok (.getfield 19, 3) := by decide +kernel
theorem dX10_onDigit_33 : decode cX10_onDigit 33 = .ok (.iaload, 1) := by decide +kernel
theorem dX10_onDigit_34 : decode cX10_onDigit 34 = .ok (.bipush 57, 2) := by decide +kernel
theorem dX10_onDigit_36 : decode cX10_onDigit 36 = .ok (.if_icmp .gt 7, 3) := by decide +kernel
theorem dX10_onDigit_39 : decode cX10_onDigit 39 = .ok (.iconst 1, 1) := by decide +kernel
theorem dX10_onDigit_40 : decode cX10_onDigit 40 = .ok (.goto 4, 3) := by decide +kernel
theorem dX10_onDigit_43 : decode cX10_onDigit 43 = .ok (.iconst 0, 1) := by decide +kernel
theorem dX10_onDigit_44 : decode cX10_onDigit 44 = .ok (.ireturn, 1) := by decide +kernel
theorem dX10_number_0 : decode cX10_number 0 = .ok (.aload_n 0, 1) := by decide +kernel
theorem dX10_number_1 : decode cX10_number 1 = .ok (.invokevirtual 25, 3) := by decide +kernel
theorem dX10_number_4 : decode cX10_number 4 = .ok (.iconst (-1), 1) := by decide +kernel
theorem dX10_number_5 : decode cX10_number 5 = .ok (.if_icmp .eq 10, 3) := by decide +kernel
theorem dX10_number_8 : decode cX10_number 8 = .ok (.aload_n 0, 1) := by decide +kernel
theorem dX10_number_9 : decode cX10_number 9 = .ok (.invokevirtual 35, 3) := by decide +kernel
theorem dX10_number_12 : decode cX10_number 12 = .ok (.ifCond .ne 9, 3) := by decide +kernel
theorem dX10_number_15 : decode cX10_number 15 = .ok (.aload_n 0, 1) := by decide +kernel
theorem dX10_number_16 : decode cX10_number 16 = .ok (.invokevirtual 32, 3) := by decide +kernel
theorem dX10_number_19 : decode cX10_number 19 = .ok (.iconst 0, 1) := by decide +kernel
theorem dX10_number_20 : decode cX10_number 20 = .ok (.ireturn, 1) := by decide +kernel
theorem dX10_number_21 : decode cX10_number 21 = .ok (.iconst 0, 1) := by decide +kernel
theorem dX10_number_22 : decode cX10_number 22 = .ok (.istore_n 2, 1) := by decide +kernel
theorem dX10_number_23 : decode cX10_number 23 = .ok (.iconst 0, 1) := by decide +kernel
theorem dX10_number_24 : decode cX10_number 24 = .ok (.istore_n 3, 1) := by decide +kernel
theorem dX10_number_25 : decode cX10_number 25 = .ok (.iload_n 3, 1) := by decide +kernel
theorem dX10_number_26 : decode cX10_number 26 = .ok (.iload_n 1, 1) := by decide +kernel
theorem dX10_number_27 : decode cX10_number 27 = .ok (.if_icmp .ge 44, 3) := by decide +kernel
theorem dX10_number_30 : decode cX10_number 30 = .ok (.aload_n 0, 1) := by decide +kernel
theorem dX10_number_31 : decode cX10_number 31 = .ok (.invokevirtual 35, 3) := by decide +kernel
theorem dX10_number_34 : decode cX10_number 34 = .ok (.ifCond .eq 37, 3) := by decide +kernel
theorem dX10_number_37 : decode cX10_number 37 = .ok (.iload_n 2, 1) := by decide +kernel
theorem dX10_number_38 : decode cX10_number 38 = .ok (.bipush 10, 2) := by decide +kernel
theorem dX10_number_40 : decode cX10_number 40 = .ok (.imul, 1) := by decide +kernel
theorem dX10_number_41 : decode cX10_number 41 = .ok (.aload_n 0, 1) := by decide +kernel
theorem dX10_number_42 : decode cX10_number 42 = .ok (.getfield 9, 3) := by decide +kernel
theorem dX10_number_45 : decode cX10_number 45 = .ok (.aload_n 0, 1) := by decide +kernel
theorem dX10_number_46 : decode cX10_number 46 = .ok (.getfield 19, 3) := by decide +kernel
theorem dX10_number_49 : decode cX10_number 49 = .ok (.iaload, 1) := by decide +kernel
theorem dX10_number_50 : decode cX10_number 50 = .ok (.iadd, 1) := by decide +kernel
theorem dX10_number_51 : decode cX10_number 51 = .ok (.bipush 48, 2) := by decide +kernel
theorem dX10_number_53 : decode cX10_number 53 = .ok (.isub, 1) := by decide +kernel
theorem dX10_number_54 : decode cX10_number 54 = .ok (.istore_n 2, 1) := by decide +kernel
theorem dX10_number_55 : decode cX10_number 55 = .ok (.aload_n 0, 1) := by decide +kernel
theorem dX10_number_56 : decode cX10_number 56 = .ok (.dup, 1) := by decide +kernel
theorem dX10_number_57 : decode cX10_number 57 = .ok (.getfield 19, 3) := by decide +kernel
theorem dX10_number_60 : decode cX10_number 60 = .ok (.iconst 1, 1) := by decide +kernel
theorem dX10_number_61 : decode cX10_number 61 = .ok (.iadd, 1) := by decide +kernel
theorem dX10_number_62 : decode cX10_number 62 = .ok (.putfield 19, 3) := by decide +kernel
theorem dX10_number_65 : decode cX10_number 65 = .ok (.iinc 3 1, 3) := by decide +kernel
theorem dX10_number_68 : decode cX10_number 68 = .ok (.goto (-43), 3) := by decide +kernel
theorem dX10_number_71 : decode cX10_number 71 = .ok (.aload_n 0, 1) := by decide +kernel
theorem dX10_number_72 : decode cX10_number 72 = .ok (.invokevirtual 35, 3) := by decide +kernel
theorem dX10_number_75 : decode cX10_number 75 = .ok (.ifCond .eq 7, 3) := by decide +kernel
theorem dX10_number_78 : decode cX10_number 78 = .ok (.aload_n 0, 1) := by decide +kernel
theorem dX10_number_79 : decode cX10_number 79 = .ok (.invokevirtual 32, 3) := by decide +kernel
theorem dX10_number_82 : decode cX10_number 82 = .ok (.iload_n 2, 1) := by decide +kernel
theorem dX10_number_83 : decode cX10_number 83 = .ok (.ireturn, 1) := by decide +kernel
theorem dX10_numberWithin_0 : decode cX10_numberWithin 0 = .ok (.aload_n 0, 1) := by decide +kernel
theorem dX10_numberWithin_1 : decode cX10_numberWithin 1 = .ok (.iload_n 1, 1) := by decide +kernel
theorem dX10_numberWithin_2 : decode cX10_numberWithin 2 = .ok (.invokevirtual 39, 3) := by decide +kernel
theorem dX10_numberWithin_5 : decode cX10_numberWithin 5 = .ok (.istore 4, 2) := by decide +kernel
theorem dX10_numberWithin_7 : decode cX10_numberWithin 7 = .ok (.iload 4, 2) := by decide +kernel
theorem dX10_numberWithin_9 : decode cX10_numberWithin 9 = .ok (.iload_n 2, 1) := by decide +kernel
theorem dX10_numberWithin_10 : decode cX10_numberWithin 10 = .ok (.if_icmp .lt 9, 3) := by decide +kernel
theorem dX10_numberWithin_13 : decode cX10_numberWithin 13 = .ok (.iload 4, 2) := by decide +kernel
theorem dX10_numberWithin_15 : decode cX10_numberWithin 15 = .ok (.iload_n 3, 1) := by decide +kernel
theorem dX10_numberWithin_16 : decode cX10_numberWithin 16 = .ok (.if_icmp .le 7, 3) := by decide +kernel
theorem dX10_numberWithin_19 : decode cX10_numberWithin 19 = .ok (.aload_n 0, 1) := by decide +kernel
theorem dX10_numberWithin_20 : decode cX10_numberWithin 20 = .ok (.invokevirtual 43, 3) := by decide +kernel
theorem dX10_numberWithin_23 : decode cX10_numberWithin 23 = .ok (.iload 4, 2) := by decide +kernel
theorem dX10_numberWithin_25 : decode cX10_numberWithin 25 = .ok (.ireturn, 1) := by decide +kernel
theorem dJ0_length_8abf5_0 : decode cJ0_length_8abf5 0 = .ok (.aload_n 0, 1) := by decide +kernel
theorem dJ0_length_8abf5_1 : decode cJ0_length_8abf5 1 = .ok (.getfield 9, 3) := by decide +kernel
theorem dJ0_length_8abf5_4 : decode cJ0_length_8abf5 4 = .ok (.arraylength, 1) := by decide +kernel
theorem dJ0_length_8abf5_5 : decode cJ0_length_8abf5 5 = .ok (.aload_n 0, 1) := by decide +kernel
theorem dJ0_length_8abf5_6 : decode cJ0_length_8abf5 6 = .ok (.invokevirtual 335, 3) := by decide +kernel
theorem dJ0_length_8abf5_9 : decode cJ0_length_8abf5 9 = .ok (.ishr, 1) := by decide +kernel
theorem dJ0_length_8abf5_10 : decode cJ0_length_8abf5 10 = .ok (.ireturn, 1) := by decide +kernel
theorem dJ0_charAt_5068e_0 : decode cJ0_charAt_5068e 0 = .ok (.aload_n 0, 1) := by decide +kernel
theorem dJ0_charAt_5068e_1 : decode cJ0_charAt_5068e 1 = .ok (.invokevirtual 492, 3) := by decide +kernel
theorem dJ0_charAt_5068e_4 : decode cJ0_charAt_5068e 4 = .ok (.ifCond .eq 12, 3) := by decide +kernel
theorem dJ0_charAt_5068e_7 : decode cJ0_charAt_5068e 7 = .ok (.aload_n 0, 1) := by decide +kernel
theorem dJ0_charAt_5068e_8 : decode cJ0_charAt_5068e 8 = .ok (.getfield 9, 3) := by decide +kernel
theorem dJ0_charAt_5068e_11 : decode cJ0_charAt_5068e 11 = .ok (.iload_n 1, 1) := by decide +kernel
theorem dJ0_charAt_5068e_12 : decode cJ0_charAt_5068e 12 = .ok (.invokestatic 495, 3) := by decide +kernel
theorem dJ0_charAt_5068e_15 : decode cJ0_charAt_5068e 15 = .ok (.ireturn, 1) := by decide +kernel
theorem dJ0_charAt_5068e_16 : decode cJ0_charAt_5068e 16 = .ok (.aload_n 0, 1) := by decide +kernel
theorem dJ0_charAt_5068e_17 : decode cJ0_charAt_5068e 17 = .ok (.getfield 9, 3) := by decide +kernel
theorem dJ0_charAt_5068e_20 : decode cJ0_charAt_5068e 20 = .ok (.iload_n 1, 1) := by decide +kernel
theorem dJ0_charAt_5068e_21 : decode cJ0_charAt_5068e 21 = .ok (.invokestatic 498, 3) := by decide +kernel
theorem dJ0_charAt_5068e_24 : decode cJ0_charAt_5068e 24 = .ok (.ireturn, 1) := by decide +kernel
theorem dJ0_coder_7d493_0 : decode cJ0_coder_7d493 0 = .ok (.getstatic 38, 3) := by decide +kernel
theorem dJ0_coder_7d493_3 : decode cJ0_coder_7d493 3 = .ok (.ifCond .eq 10, 3) := by decide +kernel
theorem dJ0_coder_7d493_6 : decode cJ0_coder_7d493 6 = .ok (.aload_n 0, 1) := by decide +kernel
theorem dJ0_coder_7d493_7 : decode cJ0_coder_7d493 7 = .ok (.getfield 15, 3) := by decide +kernel
theorem dJ0_coder_7d493_10 : decode cJ0_coder_7d493 10 = .ok (.goto 4, 3) := by decide +kernel
theorem dJ0_coder_7d493_13 : decode cJ0_coder_7d493 13 = .ok (.iconst 1, 1) := by decide +kernel
theorem dJ0_coder_7d493_14 : decode cJ0_coder_7d493 14 = .ok (.ireturn, 1) := by decide +kernel
theorem dJ0_isLatin1_aae02_0 : decode cJ0_isLatin1_aae02 0 = .ok (.getstatic 38, 3) := by decide +kernel
theorem dJ0_isLatin1_aae02_3 : decode cJ0_isLatin1_aae02 3 = .ok (.ifCond .eq 14, 3) := by decide +kernel
theorem dJ0_isLatin1_aae02_6 : decode cJ0_isLatin1_aae02 6 = .ok (.aload_n 0, 1) := by decide +kernel
theorem dJ0_isLatin1_aae02_7 : decode cJ0_isLatin1_aae02 7 = .ok (.getfield 15, 3) := by decide +kernel
theorem dJ0_isLatin1_aae02_10 : decode cJ0_isLatin1_aae02 10 = .ok (.ifCond .ne 7, 3) := by decide +kernel
theorem dJ0_isLatin1_aae02_13 : decode cJ0_isLatin1_aae02 13 = .ok (.iconst 1, 1) := by decide +kernel
theorem dJ0_isLatin1_aae02_14 : decode cJ0_isLatin1_aae02 14 = .ok (.goto 4, 3) := by decide +kernel
theorem dJ0_isLatin1_aae02_17 : decode cJ0_isLatin1_aae02 17 = .ok (.iconst 0, 1) := by decide +kernel
theorem dJ0_isLatin1_aae02_18 : decode cJ0_isLatin1_aae02 18 = .ok (.ireturn, 1) := by decide +kernel
theorem dJ0_checkIndex_df160_0 : decode cJ0_checkIndex_df160 0 = .ok (.iload_n 0, 1) := by decide +kernel
theorem dJ0_checkIndex_df160_1 : decode cJ0_checkIndex_df160 1 = .ok (.iload_n 1, 1) := by decide +kernel
theorem dJ0_checkIndex_df160_2 : decode cJ0_checkIndex_df160 2 = .ok (.getstatic 1053, 3) := by decide +kernel
theorem dJ0_checkIndex_df160_5 : decode cJ0_checkIndex_df160 5 = .ok (.invokestatic 1059, 3) := by decide +kernel
theorem dJ0_checkIndex_df160_8 : decode cJ0_checkIndex_df160 8 = .ok (.pop, 1) := by decide +kernel
theorem dJ0_checkIndex_df160_9 : decode cJ0_checkIndex_df160 9 = .ok (.return_, 1) := by decide +kernel
theorem dJ1_charAt_3b067_0 : decode cJ1_charAt_3b067 0 = .ok (.iload_n 1, 1) := by decide +kernel
theorem dJ1_charAt_3b067_1 : decode cJ1_charAt_3b067 1 = .ok (.aload_n 0, 1) := by decide +kernel
theorem dJ1_charAt_3b067_2 : decode cJ1_charAt_3b067 2 = .ok (.arraylength, 1) := by decide +kernel
theorem dJ1_charAt_3b067_3 : decode cJ1_charAt_3b067 3 = .ok (.invokestatic 9, 3) := by decide +kernel
theorem dJ1_charAt_3b067_6 : decode cJ1_charAt_3b067 6 = .ok (.aload_n 0, 1) := by decide +kernel
theorem dJ1_charAt_3b067_7 : decode cJ1_charAt_3b067 7 = .ok (.iload_n 1, 1) := by decide +kernel
theorem dJ1_charAt_3b067_8 : decode cJ1_charAt_3b067 8 = .ok (.baload, 1) := by decide +kernel
theorem dJ1_charAt_3b067_9 : decode cJ1_charAt_3b067 9 = .ok (.sipush 255, 3) := by decide +kernel
theorem dJ1_charAt_3b067_12 : decode cJ1_charAt_3b067 12 = .ok (.iand, 1) := by decide +kernel
theorem dJ1_charAt_3b067_13 : decode cJ1_charAt_3b067 13 = .ok (.i2c, 1) := by decide +kernel
theorem dJ1_charAt_3b067_14 : decode cJ1_charAt_3b067 14 = .ok (.ireturn, 1) := by decide +kernel
theorem dJ3_checkIndex_8e157_0 : decode cJ3_checkIndex_8e157 0 = .ok (.iload_n 0, 1) := by decide +kernel
theorem dJ3_checkIndex_8e157_1 : decode cJ3_checkIndex_8e157 1 = .ok (.ifCond .lt 8, 3) := by decide +kernel
theorem dJ3_checkIndex_8e157_4 : decode cJ3_checkIndex_8e157 4 = .ok (.iload_n 0, 1) := by decide +kernel
theorem dJ3_checkIndex_8e157_5 : decode cJ3_checkIndex_8e157 5 = .ok (.iload_n 1, 1) := by decide +kernel
theorem dJ3_checkIndex_8e157_6 : decode cJ3_checkIndex_8e157 6 = .ok (.if_icmp .lt 10, 3) := by decide +kernel
theorem dJ3_checkIndex_8e157_9 : decode cJ3_checkIndex_8e157 9 = .ok (.aload_n 2, 1) := by decide +kernel
theorem dJ3_checkIndex_8e157_10 : decode cJ3_checkIndex_8e157 10 = .ok (.iload_n 0, 1) := by decide +kernel
theorem dJ3_checkIndex_8e157_11 : decode cJ3_checkIndex_8e157 11 = .ok (.iload_n 1, 1) := by decide +kernel
theorem dJ3_checkIndex_8e157_12 : decode cJ3_checkIndex_8e157 12 = .ok (.invokestatic 95, 3) := by decide +kernel
theorem dJ3_checkIndex_8e157_15 : decode cJ3_checkIndex_8e157 15 = .ok (.athrow, 1) := by decide +kernel
theorem dJ3_checkIndex_8e157_16 : decode cJ3_checkIndex_8e157 16 = .ok (.iload_n 0, 1) := by decide +kernel
theorem dJ3_checkIndex_8e157_17 : decode cJ3_checkIndex_8e157 17 = .ok (.ireturn, 1) := by decide +kernel

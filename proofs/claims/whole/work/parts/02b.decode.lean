theorem dX0_init_0 : decode cX0_init 0 = .ok (.aload_n 0, 1) := by decide +kernel
theorem dX0_init_1 : decode cX0_init 1 = .ok (.invokespecial 1, 3) := by decide +kernel
theorem dX0_init_4 : decode cX0_init 4 = .ok (.aload_n 0, 1) := by decide +kernel
theorem dX0_init_5 : decode cX0_init 5 = .ok (.aload_n 1, 1) := by decide +kernel
theorem dX0_init_6 : decode cX0_init 6 = .ok (.putfield 7, 3) := by decide +kernel
theorem dX0_init_9 : decode cX0_init 9 = .ok (.aload_n 0, 1) := by decide +kernel
theorem dX0_init_10 : decode cX0_init 10 = .ok (.new 13, 3) := by decide +kernel
theorem dX0_init_13 : decode cX0_init 13 = .ok (.dup, 1) := by decide +kernel
theorem dX0_init_14 : decode cX0_init 14 = .ok (.aload_n 1, 1) := by decide +kernel
theorem dX0_init_15 : decode cX0_init 15 = .ok (.invokespecial 15, 3) := by decide +kernel
theorem dX0_init_18 : decode cX0_init 18 = .ok (.putfield 18, 3) := by decide +kernel
theorem dX0_init_21 : decode cX0_init 21 = .ok (.aload_n 0, 1) := by decide +kernel
theorem dX0_init_22 : decode cX0_init 22 = .ok (.new 13, 3) := by decide +kernel
theorem dX0_init_25 : decode cX0_init 25 = .ok (.dup, 1) := by decide +kernel
theorem dX0_init_26 : decode cX0_init 26 = .ok (.aload_n 1, 1) := by decide +kernel
theorem dX0_init_27 : decode cX0_init 27 = .ok (.invokespecial 15, 3) := by decide +kernel
theorem dX0_init_30 : decode cX0_init 30 = .ok (.putfield 22, 3) := by decide +kernel
theorem dX0_init_33 : decode cX0_init 33 = .ok (.aload_n 0, 1) := by decide +kernel
theorem dX0_init_34 : decode cX0_init 34 = .ok (.bipush 16, 2) := by decide +kernel
theorem dX0_init_36 : decode cX0_init 36 = .ok (.newarray .int, 2) := by decide +kernel
theorem dX0_init_38 : decode cX0_init 38 = .ok (.putfield 25, 3) := by decide +kernel
theorem dX0_init_41 : decode cX0_init 41 = .ok (.return_, 1) := by decide +kernel
theorem dX0_bestNumber_0 : decode cX0_bestNumber 0 = .ok (.iconst 0, 1) := by decide +kernel
theorem dX0_bestNumber_1 : decode cX0_bestNumber 1 = .ok (.istore 5, 2) := by decide +kernel
theorem dX0_bestNumber_3 : decode cX0_bestNumber 3 = .ok (.iload 5, 2) := by decide +kernel
theorem dX0_bestNumber_5 : decode cX0_bestNumber 5 = .ok (.aload_n 0, 1) := by decide +kernel
theorem dX0_bestNumber_6 : decode cX0_bestNumber 6 = .ok (.getfield 25, 3) := by decide +kernel
theorem dX0_bestNumber_9 : decode cX0_bestNumber 9 = .ok (.arraylength, 1) := by decide +kernel
theorem dX0_bestNumber_10 : decode cX0_bestNumber 10 = .ok (.if_icmp .ge 17, 3) := by decide +kernel
theorem dX0_bestNumber_13 : decode cX0_bestNumber 13 = .ok (.aload_n 0, 1) := by decide +kernel
theorem dX0_bestNumber_14 : decode cX0_bestNumber 14 = .ok (.getfield 25, 3) := by decide +kernel
theorem dX0_bestNumber_17 : decode cX0_bestNumber 17 = .ok (.iload 5, 2) := by decide +kernel
theorem dX0_bestNumber_19 : decode cX0_bestNumber 19 = .ok (.iconst 0, 1) := by decide +kernel
theorem dX0_bestNumber_20 : decode cX0_bestNumber 20 = .ok (.iastore, 1) := by decide +kernel
theorem dX0_bestNumber_21 : decode cX0_bestNumber 21 = .ok (.iinc 5 1, 3) := by decide +kernel
theorem dX0_bestNumber_24 : decode cX0_bestNumber 24 = .ok (.goto (-21), 3) := by decide +kernel
theorem dX0_bestNumber_27 : decode cX0_bestNumber 27 = .ok (.aload_n 1, 1) := by decide +kernel
theorem dX0_bestNumber_28 : decode cX0_bestNumber 28 = .ok (.invokevirtual 29, 3) := by decide +kernel
theorem dX0_bestNumber_31 : decode cX0_bestNumber 31 = .ok (.iconst 1, 1) := by decide +kernel
theorem dX0_bestNumber_32 : decode cX0_bestNumber 32 = .ok (.iload_n 2, 1) := by decide +kernel
theorem dX0_bestNumber_33 : decode cX0_bestNumber 33 = .ok (.ishl, 1) := by decide +kernel
theorem dX0_bestNumber_34 : decode cX0_bestNumber 34 = .ok (.iconst (-1), 1) := by decide +kernel
theorem dX0_bestNumber_35 : decode cX0_bestNumber 35 = .ok (.ixor, 1) := by decide +kernel
theorem dX0_bestNumber_36 : decode cX0_bestNumber 36 = .ok (.iand, 1) := by decide +kernel
theorem dX0_bestNumber_37 : decode cX0_bestNumber 37 = .ok (.istore 5, 2) := by decide +kernel
theorem dX0_bestNumber_39 : decode cX0_bestNumber 39 = .ok (.iconst 0, 1) := by decide +kernel
theorem dX0_bestNumber_40 : decode cX0_bestNumber 40 = .ok (.istore 6, 2) := by decide +kernel
theorem dX0_bestNumber_42 : decode cX0_bestNumber 42 = .ok (.iload 6, 2) := by decide +kernel
theorem dX0_bestNumber_44 : decode cX0_bestNumber 44 = .ok (.iload 5, 2) := by decide +kernel
theorem dX0_bestNumber_46 : decode cX0_bestNumber 46 = .ok (.if_icmp .gt 43, 3) := by decide +kernel
theorem dX0_bestNumber_49 : decode cX0_bestNumber 49 = .ok (.iload 6, 2) := by decide +kernel
theorem dX0_bestNumber_51 : decode cX0_bestNumber 51 = .ok (.iload 5, 2) := by decide +kernel
theorem dX0_bestNumber_53 : decode cX0_bestNumber 53 = .ok (.iconst (-1), 1) := by decide +kernel
theorem dX0_bestNumber_54 : decode cX0_bestNumber 54 = .ok (.ixor, 1) := by decide +kernel
theorem dX0_bestNumber_55 : decode cX0_bestNumber 55 = .ok (.iand, 1) := by decide +kernel
theorem dX0_bestNumber_56 : decode cX0_bestNumber 56 = .ok (.ifCond .ne 27, 3) := by decide +kernel
theorem dX0_bestNumber_59 : decode cX0_bestNumber 59 = .ok (.iload 6, 2) := by decide +kernel
theorem dX0_bestNumber_61 : decode cX0_bestNumber 61 = .ok (.invokestatic 35, 3) := by decide +kernel
theorem dX0_bestNumber_64 : decode cX0_bestNumber 64 = .ok (.iload 4, 2) := by decide +kernel
theorem dX0_bestNumber_66 : decode cX0_bestNumber 66 = .ok (.if_icmp .ne 17, 3) := by decide +kernel
theorem dX0_bestNumber_69 : decode cX0_bestNumber 69 = .ok (.aload_n 0, 1) := by decide +kernel
theorem dX0_bestNumber_70 : decode cX0_bestNumber 70 = .ok (.aload_n 1, 1) := by decide +kernel
theorem dX0_bestNumber_71 : decode cX0_bestNumber 71 = .ok (.iload_n 2, 1) := by decide +kernel
theorem dX0_bestNumber_72 : decode cX0_bestNumber 72 = .ok (.iload_n 3, 1) := by decide +kernel
theorem dX0_bestNumber_73 : decode cX0_bestNumber 73 = .ok (.iload 5, 2) := by decide +kernel
theorem dX0_bestNumber_75 : decode cX0_bestNumber 75 = .ok (.iload 6, 2) := by decide +kernel
theorem dX0_bestNumber_77 : decode cX0_bestNumber 77 = .ok (.iconst (-1), 1) := by decide +kernel
theorem dX0_bestNumber_78 : decode cX0_bestNumber 78 = .ok (.ixor, 1) := by decide +kernel
theorem dX0_bestNumber_79 : decode cX0_bestNumber 79 = .ok (.iand, 1) := by decide +kernel
theorem dX0_bestNumber_80 : decode cX0_bestNumber 80 = .ok (.invokevirtual 41, 3) := by decide +kernel
theorem dX0_bestNumber_83 : decode cX0_bestNumber 83 = .ok (.iinc 6 1, 3) := by decide +kernel
theorem dX0_bestNumber_86 : decode cX0_bestNumber 86 = .ok (.goto (-44), 3) := by decide +kernel
theorem dX0_bestNumber_89 : decode cX0_bestNumber 89 = .ok (.iconst 0, 1) := by decide +kernel
theorem dX0_bestNumber_90 : decode cX0_bestNumber 90 = .ok (.istore 6, 2) := by decide +kernel
theorem dX0_bestNumber_92 : decode cX0_bestNumber 92 = .ok (.iconst 1, 1) := by decide +kernel
theorem dX0_bestNumber_93 : decode cX0_bestNumber 93 = .ok (.istore 7, 2) := by decide +kernel
theorem dX0_bestNumber_95 : decode cX0_bestNumber 95 = .ok (.iload 7, 2) := by decide +kernel
theorem dX0_bestNumber_97 : decode cX0_bestNumber 97 = .ok (.aload_n 0, 1) := by decide +kernel
theorem dX0_bestNumber_98 : decode cX0_bestNumber 98 = .ok (.getfield 25, 3) := by decide +kernel
theorem dX0_bestNumber_101 : decode cX0_bestNumber 101 = .ok (.arraylength, 1) := by decide +kernel
theorem dX0_bestNumber_102 : decode cX0_bestNumber 102 = .ok (.if_icmp .ge 30, 3) := by decide +kernel
theorem dX0_bestNumber_105 : decode cX0_bestNumber 105 = .ok (.aload_n 0, 1) := by decide +kernel
theorem dX0_bestNumber_106 : decode cX0_bestNumber 106 = .ok (.getfield 25, 3) := by decide +kernel
theorem dX0_bestNumber_109 : decode cX0_bestNumber 109 = .ok (.iload 7, 2) := by decide +kernel
theorem dX0_bestNumber_111 : decode cX0_bestNumber 111 = .ok (.iaload, 1) := by decide +kernel
theorem dX0_bestNumber_112 : decode cX0_bestNumber 112 = .ok (.aload_n 0, 1) := by decide +kernel
theorem dX0_bestNumber_113 : decode cX0_bestNumber 113 = .ok (.getfield 25, 3) := by decide +kernel
theorem dX0_bestNumber_116 : decode cX0_bestNumber 116 = .ok (.iload 6, 2) := by decide +kernel
theorem dX0_bestNumber_118 : decode cX0_bestNumber 118 = .ok (.iaload, 1) := by decide +kernel
theorem dX0_bestNumber_119 : decode cX0_bestNumber 119 = .ok (.if_icmp .le 7, 3) := by decide +kernel
theorem dX0_bestNumber_122 : decode cX0_bestNumber 122 = .ok (.iload 7, 2) := by decide +kernel
theorem dX0_bestNumber_124 : decode cX0_bestNumber 124 = .ok (.istore 6, 2) := by decide +kernel
theorem dX0_bestNumber_126 : decode cX0_bestNumber 126 = .ok (.iinc 7 1, 3) := by decide +kernel
theorem dX0_bestNumber_129 : decode cX0_bestNumber 129 = .ok (.goto (-34), 3) := by decide +kernel
theorem dX0_bestNumber_132 : decode cX0_bestNumber 132 = .ok (.iload 6, 2) := by decide +kernel
theorem dX0_bestNumber_134 : decode cX0_bestNumber 134 = .ok (.ireturn, 1) := by decide +kernel
theorem dX0_tryAll_0 : decode cX0_tryAll 0 = .ok (.aload_n 0, 1) := by decide +kernel
theorem dX0_tryAll_1 : decode cX0_tryAll 1 = .ok (.getfield 18, 3) := by decide +kernel
theorem dX0_tryAll_4 : decode cX0_tryAll 4 = .ok (.invokevirtual 45, 3) := by decide +kernel
theorem dX0_tryAll_7 : decode cX0_tryAll 7 = .ok (.aload_n 0, 1) := by decide +kernel
theorem dX0_tryAll_8 : decode cX0_tryAll 8 = .ok (.getfield 18, 3) := by decide +kernel
theorem dX0_tryAll_11 : decode cX0_tryAll 11 = .ok (.aload_n 1, 1) := by decide +kernel
theorem dX0_tryAll_12 : decode cX0_tryAll 12 = .ok (.iload 4, 2) := by decide +kernel
theorem dX0_tryAll_14 : decode cX0_tryAll 14 = .ok (.invokevirtual 48, 3) := by decide +kernel
theorem dX0_tryAll_17 : decode cX0_tryAll 17 = .ok (.aload_n 0, 1) := by decide +kernel
theorem dX0_tryAll_18 : decode cX0_tryAll 18 = .ok (.getfield 22, 3) := by decide +kernel
theorem dX0_tryAll_21 : decode cX0_tryAll 21 = .ok (.aload_n 0, 1) := by decide +kernel
theorem dX0_tryAll_22 : decode cX0_tryAll 22 = .ok (.getfield 18, 3) := by decide +kernel
theorem dX0_tryAll_25 : decode cX0_tryAll 25 = .ok (.invokevirtual 52, 3) := by decide +kernel
theorem dX0_tryAll_28 : decode cX0_tryAll 28 = .ok (.aload_n 0, 1) := by decide +kernel
theorem dX0_tryAll_29 : decode cX0_tryAll 29 = .ok (.getfield 22, 3) := by decide +kernel
theorem dX0_tryAll_32 : decode cX0_tryAll 32 = .ok (.aload_n 1, 1) := by decide +kernel
theorem dX0_tryAll_33 : decode cX0_tryAll 33 = .ok (.aload_n 1, 1) := by decide +kernel
theorem dX0_tryAll_34 : decode cX0_tryAll 34 = .ok (.getfield 56, 3) := by decide +kernel
theorem dX0_tryAll_37 : decode cX0_tryAll 37 = .ok (.invokevirtual 48, 3) := by decide +kernel
theorem dX0_tryAll_40 : decode cX0_tryAll 40 = .ok (.iconst 1, 1) := by decide +kernel
theorem dX0_tryAll_41 : decode cX0_tryAll 41 = .ok (.iconst 4, 1) := by decide +kernel
theorem dX0_tryAll_42 : decode cX0_tryAll 42 = .ok (.iload_n 3, 1) := by decide +kernel
theorem dX0_tryAll_43 : decode cX0_tryAll 43 = .ok (.imul, 1) := by decide +kernel
theorem dX0_tryAll_44 : decode cX0_tryAll 44 = .ok (.ishl, 1) := by decide +kernel
theorem dX0_tryAll_45 : decode cX0_tryAll 45 = .ok (.istore 5, 2) := by decide +kernel
theorem dX0_tryAll_47 : decode cX0_tryAll 47 = .ok (.aload_n 1, 1) := by decide +kernel
theorem dX0_tryAll_48 : decode cX0_tryAll 48 = .ok (.iload_n 2, 1) := by decide +kernel
theorem dX0_tryAll_49 : decode cX0_tryAll 49 = .ok (.invokevirtual 60, 3) := by decide +kernel
theorem dX0_tryAll_52 : decode cX0_tryAll 52 = .ok (.ifCond .eq 20, 3) := by decide +kernel
theorem dX0_tryAll_55 : decode cX0_tryAll 55 = .ok (.aload_n 1, 1) := by decide +kernel
theorem dX0_tryAll_56 : decode cX0_tryAll 56 = .ok (.getfield 64, 3) := by decide +kernel
theorem dX0_tryAll_59 : decode cX0_tryAll 59 = .ok (.iload_n 2, 1) := by decide +kernel
theorem dX0_tryAll_60 : decode cX0_tryAll 60 = .ok (.iaload, 1) := by decide +kernel
theorem dX0_tryAll_61 : decode cX0_tryAll 61 = .ok (.bipush 15, 2) := by decide +kernel
theorem dX0_tryAll_63 : decode cX0_tryAll 63 = .ok (.iload 5, 2) := by decide +kernel
theorem dX0_tryAll_65 : decode cX0_tryAll 65 = .ok (.imul, 1) := by decide +kernel
theorem dX0_tryAll_66 : decode cX0_tryAll 66 = .ok (.iconst (-1), 1) := by decide +kernel
theorem dX0_tryAll_67 : decode cX0_tryAll 67 = .ok (.ixor, 1) := by decide +kernel
theorem dX0_tryAll_68 : decode cX0_tryAll 68 = .ok (.iand, 1) := by decide +kernel
theorem dX0_tryAll_69 : decode cX0_tryAll 69 = .ok (.goto 4, 3) := by decide +kernel
theorem dX0_tryAll_72 : decode cX0_tryAll 72 = .ok (.iconst 0, 1) := by decide +kernel
theorem dX0_tryAll_73 : decode cX0_tryAll 73 = .ok (.istore 6, 2) := by decide +kernel
theorem dX0_tryAll_75 : decode cX0_tryAll 75 = .ok (.iconst 0, 1) := by decide +kernel
theorem dX0_tryAll_76 : decode cX0_tryAll 76 = .ok (.istore 7, 2) := by decide +kernel
theorem dX0_tryAll_78 : decode cX0_tryAll 78 = .ok (.iload 7, 2) := by decide +kernel
theorem dX0_tryAll_80 : decode cX0_tryAll 80 = .ok (.aload_n 0, 1) := by decide +kernel
theorem dX0_tryAll_81 : decode cX0_tryAll 81 = .ok (.getfield 25, 3) := by decide +kernel
theorem dX0_tryAll_84 : decode cX0_tryAll 84 = .ok (.arraylength, 1) := by decide +kernel
theorem dX0_tryAll_85 : decode cX0_tryAll 85 = .ok (.if_icmp .ge 91, 3) := by decide +kernel
theorem dX0_tryAll_88 : decode cX0_tryAll 88 = .ok (.iload 6, 2) := by decide +kernel
theorem dX0_tryAll_90 : decode cX0_tryAll 90 = .ok (.iload 7, 2) := by decide +kernel
theorem dX0_tryAll_92 : decode cX0_tryAll 92 = .ok (.iload 5, 2) := by decide +kernel
theorem dX0_tryAll_94 : decode cX0_tryAll 94 = .ok (.imul, 1) := by decide +kernel
theorem dX0_tryAll_95 : decode cX0_tryAll 95 = .ok (.ior, 1) := by decide +kernel
theorem dX0_tryAll_96 : decode cX0_tryAll 96 = .ok (.istore 8, 2) := by decide +kernel
theorem dX0_tryAll_98 : decode cX0_tryAll 98 = .ok (.aload_n 0, 1) := by decide +kernel
theorem dX0_tryAll_99 : decode cX0_tryAll 99 = .ok (.getfield 18, 3) := by decide +kernel
theorem dX0_tryAll_102 : decode cX0_tryAll 102 = .ok (.getfield 67, 3) := by decide +kernel
theorem dX0_tryAll_105 : decode cX0_tryAll 105 = .ok (.aload_n 0, 1) := by decide +kernel
theorem dX0_tryAll_106 : decode cX0_tryAll 106 = .ok (.getfield 18, 3) := by decide +kernel
theorem dX0_tryAll_109 : decode cX0_tryAll 109 = .ok (.iload 8, 2) := by decide +kernel
theorem dX0_tryAll_111 : decode cX0_tryAll 111 = .ok (.invokevirtual 70, 3) := by decide +kernel
theorem dX0_tryAll_114 : decode cX0_tryAll 114 = .ok (.ifCond .ne 7, 3) := by decide +kernel
theorem dX0_tryAll_117 : decode cX0_tryAll 117 = .ok (.iconst 0, 1) := by decide +kernel
theorem dX0_tryAll_118 : decode cX0_tryAll 118 = .ok (.goto 4, 3) := by decide +kernel
theorem dX0_tryAll_121 : decode cX0_tryAll 121 = .ok (.iconst 1, 1) := by decide +kernel
theorem dX0_tryAll_122 : decode cX0_tryAll 122 = .ok (.iadd, 1) := by decide +kernel
theorem dX0_tryAll_123 : decode cX0_tryAll 123 = .ok (.istore 9, 2) := by decide +kernel
theorem dX0_tryAll_125 : decode cX0_tryAll 125 = .ok (.aload_n 0, 1) := by decide +kernel
theorem dX0_tryAll_126 : decode cX0_tryAll 126 = .ok (.getfield 22, 3) := by decide +kernel
theorem dX0_tryAll_129 : decode cX0_tryAll 129 = .ok (.getfield 67, 3) := by decide +kernel
theorem dX0_tryAll_132 : decode cX0_tryAll 132 = .ok (.aload_n 0, 1) := by decide +kernel
theorem dX0_tryAll_133 : decode cX0_tryAll 133 = .ok (.getfield 22, 3) := by decide +kernel
theorem dX0_tryAll_136 : decode cX0_tryAll 136 = .ok (.iload 8, 2) := by decide +kernel
theorem dX0_tryAll_138 : decode cX0_tryAll 138 = .ok (.invokevirtual 70, 3) := by decide +kernel
theorem dX0_tryAll_141 : decode cX0_tryAll 141 = .ok (.ifCond .ne 7, 3) := by decide +kernel
theorem dX0_tryAll_144 : decode cX0_tryAll 144 = .ok (.iconst 0, 1) := by decide +kernel
theorem dX0_tryAll_145 : decode cX0_tryAll 145 = .ok (.goto 4, 3) := by decide +kernel
theorem dX0_tryAll_148 : decode cX0_tryAll 148 = .ok (.iconst 1, 1) := by decide +kernel
theorem dX0_tryAll_149 : decode cX0_tryAll 149 = .ok (.iadd, 1) := by decide +kernel
theorem dX0_tryAll_150 : decode cX0_tryAll 150 = .ok (.istore 10, 2) := by decide +kernel
theorem dX0_tryAll_152 : decode cX0_tryAll 152 = .ok (.iload 9, 2) := by decide +kernel
theorem dX0_tryAll_154 : decode cX0_tryAll 154 = .ok (.iload 10, 2) := by decide +kernel
theorem dX0_tryAll_156 : decode cX0_tryAll 156 = .ok (.if_icmp .ne 14, 3) := by decide +kernel
theorem dX0_tryAll_159 : decode cX0_tryAll 159 = .ok (.aload_n 0, 1) := by decide +kernel
theorem dX0_tryAll_160 : decode cX0_tryAll 160 = .ok (.getfield 25, 3) := by decide +kernel
theorem dX0_tryAll_163 : decode cX0_tryAll 163 = .ok (.iload 7, 2) := by decide +kernel
theorem dX0_tryAll_165 : decode cX0_tryAll 165 = .ok (.dup2, 1) := by decide +kernel
theorem dX0_tryAll_166 : decode cX0_tryAll 166 = .ok (.iaload, 1) := by decide +kernel
theorem dX0_tryAll_167 : decode cX0_tryAll 167 = .ok (.iconst 1, 1) := by decide +kernel
theorem dX0_tryAll_168 : decode cX0_tryAll 168 = .ok (.iadd, 1) := by decide +kernel
theorem dX0_tryAll_169 : decode cX0_tryAll 169 = .ok (.iastore, 1) := by decide +kernel
theorem dX0_tryAll_170 : decode cX0_tryAll 170 = .ok (.iinc 7 1, 3) := by decide +kernel
theorem dX0_tryAll_173 : decode cX0_tryAll 173 = .ok (.goto (-95), 3) := by decide +kernel
theorem dX0_tryAll_176 : decode cX0_tryAll 176 = .ok (.return_, 1) := by decide +kernel
theorem dX1_init_0 : decode cX1_init 0 = .ok (.aload_n 0, 1) := by decide +kernel
theorem dX1_init_1 : decode cX1_init 1 = .ok (.invokespecial 3, 3) := by decide +kernel
theorem dX1_init_4 : decode cX1_init 4 = .ok (.aload_n 0, 1) := by decide +kernel
theorem dX1_init_5 : decode cX1_init 5 = .ok (.bipush 100, 2) := by decide +kernel
theorem dX1_init_7 : decode cX1_init 7 = .ok (.newarray .char, 2) := by decide +kernel
theorem dX1_init_9 : decode cX1_init 9 = .ok (.putfield 11, 3) := by decide +kernel
theorem dX1_init_12 : decode cX1_init 12 = .ok (.aload_n 0, 1) := by decide +kernel
theorem dX1_init_13 : decode cX1_init 13 = .ok (.iconst 0, 1) := by decide +kernel
theorem dX1_init_14 : decode cX1_init 14 = .ok (.putfield 15, 3) := by decide +kernel
theorem dX1_init_17 : decode cX1_init 17 = .ok (.aload_n 0, 1) := by decide +kernel
theorem dX1_init_18 : decode cX1_init 18 = .ok (.iconst 0, 1) := by decide +kernel
theorem dX1_init_19 : decode cX1_init 19 = .ok (.putfield 19, 3) := by decide +kernel
theorem dX1_init_22 : decode cX1_init 22 = .ok (.aload_n 0, 1) := by decide +kernel
theorem dX1_init_23 : decode cX1_init 23 = .ok (.iconst 0, 1) := by decide +kernel
theorem dX1_init_24 : decode cX1_init 24 = .ok (.putfield 22, 3) := by decide +kernel
theorem dX1_init_27 : decode cX1_init 27 = .ok (.return_, 1) := by decide +kernel
theorem dX1_add_0 : decode cX1_add 0 = .ok (.aload_n 0, 1) := by decide +kernel
theorem dX1_add_1 : decode cX1_add 1 = .ok (.getfield 15, 3) := by decide +kernel
theorem dX1_add_4 : decode cX1_add 4 = .ok (.aload_n 0, 1) := by decide +kernel
theorem dX1_add_5 : decode cX1_add 5 = .ok (.getfield 11, 3) := by decide +kernel
theorem dX1_add_8 : decode cX1_add 8 = .ok (.arraylength, 1) := by decide +kernel
theorem dX1_add_9 : decode cX1_add 9 = .ok (.if_icmp .lt 5, 3) := by decide +kernel
theorem dX1_add_12 : decode cX1_add 12 = .ok (.iconst 0, 1) := by decide +kernel
theorem dX1_add_13 : decode cX1_add 13 = .ok (.ireturn, 1) := by decide +kernel
theorem dX1_add_14 : decode cX1_add 14 = .ok (.aload_n 0, 1) := by decide +kernel
theorem dX1_add_15 : decode cX1_add 15 = .ok (.getfield 11, 3) := by decide +kernel
theorem dX1_add_18 : decode cX1_add 18 = .ok (.aload_n 0, 1) := by decide +kernel
theorem dX1_add_19 : decode cX1_add 19 = .ok (.getfield 15, 3) := by decide +kernel
theorem dX1_add_22 : decode cX1_add 22 = .ok (.iload_n 1, 1) := by decide +kernel
theorem dX1_add_23 : decode cX1_add 23 = .ok (.i2c, 1) := by decide +kernel
theorem dX1_add_24 : decode cX1_add 24 = .ok (.castore, 1) := by decide +kernel
theorem dX1_add_25 : decode cX1_add 25 = .ok (.aload_n 0, 1) := by decide +kernel
theorem dX1_add_26 : decode cX1_add 26 = .ok (.dup, 1) := by decide +kernel
theorem dX1_add_27 : decode cX1_add 27 = .ok (.getfield 15, 3) := by decide +kernel
theorem dX1_add_30 : decode cX1_add 30 = .ok (.iconst 1, 1) := by decide +kernel
theorem dX1_add_31 : decode cX1_add 31 = .ok (.iadd, 1) := by decide +kernel
theorem dX1_add_32 : decode cX1_add 32 = .ok (.putfield 15, 3) := by decide +kernel
theorem dX1_add_35 : decode cX1_add 35 = .ok (.iconst 1, 1) := by decide +kernel
theorem dX1_add_36 : decode cX1_add 36 = .ok (.ireturn, 1) := by decide +kernel
theorem dX1_parse_0 : decode cX1_parse 0 = .ok (.aload_n 0, 1) := by decide +kernel
theorem dX1_parse_1 : decode cX1_parse 1 = .ok (.iconst 0, 1) := by decide +kernel
theorem dX1_parse_2 : decode cX1_parse 2 = .ok (.putfield 19, 3) := by decide +kernel
theorem dX1_parse_5 : decode cX1_parse 5 = .ok (.aload_n 0, 1) := by decide +kernel
theorem dX1_parse_6 : decode cX1_parse 6 = .ok (.iconst 0, 1) := by decide +kernel
theorem dX1_parse_7 : decode cX1_parse 7 = .ok (.putfield 22, 3) := by decide +kernel
theorem dX1_parse_10 : decode cX1_parse 10 = .ok (.aload_n 0, 1) := by decide +kernel
theorem dX1_parse_11 : decode cX1_parse 11 = .ok (.aload_n 1, 1) := by decide +kernel
theorem dX1_parse_12 : decode cX1_parse 12 = .ok (.iconst 1, 1) := by decide +kernel
theorem dX1_parse_13 : decode cX1_parse 13 = .ok (.iconst 0, 1) := by decide +kernel
theorem dX1_parse_14 : decode cX1_parse 14 = .ok (.invokevirtual 25, 3) := by decide +kernel
theorem dX1_parse_17 : decode cX1_parse 17 = .ok (.ifCond .eq 18, 3) := by decide +kernel
theorem dX1_parse_20 : decode cX1_parse 20 = .ok (.aload_n 0, 1) := by decide +kernel
theorem dX1_parse_21 : decode cX1_parse 21 = .ok (.getfield 22, 3) := by decide +kernel
theorem dX1_parse_24 : decode cX1_parse 24 = .ok (.aload_n 0, 1) := by decide +kernel
theorem dX1_parse_25 : decode cX1_parse 25 = .ok (.getfield 15, 3) := by decide +kernel
theorem dX1_parse_28 : decode cX1_parse 28 = .ok (.if_icmp .ne 7, 3) := by decide +kernel
theorem dX1_parse_31 : decode cX1_parse 31 = .ok (.iconst 1, 1) := by decide +kernel
theorem dX1_parse_32 : decode cX1_parse 32 = .ok (.goto 4, 3) := by decide +kernel
theorem dX1_parse_35 : decode cX1_parse 35 = .ok (.iconst 0, 1) := by decide +kernel
theorem dX1_parse_36 : decode cX1_parse 36 = .ok (.ireturn, 1) := by decide +kernel
theorem dX1_parseSum_0 : decode cX1_parseSum 0 = .ok (.iconst 0, 1) := by decide +kernel
theorem dX1_parseSum_1 : decode cX1_parseSum 1 = .ok (.istore 4, 2) := by decide +kernel
theorem dX1_parseSum_3 : decode cX1_parseSum 3 = .ok (.iload 4, 2) := by decide +kernel
theorem dX1_parseSum_5 : decode cX1_parseSum 5 = .ok (.bipush 100, 2) := by decide +kernel
theorem dX1_parseSum_7 : decode cX1_parseSum 7 = .ok (.if_icmp .ge 32, 3) := by decide +kernel
theorem dX1_parseSum_10 : decode cX1_parseSum 10 = .ok (.aload_n 0, 1) := by decide +kernel
theorem dX1_parseSum_11 : decode cX1_parseSum 11 = .ok (.aload_n 1, 1) := by decide +kernel
theorem dX1_parseSum_12 : decode cX1_parseSum 12 = .ok (.iload_n 2, 1) := by decide +kernel
theorem dX1_parseSum_13 : decode cX1_parseSum 13 = .ok (.iload_n 3, 1) := by decide +kernel
theorem dX1_parseSum_14 : decode cX1_parseSum 14 = .ok (.invokevirtual 29, 3) := by decide +kernel
theorem dX1_parseSum_17 : decode cX1_parseSum 17 = .ok (.ifCond .ne 5, 3) := by decide +kernel
theorem dX1_parseSum_20 : decode cX1_parseSum 20 = .ok (.iconst 0, 1) := by decide +kernel
theorem dX1_parseSum_21 : decode cX1_parseSum 21 = .ok (.ireturn, 1) := by decide +kernel
theorem dX1_parseSum_22 : decode cX1_parseSum 22 = .ok (.aload_n 0, 1) := by decide +kernel
theorem dX1_parseSum_23 : decode cX1_parseSum 23 = .ok (.bipush 43, 2) := by decide +kernel
theorem dX1_parseSum_25 : decode cX1_parseSum 25 = .ok (.invokevirtual 32, 3) := by decide +kernel
theorem dX1_parseSum_28 : decode cX1_parseSum 28 = .ok (.ifCond .ne 5, 3) := by decide +kernel
theorem dX1_parseSum_31 : decode cX1_parseSum 31 = .ok (.iconst 1, 1) := by decide +kernel
theorem dX1_parseSum_32 : decode cX1_parseSum 32 = .ok (.ireturn, 1) := by decide +kernel
theorem dX1_parseSum_33 : decode cX1_parseSum 33 = .ok (.iinc 4 1, 3) := by decide +kernel
theorem dX1_parseSum_36 : decode cX1_parseSum 36 = .ok (.goto (-33), 3) := by decide +kernel
theorem dX1_parseSum_39 : decode cX1_parseSum 39 = .ok (.iconst 0, 1) := by decide +kernel
theorem dX1_parseSum_40 : decode cX1_parseSum 40 = .ok (.ireturn, 1) := by decide +kernel
theorem dX1_parseTerm_0 : decode cX1_parseTerm 0 = .ok (.iload_n 2, 1) := by decide +kernel
theorem dX1_parseTerm_1 : decode cX1_parseTerm 1 = .ok (.istore 4, 2) := by decide +kernel
theorem dX1_parseTerm_3 : decode cX1_parseTerm 3 = .ok (.iload_n 3, 1) := by decide +kernel
theorem dX1_parseTerm_4 : decode cX1_parseTerm 4 = .ok (.istore 5, 2) := by decide +kernel
theorem dX1_parseTerm_6 : decode cX1_parseTerm 6 = .ok (.iload 5, 2) := by decide +kernel
theorem dX1_parseTerm_8 : decode cX1_parseTerm 8 = .ok (.iconst 4, 1) := by decide +kernel
theorem dX1_parseTerm_9 : decode cX1_parseTerm 9 = .ok (.if_icmp .ge 55, 3) := by decide +kernel
theorem dX1_parseTerm_12 : decode cX1_parseTerm 12 = .ok (.aload_n 0, 1) := by decide +kernel
theorem dX1_parseTerm_13 : decode cX1_parseTerm 13 = .ok (.invokevirtual 36, 3) := by decide +kernel
theorem dX1_parseTerm_16 : decode cX1_parseTerm 16 = .ok (.invokestatic 40, 3) := by decide +kernel
theorem dX1_parseTerm_19 : decode cX1_parseTerm 19 = .ok (.ifCond .lt 45, 3) := by decide +kernel
theorem dX1_parseTerm_22 : decode cX1_parseTerm 22 = .ok (.aload_n 1, 1) := by decide +kernel
theorem dX1_parseTerm_23 : decode cX1_parseTerm 23 = .ok (.iload 4, 2) := by decide +kernel
theorem dX1_parseTerm_25 : decode cX1_parseTerm 25 = .ok (.aload_n 0, 1) := by decide +kernel
theorem dX1_parseTerm_26 : decode cX1_parseTerm 26 = .ok (.invokevirtual 36, 3) := by decide +kernel
theorem dX1_parseTerm_29 : decode cX1_parseTerm 29 = .ok (.invokestatic 40, 3) := by decide +kernel
theorem dX1_parseTerm_32 : decode cX1_parseTerm 32 = .ok (.invokevirtual 44, 3) := by decide +kernel
theorem dX1_parseTerm_35 : decode cX1_parseTerm 35 = .ok (.istore 4, 2) := by decide +kernel
theorem dX1_parseTerm_37 : decode cX1_parseTerm 37 = .ok (.aload_n 0, 1) := by decide +kernel
theorem dX1_parseTerm_38 : decode cX1_parseTerm 38 = .ok (.dup, 1) := by decide +kernel
theorem dX1_parseTerm_39 : decode cX1_parseTerm 39 = .ok (.getfield 22, 3) := by decide +kernel
theorem dX1_parseTerm_42 : decode cX1_parseTerm 42 = .ok (.iconst 1, 1) := by decide +kernel
theorem dX1_parseTerm_43 : decode cX1_parseTerm 43 = .ok (.iadd, 1) := by decide +kernel
theorem dX1_parseTerm_44 : decode cX1_parseTerm 44 = .ok (.putfield 22, 3) := by decide +kernel
theorem dX1_parseTerm_47 : decode cX1_parseTerm 47 = .ok (.aload_n 0, 1) := by decide +kernel
theorem dX1_parseTerm_48 : decode cX1_parseTerm 48 = .ok (.bipush 42, 2) := by decide +kernel
theorem dX1_parseTerm_50 : decode cX1_parseTerm 50 = .ok (.invokevirtual 32, 3) := by decide +kernel
theorem dX1_parseTerm_53 : decode cX1_parseTerm 53 = .ok (.ifCond .ne 5, 3) := by decide +kernel
theorem dX1_parseTerm_56 : decode cX1_parseTerm 56 = .ok (.iconst 0, 1) := by decide +kernel
theorem dX1_parseTerm_57 : decode cX1_parseTerm 57 = .ok (.ireturn, 1) := by decide +kernel
theorem dX1_parseTerm_58 : decode cX1_parseTerm 58 = .ok (.iinc 5 1, 3) := by decide +kernel
theorem dX1_parseTerm_61 : decode cX1_parseTerm 61 = .ok (.goto (-55), 3) := by decide +kernel
theorem dX1_parseTerm_64 : decode cX1_parseTerm 64 = .ok (.aload_n 0, 1) := by decide +kernel
theorem dX1_parseTerm_65 : decode cX1_parseTerm 65 = .ok (.bipush 120, 2) := by decide +kernel
theorem dX1_parseTerm_67 : decode cX1_parseTerm 67 = .ok (.invokevirtual 32, 3) := by decide +kernel
theorem dX1_parseTerm_70 : decode cX1_parseTerm 70 = .ok (.ifCond .eq 10, 3) := by decide +kernel
theorem dX1_parseTerm_73 : decode cX1_parseTerm 73 = .ok (.aload_n 0, 1) := by decide +kernel
theorem dX1_parseTerm_74 : decode cX1_parseTerm 74 = .ok (.iload 4, 2) := by decide +kernel
theorem dX1_parseTerm_76 : decode cX1_parseTerm 76 = .ok (.invokevirtual 50, 3) := by decide +kernel
theorem dX1_parseTerm_79 : decode cX1_parseTerm 79 = .ok (.ireturn, 1) := by decide +kernel
theorem dX1_parseTerm_80 : decode cX1_parseTerm 80 = .ok (.iload 5, 2) := by decide +kernel
theorem dX1_parseTerm_82 : decode cX1_parseTerm 82 = .ok (.iconst 4, 1) := by decide +kernel
theorem dX1_parseTerm_83 : decode cX1_parseTerm 83 = .ok (.if_icmp .ge 12, 3) := by decide +kernel
theorem dX1_parseTerm_86 : decode cX1_parseTerm 86 = .ok (.aload_n 0, 1) := by decide +kernel
theorem dX1_parseTerm_87 : decode cX1_parseTerm 87 = .ok (.bipush 40, 2) := by decide +kernel
theorem dX1_parseTerm_89 : decode cX1_parseTerm 89 = .ok (.invokevirtual 32, 3) := by decide +kernel
theorem dX1_parseTerm_92 : decode cX1_parseTerm 92 = .ok (.ifCond .ne 5, 3) := by decide +kernel
theorem dX1_parseTerm_95 : decode cX1_parseTerm 95 = .ok (.iconst 0, 1) := by decide +kernel
theorem dX1_parseTerm_96 : decode cX1_parseTerm 96 = .ok (.ireturn, 1) := by decide +kernel
theorem dX1_parseTerm_97 : decode cX1_parseTerm 97 = .ok (.aload_n 0, 1) := by decide +kernel
theorem dX1_parseTerm_98 : decode cX1_parseTerm 98 = .ok (.aload_n 1, 1) := by decide +kernel
theorem dX1_parseTerm_99 : decode cX1_parseTerm 99 = .ok (.iload 4, 2) := by decide +kernel
theorem dX1_parseTerm_101 : decode cX1_parseTerm 101 = .ok (.iload 5, 2) := by decide +kernel
theorem dX1_parseTerm_103 : decode cX1_parseTerm 103 = .ok (.iconst 1, 1) := by decide +kernel
theorem dX1_parseTerm_104 : decode cX1_parseTerm 104 = .ok (.iadd, 1) := by decide +kernel
theorem dX1_parseTerm_105 : decode cX1_parseTerm 105 = .ok (.invokevirtual 25, 3) := by decide +kernel
theorem dX1_parseTerm_108 : decode cX1_parseTerm 108 = .ok (.ifCond .eq 16, 3) := by decide +kernel
theorem dX1_parseTerm_111 : decode cX1_parseTerm 111 = .ok (.aload_n 0, 1) := by decide +kernel
theorem dX1_parseTerm_112 : decode cX1_parseTerm 112 = .ok (.bipush 41, 2) := by decide +kernel
theorem dX1_parseTerm_114 : decode cX1_parseTerm 114 = .ok (.invokevirtual 32, 3) := by decide +kernel
theorem dX1_parseTerm_117 : decode cX1_parseTerm 117 = .ok (.ifCond .eq 7, 3) := by decide +kernel
theorem dX1_parseTerm_120 : decode cX1_parseTerm 120 = .ok (.iconst 1, 1) := by decide +kernel
theorem dX1_parseTerm_121 : decode cX1_parseTerm 121 = .ok (.goto 4, 3) := by decide +kernel
theorem dX1_parseTerm_124 : decode cX1_parseTerm 124 = .ok (.iconst 0, 1) := by decide +kernel
theorem dX1_parseTerm_125 : decode cX1_parseTerm 125 = .ok (.ireturn, 1) := by decide +kernel
theorem dX1_parseData_0 : decode cX1_parseData 0 = .ok (.aload_n 0, 1) := by decide +kernel
theorem dX1_parseData_1 : decode cX1_parseData 1 = .ok (.invokevirtual 36, 3) := by decide +kernel
theorem dX1_parseData_4 : decode cX1_parseData 4 = .ok (.bipush 48, 2) := by decide +kernel
theorem dX1_parseData_6 : decode cX1_parseData 6 = .ok (.isub, 1) := by decide +kernel
theorem dX1_parseData_7 : decode cX1_parseData 7 = .ok (.istore_n 2, 1) := by decide +kernel
theorem dX1_parseData_8 : decode cX1_parseData 8 = .ok (.iload_n 2, 1) := by decide +kernel
theorem dX1_parseData_9 : decode cX1_parseData 9 = .ok (.ifCond .lt 8, 3) := by decide +kernel
theorem dX1_parseData_12 : decode cX1_parseData 12 = .ok (.iload_n 2, 1) := by decide +kernel
theorem dX1_parseData_13 : decode cX1_parseData 13 = .ok (.iconst 5, 1) := by decide +kernel
theorem dX1_parseData_14 : decode cX1_parseData 14 = .ok (.if_icmp .lt 5, 3) := by decide +kernel
theorem dX1_parseData_17 : decode cX1_parseData 17 = .ok (.iconst 0, 1) := by decide +kernel
theorem dX1_parseData_18 : decode cX1_parseData 18 = .ok (.ireturn, 1) := by decide +kernel
theorem dX1_parseData_19 : decode cX1_parseData 19 = .ok (.aload_n 0, 1) := by decide +kernel
theorem dX1_parseData_20 : decode cX1_parseData 20 = .ok (.dup, 1) := by decide +kernel
theorem dX1_parseData_21 : decode cX1_parseData 21 = .ok (.getfield 19, 3) := by decide +kernel
theorem dX1_parseData_24 : decode cX1_parseData 24 = .ok (.iload_n 1, 1) := by decide +kernel
theorem dX1_parseData_25 : decode cX1_parseData 25 = .ok (.iconst 4, 1) := by decide +kernel
theorem dX1_parseData_26 : decode cX1_parseData 26 = .ok (.iload_n 2, 1) := by decide +kernel
theorem dX1_parseData_27 : decode cX1_parseData 27 = .ok (.imul, 1) := by decide +kernel
theorem dX1_parseData_28 : decode cX1_parseData 28 = .ok (.ishl, 1) := by decide +kernel
theorem dX1_parseData_29 : decode cX1_parseData 29 = .ok (.ixor, 1) := by decide +kernel
theorem dX1_parseData_30 : decode cX1_parseData 30 = .ok (.putfield 19, 3) := by decide +kernel
theorem dX1_parseData_33 : decode cX1_parseData 33 = .ok (.aload_n 0, 1) := by decide +kernel
theorem dX1_parseData_34 : decode cX1_parseData 34 = .ok (.dup, 1) := by decide +kernel
theorem dX1_parseData_35 : decode cX1_parseData 35 = .ok (.getfield 22, 3) := by decide +kernel
theorem dX1_parseData_38 : decode cX1_parseData 38 = .ok (.iconst 1, 1) := by decide +kernel
theorem dX1_parseData_39 : decode cX1_parseData 39 = .ok (.iadd, 1) := by decide +kernel
theorem dX1_parseData_40 : decode cX1_parseData 40 = .ok (.putfield 22, 3) := by decide +kernel
theorem dX1_parseData_43 : decode cX1_parseData 43 = .ok (.iconst 1, 1) := by decide +kernel
theorem dX1_parseData_44 : decode cX1_parseData 44 = .ok (.ireturn, 1) := by decide +kernel
theorem dX1_next_0 : decode cX1_next 0 = .ok (.aload_n 0, 1) := by decide +kernel
theorem dX1_next_1 : decode cX1_next 1 = .ok (.getfield 22, 3) := by decide +kernel
theorem dX1_next_4 : decode cX1_next 4 = .ok (.ifCond .lt 38, 3) := by decide +kernel
theorem dX1_next_7 : decode cX1_next 7 = .ok (.aload_n 0, 1) := by decide +kernel
theorem dX1_next_8 : decode cX1_next 8 = .ok (.getfield 22, 3) := by decide +kernel
theorem dX1_next_11 : decode cX1_next 11 = .ok (.aload_n 0, 1) := by decide +kernel
theorem dX1_next_12 : decode cX1_next 12 = .ok (.getfield 15, 3) := by decide +kernel
theorem dX1_next_15 : decode cX1_next 15 = .ok (.if_icmp .ge 27, 3) := by decide +kernel
theorem dX1_next_18 : decode cX1_next 18 = .ok (.aload_n 0, 1) := by decide +kernel
theorem dX1_next_19 : decode cX1_next 19 = .ok (.getfield 22, 3) := by decide +kernel
theorem dX1_next_22 : decode cX1_next 22 = .ok (.aload_n 0, 1) := by decide +kernel
theorem dX1_next_23 : decode cX1_next 23 = .ok (.getfield 11, 3) := by decide +kernel
theorem dX1_next_26 : decode cX1_next 26 = .ok (.arraylength, 1) := by decide +kernel
theorem dX1_next_27 : decode cX1_next 27 = .ok (.if_icmp .ge 15, 3) := by decide +kernel
theorem dX1_next_30 : decode cX1_next 30 = .ok (.aload_n 0, 1) := by decide +kernel
theorem dX1_next_31 : decode cX1_next 31 = .ok (.getfield 11, 3) := by decide +kernel
theorem dX1_next_34 : decode cX1_next 34 = .ok (.aload_n 0, 1) := by decide +kernel
theorem dX1_next_35 : decode cX1_next 35 = .ok (.getfield 22, 3) := by decide +kernel
theorem dX1_next_38 : decode cX1_next 38 = .ok (.caload, 1) := by decide +kernel
theorem dX1_next_39 : decode cX1_next 39 = .ok (.goto 4, 3) := by decide +kernel
theorem dX1_next_42 : decode cX1_next 42 = .ok (.iconst (-1), 1) := by decide +kernel
theorem dX1_next_43 : decode cX1_next 43 = .ok (.ireturn, 1) := by decide +kernel
theorem dX1_skip_0 : decode cX1_skip 0 = .ok (.aload_n 0, 1) := by decide +kernel
theorem dX1_skip_1 : decode cX1_skip 1 = .ok (.invokevirtual 36, 3) := by decide +kernel
theorem dX1_skip_4 : decode cX1_skip 4 = .ok (.iload_n 1, 1) := by decide +kernel
theorem dX1_skip_5 : decode cX1_skip 5 = .ok (.if_icmp .eq 5, 3) := by decide +kernel
theorem dX1_skip_8 : decode cX1_skip 8 = .ok (.iconst 0, 1) := by decide +kernel
theorem dX1_skip_9 : decode cX1_skip 9 = .ok (.ireturn, 1) := by decide +kernel
theorem dX1_skip_10 : decode cX1_skip 10 = .ok (.aload_n 0, 1) := by decide +kernel
theorem dX1_skip_11 : decode cX1_skip 11 = .ok (.dup, 1) := by decide +kernel
theorem dX1_skip_12 : decode cX1_skip 12 = .ok (.getfield 22, 3) := by decide +kernel
theorem dX1_skip_15 : decode cX1_skip 15 = .ok (.iconst 1, 1) := by decide +kernel
theorem dX1_skip_16 : decode cX1_skip 16 = .ok (.iadd, 1) := by decide +kernel
theorem dX1_skip_17 : decode cX1_skip 17 = .ok (.putfield 22, 3) := by decide +kernel
theorem dX1_skip_20 : decode cX1_skip 20 = .ok (.iconst 1, 1) := by decide +kernel
theorem dX1_skip_21 : decode cX1_skip 21 = .ok (.ireturn, 1) := by decide +kernel
theorem dX1_hexadecimal_0 : decode cX1_hexadecimal 0 = .ok (.iload_n 0, 1) := by decide +kernel
theorem dX1_hexadecimal_1 : decode cX1_hexadecimal 1 = .ok (.bipush 48, 2) := by decide +kernel
theorem dX1_hexadecimal_3 : decode cX1_hexadecimal 3 = .ok (.if_icmp .lt 14, 3) := by decide +kernel
theorem dX1_hexadecimal_6 : decode cX1_hexadecimal 6 = .ok (.iload_n 0, 1) := by decide +kernel
theorem dX1_hexadecimal_7 : decode cX1_hexadecimal 7 = .ok (.bipush 57, 2) := by decide +kernel
theorem dX1_hexadecimal_9 : decode cX1_hexadecimal 9 = .ok (.if_icmp .gt 8, 3) := by decide +kernel
theorem dX1_hexadecimal_12 : decode cX1_hexadecimal 12 = .ok (.iload_n 0, 1) := by decide +kernel
theorem dX1_hexadecimal_13 : decode cX1_hexadecimal 13 = .ok (.bipush 48, 2) := by decide +kernel
theorem dX1_hexadecimal_15 : decode cX1_hexadecimal 15 = .ok (.isub, 1) := by decide +kernel
theorem dX1_hexadecimal_16 : decode cX1_hexadecimal 16 = .ok (.ireturn, 1) := by decide +kernel
theorem dX1_hexadecimal_17 : decode cX1_hexadecimal 17 = .ok (.iload_n 0, 1) := by decide +kernel
theorem dX1_hexadecimal_18 : decode cX1_hexadecimal 18 = .ok (.bipush 97, 2) := by decide +kernel
theorem dX1_hexadecimal_20 : decode cX1_hexadecimal 20 = .ok (.if_icmp .lt 19, 3) := by decide +kernel
theorem dX1_hexadecimal_23 : decode cX1_hexadecimal 23 = .ok (.iload_n 0, 1) := by decide +kernel
theorem dX1_hexadecimal_24 : decode cX1_hexadecimal 24 = .ok (.bipush 102, 2) := by decide +kernel
theorem dX1_hexadecimal_26 : decode cX1_hexadecimal 26 = .ok (.if_icmp .gt 13, 3) := by decide +kernel
theorem dX1_hexadecimal_29 : decode cX1_hexadecimal 29 = .ok (.iload_n 0, 1) := by decide +kernel
theorem dX1_hexadecimal_30 : decode cX1_hexadecimal 30 = .ok (.bipush 97, 2) := by decide +kernel
theorem dX1_hexadecimal_32 : decode cX1_hexadecimal 32 = .ok (.isub, 1) := by decide +kernel
theorem dX1_hexadecimal_33 : decode cX1_hexadecimal 33 = .ok (.bipush 10, 2) := by decide +kernel
theorem dX1_hexadecimal_35 : decode cX1_hexadecimal 35 = .ok (.iadd, 1) := by decide +kernel
theorem dX1_hexadecimal_36 : decode cX1_hexadecimal 36 = .ok (.goto 4, 3) := by decide +kernel
theorem dX1_hexadecimal_39 : decode cX1_hexadecimal 39 = .ok (.iconst (-1), 1) := by decide +kernel
theorem dX1_hexadecimal_40 : decode cX1_hexadecimal 40 = .ok (.ireturn, 1) := by decide +kernel
theorem dX2_init_0 : decode cX2_init 0 = .ok (.aload_n 0, 1) := by decide +kernel
theorem dX2_init_1 : decode cX2_init 1 = .ok (.invokespecial 3, 3) := by decide +kernel
theorem dX2_init_4 : decode cX2_init 4 = .ok (.aload_n 0, 1) := by decide +kernel
theorem dX2_init_5 : decode cX2_init 5 = .ok (.aload_n 1, 1) := by decide +kernel
theorem dX2_init_6 : decode cX2_init 6 = .ok (.putfield 9, 3) := by decide +kernel
theorem dX2_init_9 : decode cX2_init 9 = .ok (.aload_n 0, 1) := by decide +kernel
theorem dX2_init_10 : decode cX2_init 10 = .ok (.sipush 1024, 3) := by decide +kernel
theorem dX2_init_13 : decode cX2_init 13 = .ok (.newarray .int, 2) := by decide +kernel
theorem dX2_init_15 : decode cX2_init 15 = .ok (.putfield 15, 3) := by decide +kernel
theorem dX2_init_18 : decode cX2_init 18 = .ok (.return_, 1) := by decide +kernel
theorem dX2_helpOf_0 : decode cX2_helpOf 0 = .ok (.aload_n 1, 1) := by decide +kernel
theorem dX2_helpOf_1 : decode cX2_helpOf 1 = .ok (.invokevirtual 19, 3) := by decide +kernel
theorem dX2_helpOf_4 : decode cX2_helpOf 4 = .ok (.iconst 1, 1) := by decide +kernel
theorem dX2_helpOf_5 : decode cX2_helpOf 5 = .ok (.iload_n 2, 1) := by decide +kernel
theorem dX2_helpOf_6 : decode cX2_helpOf 6 = .ok (.ishl, 1) := by decide +kernel
theorem dX2_helpOf_7 : decode cX2_helpOf 7 = .ok (.iconst (-1), 1) := by decide +kernel
theorem dX2_helpOf_8 : decode cX2_helpOf 8 = .ok (.ixor, 1) := by decide +kernel
theorem dX2_helpOf_9 : decode cX2_helpOf 9 = .ok (.iand, 1) := by decide +kernel
theorem dX2_helpOf_10 : decode cX2_helpOf 10 = .ok (.istore_n 3, 1) := by decide +kernel
theorem dX2_helpOf_11 : decode cX2_helpOf 11 = .ok (.aload_n 0, 1) := by decide +kernel
theorem dX2_helpOf_12 : decode cX2_helpOf 12 = .ok (.getfield 9, 3) := by decide +kernel
theorem dX2_helpOf_15 : decode cX2_helpOf 15 = .ok (.iload_n 3, 1) := by decide +kernel
theorem dX2_helpOf_16 : decode cX2_helpOf 16 = .ok (.iload_n 2, 1) := by decide +kernel
theorem dX2_helpOf_17 : decode cX2_helpOf 17 = .ok (.invokevirtual 25, 3) := by decide +kernel
theorem dX2_helpOf_20 : decode cX2_helpOf 20 = .ok (.ifCond .ne 6, 3) := by decide +kernel
theorem dX2_helpOf_23 : decode cX2_helpOf 23 = .ok (.bipush (-5), 2) := by decide +kernel
theorem dX2_helpOf_25 : decode cX2_helpOf 25 = .ok (.ireturn, 1) := by decide +kernel
theorem dX2_helpOf_26 : decode cX2_helpOf 26 = .ok (.aload_n 0, 1) := by decide +kernel
theorem dX2_helpOf_27 : decode cX2_helpOf 27 = .ok (.aload_n 1, 1) := by decide +kernel
theorem dX2_helpOf_28 : decode cX2_helpOf 28 = .ok (.invokevirtual 31, 3) := by decide +kernel
theorem dX2_helpOf_31 : decode cX2_helpOf 31 = .ok (.iload_n 3, 1) := by decide +kernel
theorem dX2_helpOf_32 : decode cX2_helpOf 32 = .ok (.istore 4, 2) := by decide +kernel
theorem dX2_helpOf_34 : decode cX2_helpOf 34 = .ok (.iload_n 3, 1) := by decide +kernel
theorem dX2_helpOf_35 : decode cX2_helpOf 35 = .ok (.istore 5, 2) := by decide +kernel
theorem dX2_helpOf_37 : decode cX2_helpOf 37 = .ok (.iload 5, 2) := by decide +kernel
theorem dX2_helpOf_39 : decode cX2_helpOf 39 = .ok (.ifCond .lt 64, 3) := by decide +kernel
theorem dX2_helpOf_42 : decode cX2_helpOf 42 = .ok (.iload 5, 2) := by decide +kernel
theorem dX2_helpOf_44 : decode cX2_helpOf 44 = .ok (.iload_n 3, 1) := by decide +kernel
theorem dX2_helpOf_45 : decode cX2_helpOf 45 = .ok (.iconst (-1), 1) := by decide +kernel
theorem dX2_helpOf_46 : decode cX2_helpOf 46 = .ok (.ixor, 1) := by decide +kernel
theorem dX2_helpOf_47 : decode cX2_helpOf 47 = .ok (.iand, 1) := by decide +kernel
theorem dX2_helpOf_48 : decode cX2_helpOf 48 = .ok (.ifCond .ne 7, 3) := by decide +kernel
theorem dX2_helpOf_51 : decode cX2_helpOf 51 = .ok (.iconst 1, 1) := by decide +kernel
theorem dX2_helpOf_52 : decode cX2_helpOf 52 = .ok (.goto 4, 3) := by decide +kernel
theorem dX2_helpOf_55 : decode cX2_helpOf 55 = .ok (.iconst 0, 1) := by decide +kernel
theorem dX2_helpOf_56 : decode cX2_helpOf 56 = .ok (.istore 6, 2) := by decide +kernel
theorem dX2_helpOf_58 : decode cX2_helpOf 58 = .ok (.iload 6, 2) := by decide +kernel
theorem dX2_helpOf_60 : decode cX2_helpOf 60 = .ok (.ifCond .eq 37, 3) := by decide +kernel
theorem dX2_helpOf_63 : decode cX2_helpOf 63 = .ok (.aload_n 0, 1) := by decide +kernel
theorem dX2_helpOf_64 : decode cX2_helpOf 64 = .ok (.getfield 15, 3) := by decide +kernel
theorem dX2_helpOf_67 : decode cX2_helpOf 67 = .ok (.iload 5, 2) := by decide +kernel
theorem dX2_helpOf_69 : decode cX2_helpOf 69 = .ok (.iaload, 1) := by decide +kernel
theorem dX2_helpOf_70 : decode cX2_helpOf 70 = .ok (.aload_n 0, 1) := by decide +kernel
theorem dX2_helpOf_71 : decode cX2_helpOf 71 = .ok (.getfield 15, 3) := by decide +kernel
theorem dX2_helpOf_74 : decode cX2_helpOf 74 = .ok (.iload 4, 2) := by decide +kernel
theorem dX2_helpOf_76 : decode cX2_helpOf 76 = .ok (.iaload, 1) := by decide +kernel
theorem dX2_helpOf_77 : decode cX2_helpOf 77 = .ok (.if_icmp .gt 20, 3) := by decide +kernel
theorem dX2_helpOf_80 : decode cX2_helpOf 80 = .ok (.aload_n 0, 1) := by decide +kernel
theorem dX2_helpOf_81 : decode cX2_helpOf 81 = .ok (.getfield 9, 3) := by decide +kernel
theorem dX2_helpOf_84 : decode cX2_helpOf 84 = .ok (.iload 5, 2) := by decide +kernel
theorem dX2_helpOf_86 : decode cX2_helpOf 86 = .ok (.iload_n 2, 1) := by decide +kernel
theorem dX2_helpOf_87 : decode cX2_helpOf 87 = .ok (.invokevirtual 25, 3) := by decide +kernel
theorem dX2_helpOf_90 : decode cX2_helpOf 90 = .ok (.ifCond .eq 7, 3) := by decide +kernel
theorem dX2_helpOf_93 : decode cX2_helpOf 93 = .ok (.iload 5, 2) := by decide +kernel
theorem dX2_helpOf_95 : decode cX2_helpOf 95 = .ok (.istore 4, 2) := by decide +kernel
theorem dX2_helpOf_97 : decode cX2_helpOf 97 = .ok (.iinc 5 (-1), 3) := by decide +kernel
theorem dX2_helpOf_100 : decode cX2_helpOf 100 = .ok (.goto (-63), 3) := by decide +kernel
theorem dX2_helpOf_103 : decode cX2_helpOf 103 = .ok (.iload 4, 2) := by decide +kernel
theorem dX2_helpOf_105 : decode cX2_helpOf 105 = .ok (.ireturn, 1) := by decide +kernel
theorem dX2_weigh_0 : decode cX2_weigh 0 = .ok (.iconst 0, 1) := by decide +kernel
theorem dX2_weigh_1 : decode cX2_weigh 1 = .ok (.istore_n 2, 1) := by decide +kernel
theorem dX2_weigh_2 : decode cX2_weigh 2 = .ok (.iload_n 2, 1) := by decide +kernel
theorem dX2_weigh_3 : decode cX2_weigh 3 = .ok (.aload_n 1, 1) := by decide +kernel
theorem dX2_weigh_4 : decode cX2_weigh 4 = .ok (.getfield 35, 3) := by decide +kernel
theorem dX2_weigh_7 : decode cX2_weigh 7 = .ok (.if_icmp .ge 54, 3) := by decide +kernel
theorem dX2_weigh_10 : decode cX2_weigh 10 = .ok (.iconst 1, 1) := by decide +kernel
theorem dX2_weigh_11 : decode cX2_weigh 11 = .ok (.iload_n 2, 1) := by decide +kernel
theorem dX2_weigh_12 : decode cX2_weigh 12 = .ok (.ishl, 1) := by decide +kernel
theorem dX2_weigh_13 : decode cX2_weigh 13 = .ok (.istore_n 3, 1) := by decide +kernel
theorem dX2_weigh_14 : decode cX2_weigh 14 = .ok (.aload_n 1, 1) := by decide +kernel
theorem dX2_weigh_15 : decode cX2_weigh 15 = .ok (.iload_n 2, 1) := by decide +kernel
theorem dX2_weigh_16 : decode cX2_weigh 16 = .ok (.invokevirtual 39, 3) := by decide +kernel
theorem dX2_weigh_19 : decode cX2_weigh 19 = .ok (.istore 4, 2) := by decide +kernel
theorem dX2_weigh_21 : decode cX2_weigh 21 = .ok (.iconst 0, 1) := by decide +kernel
theorem dX2_weigh_22 : decode cX2_weigh 22 = .ok (.istore 5, 2) := by decide +kernel
theorem dX2_weigh_24 : decode cX2_weigh 24 = .ok (.iload 5, 2) := by decide +kernel
theorem dX2_weigh_26 : decode cX2_weigh 26 = .ok (.iload_n 3, 1) := by decide +kernel
theorem dX2_weigh_27 : decode cX2_weigh 27 = .ok (.if_icmp .ge 28, 3) := by decide +kernel
theorem dX2_weigh_30 : decode cX2_weigh 30 = .ok (.aload_n 0, 1) := by decide +kernel
theorem dX2_weigh_31 : decode cX2_weigh 31 = .ok (.getfield 15, 3) := by decide +kernel
theorem dX2_weigh_34 : decode cX2_weigh 34 = .ok (.iload 5, 2) := by decide +kernel
theorem dX2_weigh_36 : decode cX2_weigh 36 = .ok (.iload_n 3, 1) := by decide +kernel
theorem dX2_weigh_37 : decode cX2_weigh 37 = .ok (.ior, 1) := by decide +kernel
theorem dX2_weigh_38 : decode cX2_weigh 38 = .ok (.aload_n 0, 1) := by decide +kernel
theorem dX2_weigh_39 : decode cX2_weigh 39 = .ok (.getfield 15, 3) := by decide +kernel
theorem dX2_weigh_42 : decode cX2_weigh 42 = .ok (.iload 5, 2) := by decide +kernel
theorem dX2_weigh_44 : decode cX2_weigh 44 = .ok (.iaload, 1) := by decide +kernel
theorem dX2_weigh_45 : decode cX2_weigh 45 = .ok (.iload 4, 2) := by decide +kernel
theorem dX2_weigh_47 : decode cX2_weigh 47 = .ok (.iadd, 1) := by decide +kernel
theorem dX2_weigh_48 : decode cX2_weigh 48 = .ok (.iastore, 1) := by decide +kernel
theorem dX2_weigh_49 : decode cX2_weigh 49 = .ok (.iinc 5 1, 3) := by decide +kernel
theorem dX2_weigh_52 : decode cX2_weigh 52 = .ok (.goto (-28), 3) := by decide +kernel
theorem dX2_weigh_55 : decode cX2_weigh 55 = .ok (.iinc 2 1, 3) := by decide +kernel
theorem dX2_weigh_58 : decode cX2_weigh 58 = .ok (.goto (-56), 3) := by decide +kernel
theorem dX2_weigh_61 : decode cX2_weigh 61 = .ok (.return_, 1) := by decide +kernel
theorem dX2_bringBack_0 : decode cX2_bringBack 0 = .ok (.aload_n 1, 1) := by decide +kernel
theorem dX2_bringBack_1 : decode cX2_bringBack 1 = .ok (.iload_n 2, 1) := by decide +kernel
theorem dX2_bringBack_2 : decode cX2_bringBack 2 = .ok (.invokevirtual 43, 3) := by decide +kernel
theorem dX2_bringBack_5 : decode cX2_bringBack 5 = .ok (.ifCond .ne 6, 3) := by decide +kernel
theorem dX2_bringBack_8 : decode cX2_bringBack 8 = .ok (.bipush (-5), 2) := by decide +kernel
theorem dX2_bringBack_10 : decode cX2_bringBack 10 = .ok (.ireturn, 1) := by decide +kernel
theorem dX2_bringBack_11 : decode cX2_bringBack 11 = .ok (.aload_n 0, 1) := by decide +kernel
theorem dX2_bringBack_12 : decode cX2_bringBack 12 = .ok (.aload_n 1, 1) := by decide +kernel
theorem dX2_bringBack_13 : decode cX2_bringBack 13 = .ok (.iload_n 2, 1) := by decide +kernel
theorem dX2_bringBack_14 : decode cX2_bringBack 14 = .ok (.invokevirtual 47, 3) := by decide +kernel
theorem dX2_bringBack_17 : decode cX2_bringBack 17 = .ok (.istore_n 3, 1) := by decide +kernel
theorem dX2_bringBack_18 : decode cX2_bringBack 18 = .ok (.iload_n 3, 1) := by decide +kernel
theorem dX2_bringBack_19 : decode cX2_bringBack 19 = .ok (.bipush (-5), 2) := by decide +kernel
theorem dX2_bringBack_21 : decode cX2_bringBack 21 = .ok (.if_icmp .ne 6, 3) := by decide +kernel
theorem dX2_bringBack_24 : decode cX2_bringBack 24 = .ok (.bipush (-5), 2) := by decide +kernel
theorem dX2_bringBack_26 : decode cX2_bringBack 26 = .ok (.ireturn, 1) := by decide +kernel
theorem dX2_bringBack_27 : decode cX2_bringBack 27 = .ok (.aload_n 1, 1) := by decide +kernel
theorem dX2_bringBack_28 : decode cX2_bringBack 28 = .ok (.iload_n 3, 1) := by decide +kernel
theorem dX2_bringBack_29 : decode cX2_bringBack 29 = .ok (.invokevirtual 51, 3) := by decide +kernel
theorem dX2_bringBack_32 : decode cX2_bringBack 32 = .ok (.istore 4, 2) := by decide +kernel
theorem dX2_bringBack_34 : decode cX2_bringBack 34 = .ok (.aload_n 1, 1) := by decide +kernel
theorem dX2_bringBack_35 : decode cX2_bringBack 35 = .ok (.dup, 1) := by decide +kernel
theorem dX2_bringBack_36 : decode cX2_bringBack 36 = .ok (.getfield 54, 3) := by decide +kernel
theorem dX2_bringBack_39 : decode cX2_bringBack 39 = .ok (.iconst 1, 1) := by decide +kernel
theorem dX2_bringBack_40 : decode cX2_bringBack 40 = .ok (.iload_n 2, 1) := by decide +kernel
theorem dX2_bringBack_41 : decode cX2_bringBack 41 = .ok (.ishl, 1) := by decide +kernel
theorem dX2_bringBack_42 : decode cX2_bringBack 42 = .ok (.iconst (-1), 1) := by decide +kernel
theorem dX2_bringBack_43 : decode cX2_bringBack 43 = .ok (.ixor, 1) := by decide +kernel
theorem dX2_bringBack_44 : decode cX2_bringBack 44 = .ok (.iand, 1) := by decide +kernel
theorem dX2_bringBack_45 : decode cX2_bringBack 45 = .ok (.putfield 54, 3) := by decide +kernel
theorem dX2_bringBack_48 : decode cX2_bringBack 48 = .ok (.aload_n 1, 1) := by decide +kernel
theorem dX2_bringBack_49 : decode cX2_bringBack 49 = .ok (.iload_n 3, 1) := by decide +kernel
theorem dX2_bringBack_50 : decode cX2_bringBack 50 = .ok (.invokevirtual 57, 3) := by decide +kernel
theorem dX2_bringBack_53 : decode cX2_bringBack 53 = .ok (.iload 4, 2) := by decide +kernel
theorem dX2_bringBack_55 : decode cX2_bringBack 55 = .ok (.ireturn, 1) := by decide +kernel
theorem dX3_init_0 : decode cX3_init 0 = .ok (.aload_n 0, 1) := by decide +kernel
theorem dX3_init_1 : decode cX3_init 1 = .ok (.invokespecial 3, 3) := by decide +kernel
theorem dX3_init_4 : decode cX3_init 4 = .ok (.aload_n 0, 1) := by decide +kernel
theorem dX3_init_5 : decode cX3_init 5 = .ok (.iconst 0, 1) := by decide +kernel
theorem dX3_init_6 : decode cX3_init 6 = .ok (.putfield 9, 3) := by decide +kernel
theorem dX3_init_9 : decode cX3_init 9 = .ok (.aload_n 0, 1) := by decide +kernel
theorem dX3_init_10 : decode cX3_init 10 = .ok (.iconst 0, 1) := by decide +kernel
theorem dX3_init_11 : decode cX3_init 11 = .ok (.putfield 15, 3) := by decide +kernel
theorem dX3_init_14 : decode cX3_init 14 = .ok (.aload_n 0, 1) := by decide +kernel
theorem dX3_init_15 : decode cX3_init 15 = .ok (.iconst 0, 1) := by decide +kernel
theorem dX3_init_16 : decode cX3_init 16 = .ok (.putfield 18, 3) := by decide +kernel
theorem dX3_init_19 : decode cX3_init 19 = .ok (.aload_n 0, 1) := by decide +kernel
theorem dX3_init_20 : decode cX3_init 20 = .ok (.iconst 0, 1) := by decide +kernel
theorem dX3_init_21 : decode cX3_init 21 = .ok (.putfield 21, 3) := by decide +kernel
theorem dX3_init_24 : decode cX3_init 24 = .ok (.aload_n 0, 1) := by decide +kernel
theorem dX3_init_25 : decode cX3_init 25 = .ok (.bipush 10, 2) := by decide +kernel
theorem dX3_init_27 : decode cX3_init 27 = .ok (.newarray .int, 2) := by decide +kernel
theorem dX3_init_29 : decode cX3_init 29 = .ok (.putfield 24, 3) := by decide +kernel
theorem dX3_init_32 : decode cX3_init 32 = .ok (.aload_n 0, 1) := by decide +kernel
theorem dX3_init_33 : decode cX3_init 33 = .ok (.bipush 10, 2) := by decide +kernel
theorem dX3_init_35 : decode cX3_init 35 = .ok (.newarray .int, 2) := by decide +kernel
theorem dX3_init_37 : decode cX3_init 37 = .ok (.putfield 28, 3) := by decide +kernel
theorem dX3_init_40 : decode cX3_init 40 = .ok (.aload_n 0, 1) := by decide +kernel
theorem dX3_init_41 : decode cX3_init 41 = .ok (.bipush 10, 2) := by decide +kernel
theorem dX3_init_43 : decode cX3_init 43 = .ok (.newarray .int, 2) := by decide +kernel
theorem dX3_init_45 : decode cX3_init 45 = .ok (.putfield 31, 3) := by decide +kernel
theorem dX3_init_48 : decode cX3_init 48 = .ok (.aload_n 0, 1) := by decide +kernel
theorem dX3_init_49 : decode cX3_init 49 = .ok (.bipush 10, 2) := by decide +kernel
theorem dX3_init_51 : decode cX3_init 51 = .ok (.newarray .int, 2) := by decide +kernel
theorem dX3_init_53 : decode cX3_init 53 = .ok (.putfield 34, 3) := by decide +kernel
theorem dX3_init_56 : decode cX3_init 56 = .ok (.aload_n 0, 1) := by decide +kernel
theorem dX3_init_57 : decode cX3_init 57 = .ok (.bipush 10, 2) := by decide +kernel
theorem dX3_init_59 : decode cX3_init 59 = .ok (.newarray .int, 2) := by decide +kernel
theorem dX3_init_61 : decode cX3_init 61 = .ok (.putfield 37, 3) := by decide +kernel
theorem dX3_init_64 : decode cX3_init 64 = .ok (.aload_n 0, 1) := by decide +kernel
theorem dX3_init_65 : decode cX3_init 65 = .ok (.bipush 10, 2) := by decide +kernel
theorem dX3_init_67 : decode cX3_init 67 = .ok (.iconst 4, 1) := by decide +kernel
theorem dX3_init_68 : decode cX3_init 68 = .ok (.multianewarray 40 2, 4) := by decide +kernel
theorem dX3_init_72 : decode cX3_init 72 = .ok (.putfield 42, 3) := by decide +kernel
theorem dX3_init_75 : decode cX3_init 75 = .ok (.aload_n 0, 1) := by decide +kernel
theorem dX3_init_76 : decode cX3_init 76 = .ok (.iconst 5, 1) := by decide +kernel
theorem dX3_init_77 : decode cX3_init 77 = .ok (.newarray .int, 2) := by decide +kernel
theorem dX3_init_79 : decode cX3_init 79 = .ok (.putfield 45, 3) := by decide +kernel
theorem dX3_init_82 : decode cX3_init 82 = .ok (.aload_n 0, 1) := by decide +kernel
theorem dX3_init_83 : decode cX3_init 83 = .ok (.iconst 5, 1) := by decide +kernel
theorem dX3_init_84 : decode cX3_init 84 = .ok (.newarray .int, 2) := by decide +kernel
theorem dX3_init_86 : decode cX3_init 86 = .ok (.putfield 48, 3) := by decide +kernel
theorem dX3_init_89 : decode cX3_init 89 = .ok (.return_, 1) := by decide +kernel
theorem dX3_copyFrom_0 : decode cX3_copyFrom 0 = .ok (.aload_n 0, 1) := by decide +kernel
theorem dX3_copyFrom_1 : decode cX3_copyFrom 1 = .ok (.aload_n 1, 1) := by decide +kernel
theorem dX3_copyFrom_2 : decode cX3_copyFrom 2 = .ok (.getfield 9, 3) := by decide +kernel
theorem dX3_copyFrom_5 : decode cX3_copyFrom 5 = .ok (.putfield 9, 3) := by decide +kernel
theorem dX3_copyFrom_8 : decode cX3_copyFrom 8 = .ok (.aload_n 0, 1) := by decide +kernel
theorem dX3_copyFrom_9 : decode cX3_copyFrom 9 = .ok (.aload_n 1, 1) := by decide +kernel
theorem dX3_copyFrom_10 : decode cX3_copyFrom 10 = .ok (.getfield 15, 3) := by decide +kernel
theorem dX3_copyFrom_13 : decode cX3_copyFrom 13 = .ok (.putfield 15, 3) := by decide +kernel
theorem dX3_copyFrom_16 : decode cX3_copyFrom 16 = .ok (.aload_n 0, 1) := by decide +kernel
theorem dX3_copyFrom_17 : decode cX3_copyFrom 17 = .ok (.aload_n 1, 1) := by decide +kernel
theorem dX3_copyFrom_18 : decode cX3_copyFrom 18 = .ok (.getfield 18, 3) := by decide +kernel
theorem dX3_copyFrom_21 : decode cX3_copyFrom 21 = .ok (.putfield 18, 3) := by decide +kernel
theorem dX3_copyFrom_24 : decode cX3_copyFrom 24 = .ok (.aload_n 0, 1) := by decide +kernel
theorem dX3_copyFrom_25 : decode cX3_copyFrom 25 = .ok (.aload_n 1, 1) := by decide +kernel
theorem dX3_copyFrom_26 : decode cX3_copyFrom 26 = .ok (.getfield 21, 3) := by decide +kernel
theorem dX3_copyFrom_29 : decode cX3_copyFrom 29 = .ok (.putfield 21, 3) := by decide +kernel
theorem dX3_copyFrom_32 : decode cX3_copyFrom 32 = .ok (.aload_n 1, 1) := by decide +kernel
theorem dX3_copyFrom_33 : decode cX3_copyFrom 33 = .ok (.getfield 24, 3) := by decide +kernel
theorem dX3_copyFrom_36 : decode cX3_copyFrom 36 = .ok (.iconst 0, 1) := by decide +kernel
theorem dX3_copyFrom_37 : decode cX3_copyFrom 37 = .ok (.aload_n 0, 1) := by decide +kernel
theorem dX3_copyFrom_38 : decode cX3_copyFrom 38 = .ok (.getfield 24, 3) := by decide +kernel
theorem dX3_copyFrom_41 : decode cX3_copyFrom 41 = .ok (.iconst 0, 1) := by decide +kernel
theorem dX3_copyFrom_42 : decode cX3_copyFrom 42 = .ok (.bipush 10, 2) := by decide +kernel
theorem dX3_copyFrom_44 : decode cX3_copyFrom 44 = .ok (.invokestatic 51, 3) := by decide +kernel
theorem dX3_copyFrom_47 : decode cX3_copyFrom 47 = .ok (.aload_n 1, 1) := by decide +kernel
theorem dX3_copyFrom_48 : decode cX3_copyFrom 48 = .ok (.getfield 28, 3) := by decide +kernel
theorem dX3_copyFrom_51 : decode cX3_copyFrom 51 = .ok (.iconst 0, 1) := by decide +kernel
theorem dX3_copyFrom_52 : decode cX3_copyFrom 52 = .ok (.aload_n 0, 1) := by decide +kernel
theorem dX3_copyFrom_53 : decode cX3_copyFrom 53 = .ok (.getfield 28, 3) := by decide +kernel
theorem dX3_copyFrom_56 : decode cX3_copyFrom 56 = .ok (.iconst 0, 1) := by decide +kernel
theorem dX3_copyFrom_57 : decode cX3_copyFrom 57 = .ok (.bipush 10, 2) := by decide +kernel
theorem dX3_copyFrom_59 : decode cX3_copyFrom 59 = .ok (.invokestatic 51, 3) := by decide +kernel
theorem dX3_copyFrom_62 : decode cX3_copyFrom 62 = .ok (.aload_n 1, 1) := by decide +kernel
theorem dX3_copyFrom_63 : decode cX3_copyFrom 63 = .ok (.getfield 31, 3) := by decide +kernel
theorem dX3_copyFrom_66 : decode cX3_copyFrom 66 = .ok (.iconst 0, 1) := by decide +kernel
theorem dX3_copyFrom_67 : decode cX3_copyFrom 67 = .ok (.aload_n 0, 1) := by decide +kernel
theorem dX3_copyFrom_68 : decode cX3_copyFrom 68 = .ok (.getfield 31, 3) := by decide +kernel
theorem dX3_copyFrom_71 : decode cX3_copyFrom 71 = .ok (.iconst 0, 1) := by decide +kernel
theorem dX3_copyFrom_72 : decode cX3_copyFrom 72 = .ok (.bipush 10, 2) := by decide +kernel
theorem dX3_copyFrom_74 : decode cX3_copyFrom 74 = .ok (.invokestatic 51, 3) := by decide +kernel
theorem dX3_copyFrom_77 : decode cX3_copyFrom 77 = .ok (.aload_n 1, 1) := by decide +kernel
theorem dX3_copyFrom_78 : decode cX3_copyFrom 78 = .ok (.getfield 34, 3) := by decide +kernel
theorem dX3_copyFrom_81 : decode cX3_copyFrom 81 = .ok (.iconst 0, 1) := by decide +kernel
theorem dX3_copyFrom_82 : decode cX3_copyFrom 82 = .ok (.aload_n 0, 1) := by decide +kernel
theorem dX3_copyFrom_83 : decode cX3_copyFrom 83 = .ok (.getfield 34, 3) := by decide +kernel
theorem dX3_copyFrom_86 : decode cX3_copyFrom 86 = .ok (.iconst 0, 1) := by decide +kernel
theorem dX3_copyFrom_87 : decode cX3_copyFrom 87 = .ok (.bipush 10, 2) := by decide +kernel
theorem dX3_copyFrom_89 : decode cX3_copyFrom 89 = .ok (.invokestatic 51, 3) := by decide +kernel
theorem dX3_copyFrom_92 : decode cX3_copyFrom 92 = .ok (.aload_n 1, 1) := by decide +kernel
theorem dX3_copyFrom_93 : decode cX3_copyFrom 93 = .ok (.getfield 37, 3) := by decide +kernel
theorem dX3_copyFrom_96 : decode cX3_copyFrom 96 = .ok (.iconst 0, 1) := by decide +kernel
theorem dX3_copyFrom_97 : decode cX3_copyFrom 97 = .ok (.aload_n 0, 1) := by decide +kernel
theorem dX3_copyFrom_98 : decode cX3_copyFrom 98 = .ok (.getfield 37, 3) := by decide +kernel
theorem dX3_copyFrom_101 : decode cX3_copyFrom 101 = .ok (.iconst 0, 1) := by decide +kernel
theorem dX3_copyFrom_102 : decode cX3_copyFrom 102 = .ok (.bipush 10, 2) := by decide +kernel
theorem dX3_copyFrom_104 : decode cX3_copyFrom 104 = .ok (.invokestatic 51, 3) := by decide +kernel
theorem dX3_copyFrom_107 : decode cX3_copyFrom 107 = .ok (.iconst 0, 1) := by decide +kernel
theorem dX3_copyFrom_108 : decode cX3_copyFrom 108 = .ok (.istore_n 2, 1) := by decide +kernel
theorem dX3_copyFrom_109 : decode cX3_copyFrom 109 = .ok (.iload_n 2, 1) := by decide +kernel
theorem dX3_copyFrom_110 : decode cX3_copyFrom 110 = .ok (.bipush 10, 2) := by decide +kernel
theorem dX3_copyFrom_112 : decode cX3_copyFrom 112 = .ok (.if_icmp .ge 27, 3) := by decide +kernel
theorem dX3_copyFrom_115 : decode cX3_copyFrom 115 = .ok (.aload_n 1, 1) := by decide +kernel
theorem dX3_copyFrom_116 : decode cX3_copyFrom 116 = .ok (.getfield 42, 3) := by decide +kernel
theorem dX3_copyFrom_119 : decode cX3_copyFrom 119 = .ok (.iload_n 2, 1) := by decide +kernel
theorem dX3_copyFrom_120 : decode cX3_copyFrom 120 = .ok (.aaload, 1) := by decide +kernel
theorem dX3_copyFrom_121 : decode cX3_copyFrom 121 = .ok (.iconst 0, 1) := by decide +kernel
theorem dX3_copyFrom_122 : decode cX3_copyFrom 122 = .ok (.aload_n 0, 1) := by decide +kernel
theorem dX3_copyFrom_123 : decode cX3_copyFrom 123 = .ok (.getfield 42, 3) := by decide +kernel
theorem dX3_copyFrom_126 : decode cX3_copyFrom 126 = .ok (.iload_n 2, 1) := by decide +kernel
theorem dX3_copyFrom_127 : decode cX3_copyFrom 127 = .ok (.aaload, 1) := by decide +kernel
theorem dX3_copyFrom_128 : decode cX3_copyFrom 128 = .ok (.iconst 0, 1) := by decide +kernel
theorem dX3_copyFrom_129 : decode cX3_copyFrom 129 = .ok (.iconst 4, 1) := by decide +kernel
theorem dX3_copyFrom_130 : decode cX3_copyFrom 130 = .ok (.invokestatic 51, 3) := by decide +kernel
theorem dX3_copyFrom_133 : decode cX3_copyFrom 133 = .ok (.iinc 2 1, 3) := by decide +kernel
theorem dX3_copyFrom_136 : decode cX3_copyFrom 136 = .ok (.goto (-27), 3) := by decide +kernel
theorem dX3_copyFrom_139 : decode cX3_copyFrom 139 = .ok (.aload_n 1, 1) := by decide +kernel
theorem dX3_copyFrom_140 : decode cX3_copyFrom 140 = .ok (.getfield 45, 3) := by decide +kernel
theorem dX3_copyFrom_143 : decode cX3_copyFrom 143 = .ok (.iconst 0, 1) := by decide +kernel
theorem dX3_copyFrom_144 : decode cX3_copyFrom 144 = .ok (.aload_n 0, 1) := by decide +kernel
theorem dX3_copyFrom_145 : decode cX3_copyFrom 145 = .ok (.getfield 45, 3) := by decide +kernel
theorem dX3_copyFrom_148 : decode cX3_copyFrom 148 = .ok (.iconst 0, 1) := by decide +kernel
theorem dX3_copyFrom_149 : decode cX3_copyFrom 149 = .ok (.iconst 5, 1) := by decide +kernel
theorem dX3_copyFrom_150 : decode cX3_copyFrom 150 = .ok (.invokestatic 51, 3) := by decide +kernel
theorem dX3_copyFrom_153 : decode cX3_copyFrom 153 = .ok (.aload_n 1, 1) := by decide +kernel
theorem dX3_copyFrom_154 : decode cX3_copyFrom 154 = .ok (.getfield 48, 3) := by decide +kernel
theorem dX3_copyFrom_157 : decode cX3_copyFrom 157 = .ok (.iconst 0, 1) := by decide +kernel
theorem dX3_copyFrom_158 : decode cX3_copyFrom 158 = .ok (.aload_n 0, 1) := by decide +kernel
theorem dX3_copyFrom_159 : decode cX3_copyFrom 159 = .ok (.getfield 48, 3) := by decide +kernel
theorem dX3_copyFrom_162 : decode cX3_copyFrom 162 = .ok (.iconst 0, 1) := by decide +kernel
theorem dX3_copyFrom_163 : decode cX3_copyFrom 163 = .ok (.iconst 5, 1) := by decide +kernel
theorem dX3_copyFrom_164 : decode cX3_copyFrom 164 = .ok (.invokestatic 51, 3) := by decide +kernel
theorem dX3_copyFrom_167 : decode cX3_copyFrom 167 = .ok (.return_, 1) := by decide +kernel
theorem dX3_addData_0 : decode cX3_addData 0 = .ok (.aload_n 0, 1) := by decide +kernel
theorem dX3_addData_1 : decode cX3_addData 1 = .ok (.getfield 15, 3) := by decide +kernel
theorem dX3_addData_4 : decode cX3_addData 4 = .ok (.iconst 5, 1) := by decide +kernel
theorem dX3_addData_5 : decode cX3_addData 5 = .ok (.if_icmp .lt 6, 3) := by decide +kernel
theorem dX3_addData_8 : decode cX3_addData 8 = .ok (.bipush (-4), 2) := by decide +kernel
theorem dX3_addData_10 : decode cX3_addData 10 = .ok (.ireturn, 1) := by decide +kernel
theorem dX3_addData_11 : decode cX3_addData 11 = .ok (.aload_n 0, 1) := by decide +kernel
theorem dX3_addData_12 : decode cX3_addData 12 = .ok (.iload_n 1, 1) := by decide +kernel
theorem dX3_addData_13 : decode cX3_addData 13 = .ok (.iload_n 2, 1) := by decide +kernel
theorem dX3_addData_14 : decode cX3_addData 14 = .ok (.aload_n 0, 1) := by decide +kernel
theorem dX3_addData_15 : decode cX3_addData 15 = .ok (.getfield 15, 3) := by decide +kernel
theorem dX3_addData_18 : decode cX3_addData 18 = .ok (.iconst 1, 1) := by decide +kernel
theorem dX3_addData_19 : decode cX3_addData 19 = .ok (.iconst 4, 1) := by decide +kernel
theorem dX3_addData_20 : decode cX3_addData 20 = .ok (.aload_n 0, 1) := by decide +kernel
theorem dX3_addData_21 : decode cX3_addData 21 = .ok (.getfield 15, 3) := by decide +kernel
theorem dX3_addData_24 : decode cX3_addData 24 = .ok (.imul, 1) := by decide +kernel
theorem dX3_addData_25 : decode cX3_addData 25 = .ok (.ishl, 1) := by decide +kernel
theorem dX3_addData_26 : decode cX3_addData 26 = .ok (.invokevirtual 57, 3) := by decide +kernel
theorem dX3_addData_29 : decode cX3_addData 29 = .ok (.istore_n 3, 1) := by decide +kernel
theorem dX3_addData_30 : decode cX3_addData 30 = .ok (.aload_n 0, 1) := by decide +kernel
theorem dX3_addData_31 : decode cX3_addData 31 = .ok (.dup, 1) := by decide +kernel
theorem dX3_addData_32 : decode cX3_addData 32 = .ok (.getfield 18, 3) := by decide +kernel
theorem dX3_addData_35 : decode cX3_addData 35 = .ok (.iconst 1, 1) := by decide +kernel
theorem dX3_addData_36 : decode cX3_addData 36 = .ok (.iload_n 3, 1) := by decide +kernel
theorem dX3_addData_37 : decode cX3_addData 37 = .ok (.ishl, 1) := by decide +kernel
theorem dX3_addData_38 : decode cX3_addData 38 = .ok (.ior, 1) := by decide +kernel
theorem dX3_addData_39 : decode cX3_addData 39 = .ok (.putfield 18, 3) := by decide +kernel
theorem dX3_addData_42 : decode cX3_addData 42 = .ok (.aload_n 0, 1) := by decide +kernel
theorem dX3_addData_43 : decode cX3_addData 43 = .ok (.getfield 45, 3) := by decide +kernel
theorem dX3_addData_46 : decode cX3_addData 46 = .ok (.aload_n 0, 1) := by decide +kernel
theorem dX3_addData_47 : decode cX3_addData 47 = .ok (.getfield 15, 3) := by decide +kernel
theorem dX3_addData_50 : decode cX3_addData 50 = .ok (.iload_n 3, 1) := by decide +kernel
theorem dX3_addData_51 : decode cX3_addData 51 = .ok (.iastore, 1) := by decide +kernel
theorem dX3_addData_52 : decode cX3_addData 52 = .ok (.aload_n 0, 1) := by decide +kernel
theorem dX3_addData_53 : decode cX3_addData 53 = .ok (.getfield 48, 3) := by decide +kernel
theorem dX3_addData_56 : decode cX3_addData 56 = .ok (.aload_n 0, 1) := by decide +kernel
theorem dX3_addData_57 : decode cX3_addData 57 = .ok (.getfield 15, 3) := by decide +kernel
theorem dX3_addData_60 : decode cX3_addData 60 = .ok (.iconst 0, 1) := by decide +kernel
theorem dX3_addData_61 : decode cX3_addData 61 = .ok (.iastore, 1) := by decide +kernel
theorem dX3_addData_62 : decode cX3_addData 62 = .ok (.aload_n 0, 1) := by decide +kernel
theorem dX3_addData_63 : decode cX3_addData 63 = .ok (.dup, 1) := by decide +kernel
theorem dX3_addData_64 : decode cX3_addData 64 = .ok (.getfield 15, 3) := by decide +kernel
theorem dX3_addData_67 : decode cX3_addData 67 = .ok (.iconst 1, 1) := by decide +kernel
theorem dX3_addData_68 : decode cX3_addData 68 = .ok (.iadd, 1) := by decide +kernel
theorem dX3_addData_69 : decode cX3_addData 69 = .ok (.putfield 15, 3) := by decide +kernel
theorem dX3_addData_72 : decode cX3_addData 72 = .ok (.iload_n 3, 1) := by decide +kernel
theorem dX3_addData_73 : decode cX3_addData 73 = .ok (.ireturn, 1) := by decide +kernel
theorem dX3_addParity_0 : decode cX3_addParity 0 = .ok (.aload_n 0, 1) := by decide +kernel
theorem dX3_addParity_1 : decode cX3_addParity 1 = .ok (.iload_n 1, 1) := by decide +kernel
theorem dX3_addParity_2 : decode cX3_addParity 2 = .ok (.iload_n 2, 1) := by decide +kernel
theorem dX3_addParity_3 : decode cX3_addParity 3 = .ok (.bipush (-5), 2) := by decide +kernel
theorem dX3_addParity_5 : decode cX3_addParity 5 = .ok (.iload_n 3, 1) := by decide +kernel
theorem dX3_addParity_6 : decode cX3_addParity 6 = .ok (.invokevirtual 57, 3) := by decide +kernel
theorem dX3_addParity_9 : decode cX3_addParity 9 = .ok (.ireturn, 1) := by decide +kernel
theorem dX3_add_0 : decode cX3_add 0 = .ok (.aload_n 0, 1) := by decide +kernel
theorem dX3_add_1 : decode cX3_add 1 = .ok (.getfield 9, 3) := by decide +kernel
theorem dX3_add_4 : decode cX3_add 4 = .ok (.bipush 10, 2) := by decide +kernel
theorem dX3_add_6 : decode cX3_add 6 = .ok (.if_icmp .lt 6, 3) := by decide +kernel
theorem dX3_add_9 : decode cX3_add 9 = .ok (.bipush (-4), 2) := by decide +kernel
theorem dX3_add_11 : decode cX3_add 11 = .ok (.ireturn, 1) := by decide +kernel
theorem dX3_add_12 : decode cX3_add 12 = .ok (.aload_n 0, 1) := by decide +kernel
theorem dX3_add_13 : decode cX3_add 13 = .ok (.getfield 9, 3) := by decide +kernel
theorem dX3_add_16 : decode cX3_add 16 = .ok (.istore 5, 2) := by decide +kernel
theorem dX3_add_18 : decode cX3_add 18 = .ok (.aload_n 0, 1) := by decide +kernel
theorem dX3_add_19 : decode cX3_add 19 = .ok (.getfield 24, 3) := by decide +kernel
theorem dX3_add_22 : decode cX3_add 22 = .ok (.iload 5, 2) := by decide +kernel
theorem dX3_add_24 : decode cX3_add 24 = .ok (.iload_n 1, 1) := by decide +kernel
theorem dX3_add_25 : decode cX3_add 25 = .ok (.iastore, 1) := by decide +kernel
theorem dX3_add_26 : decode cX3_add 26 = .ok (.aload_n 0, 1) := by decide +kernel
theorem dX3_add_27 : decode cX3_add 27 = .ok (.getfield 28, 3) := by decide +kernel
theorem dX3_add_30 : decode cX3_add 30 = .ok (.iload 5, 2) := by decide +kernel
theorem dX3_add_32 : decode cX3_add 32 = .ok (.iload_n 2, 1) := by decide +kernel
theorem dX3_add_33 : decode cX3_add 33 = .ok (.iastore, 1) := by decide +kernel
theorem dX3_add_34 : decode cX3_add 34 = .ok (.aload_n 0, 1) := by decide +kernel
theorem dX3_add_35 : decode cX3_add 35 = .ok (.getfield 31, 3) := by decide +kernel
theorem dX3_add_38 : decode cX3_add 38 = .ok (.iload 5, 2) := by decide +kernel
theorem dX3_add_40 : decode cX3_add 40 = .ok (.iload_n 3, 1) := by decide +kernel
theorem dX3_add_41 : decode cX3_add 41 = .ok (.iastore, 1) := by decide +kernel
theorem dX3_add_42 : decode cX3_add 42 = .ok (.aload_n 0, 1) := by decide +kernel
theorem dX3_add_43 : decode cX3_add 43 = .ok (.getfield 34, 3) := by decide +kernel
theorem dX3_add_46 : decode cX3_add 46 = .ok (.iload 5, 2) := by decide +kernel
theorem dX3_add_48 : decode cX3_add 48 = .ok (.iload 4, 2) := by decide +kernel
theorem dX3_add_50 : decode cX3_add 50 = .ok (.iastore, 1) := by decide +kernel
theorem dX3_add_51 : decode cX3_add 51 = .ok (.aload_n 0, 1) := by decide +kernel
theorem dX3_add_52 : decode cX3_add 52 = .ok (.getfield 37, 3) := by decide +kernel
theorem dX3_add_55 : decode cX3_add 55 = .ok (.iload 5, 2) := by decide +kernel
theorem dX3_add_57 : decode cX3_add 57 = .ok (.iconst 0, 1) := by decide +kernel
theorem dX3_add_58 : decode cX3_add 58 = .ok (.iastore, 1) := by decide +kernel
theorem dX3_add_59 : decode cX3_add 59 = .ok (.iconst 0, 1) := by decide +kernel
theorem dX3_add_60 : decode cX3_add 60 = .ok (.istore 6, 2) := by decide +kernel
theorem dX3_add_62 : decode cX3_add 62 = .ok (.iload 6, 2) := by decide +kernel
theorem dX3_add_64 : decode cX3_add 64 = .ok (.iconst 4, 1) := by decide +kernel
theorem dX3_add_65 : decode cX3_add 65 = .ok (.if_icmp .ge 20, 3) := by decide +kernel
theorem dX3_add_68 : decode cX3_add 68 = .ok (.aload_n 0, 1) := by decide +kernel
theorem dX3_add_69 : decode cX3_add 69 = .ok (.getfield 42, 3) := by decide +kernel
theorem dX3_add_72 : decode cX3_add 72 = .ok (.iload 5, 2) := by decide +kernel
theorem dX3_add_74 : decode cX3_add 74 = .ok (.aaload, 1) := by decide +kernel
theorem dX3_add_75 : decode cX3_add 75 = .ok (.iload 6, 2) := by decide +kernel
theorem dX3_add_77 : decode cX3_add 77 = .ok (.iconst 0, 1) := by decide +kernel
theorem dX3_add_78 : decode cX3_add 78 = .ok (.iastore, 1) := by decide +kernel
theorem dX3_add_79 : decode cX3_add 79 = .ok (.iinc 6 1, 3) := by decide +kernel
theorem dX3_add_82 : decode cX3_add 82 = .ok (.goto (-20), 3) := by decide +kernel
theorem dX3_add_85 : decode cX3_add 85 = .ok (.aload_n 0, 1) := by decide +kernel
theorem dX3_add_86 : decode cX3_add 86 = .ok (.dup, 1) := by decide +kernel
theorem dX3_add_87 : decode cX3_add 87 = .ok (.getfield 9, 3) := by decide +kernel
theorem dX3_add_90 : decode cX3_add 90 = .ok (.iconst 1, 1) := by decide +kernel
theorem dX3_add_91 : decode cX3_add 91 = .ok (.iadd, 1) := by decide +kernel
theorem dX3_add_92 : decode cX3_add 92 = .ok (.putfield 9, 3) := by decide +kernel
theorem dX3_add_95 : decode cX3_add 95 = .ok (.iload 5, 2) := by decide +kernel
theorem dX3_add_97 : decode cX3_add 97 = .ok (.ireturn, 1) := by decide +kernel
theorem dX3_has_0 : decode cX3_has 0 = .ok (.iload_n 1, 1) := by decide +kernel
theorem dX3_has_1 : decode cX3_has 1 = .ok (.ifCond .lt 15, 3) := by decide +kernel
theorem dX3_has_4 : decode cX3_has 4 = .ok (.iload_n 1, 1) := by decide +kernel
theorem dX3_has_5 : decode cX3_has 5 = .ok (.aload_n 0, 1) := by decide +kernel
theorem dX3_has_6 : decode cX3_has 6 = .ok (.getfield 9, 3) := by decide +kernel
theorem dX3_has_9 : decode cX3_has 9 = .ok (.if_icmp .ge 7, 3) := by decide +kernel
theorem dX3_has_12 : decode cX3_has 12 = .ok (.iconst 1, 1) := by decide +kernel
theorem dX3_has_13 : decode cX3_has 13 = .ok (.goto 4, 3) := by decide +kernel
theorem dX3_has_16 : decode cX3_has 16 = .ok (.iconst 0, 1) := by decide +kernel
theorem dX3_has_17 : decode cX3_has 17 = .ok (.ireturn, 1) := by decide +kernel
theorem dX3_everyone_0 : decode cX3_everyone 0 = .ok (.iconst 1, 1) := by decide +kernel
theorem dX3_everyone_1 : decode cX3_everyone 1 = .ok (.aload_n 0, 1) := by decide +kernel
theorem dX3_everyone_2 : decode cX3_everyone 2 = .ok (.getfield 9, 3) := by decide +kernel
theorem dX3_everyone_5 : decode cX3_everyone 5 = .ok (.ishl, 1) := by decide +kernel
theorem dX3_everyone_6 : decode cX3_everyone 6 = .ok (.iconst 1, 1) := by decide +kernel
theorem dX3_everyone_7 : decode cX3_everyone 7 = .ok (.isub, 1) := by decide +kernel
theorem dX3_everyone_8 : decode cX3_everyone 8 = .ok (.ireturn, 1) := by decide +kernel
theorem dX3_there_0 : decode cX3_there 0 = .ok (.aload_n 0, 1) := by decide +kernel
theorem dX3_there_1 : decode cX3_there 1 = .ok (.invokevirtual 61, 3) := by decide +kernel
theorem dX3_there_4 : decode cX3_there 4 = .ok (.aload_n 0, 1) := by decide +kernel
theorem dX3_there_5 : decode cX3_there 5 = .ok (.getfield 21, 3) := by decide +kernel
theorem dX3_there_8 : decode cX3_there 8 = .ok (.iconst (-1), 1) := by decide +kernel
theorem dX3_there_9 : decode cX3_there 9 = .ok (.ixor, 1) := by decide +kernel
theorem dX3_there_10 : decode cX3_there 10 = .ok (.iand, 1) := by decide +kernel
theorem dX3_there_11 : decode cX3_there 11 = .ok (.ireturn, 1) := by decide +kernel
theorem dX3_isMissing_0 : decode cX3_isMissing 0 = .ok (.aload_n 0, 1) := by decide +kernel
theorem dX3_isMissing_1 : decode cX3_isMissing 1 = .ok (.getfield 21, 3) := by decide +kernel
theorem dX3_isMissing_4 : decode cX3_isMissing 4 = .ok (.iload_n 1, 1) := by decide +kernel
theorem dX3_isMissing_5 : decode cX3_isMissing 5 = .ok (.ishr, 1) := by decide +kernel
theorem dX3_isMissing_6 : decode cX3_isMissing 6 = .ok (.iconst 1, 1) := by decide +kernel
theorem dX3_isMissing_7 : decode cX3_isMissing 7 = .ok (.iand, 1) := by decide +kernel
theorem dX3_isMissing_8 : decode cX3_isMissing 8 = .ok (.ifCond .eq 7, 3) := by decide +kernel
theorem dX3_isMissing_11 : decode cX3_isMissing 11 = .ok (.iconst 1, 1) := by decide +kernel
theorem dX3_isMissing_12 : decode cX3_isMissing 12 = .ok (.goto 4, 3) := by decide +kernel
theorem dX3_isMissing_15 : decode cX3_isMissing 15 = .ok (.iconst 0, 1) := by decide +kernel
theorem dX3_isMissing_16 : decode cX3_isMissing 16 = .ok (.ireturn, 1) := by decide +kernel
theorem dX3_isParity_0 : decode cX3_isParity 0 = .ok (.aload_n 0, 1) := by decide +kernel
theorem dX3_isParity_1 : decode cX3_isParity 1 = .ok (.iload_n 1, 1) := by decide +kernel
theorem dX3_isParity_2 : decode cX3_isParity 2 = .ok (.invokevirtual 65, 3) := by decide +kernel
theorem dX3_isParity_5 : decode cX3_isParity 5 = .ok (.ifCond .eq 18, 3) := by decide +kernel
theorem dX3_isParity_8 : decode cX3_isParity 8 = .ok (.aload_n 0, 1) := by decide +kernel
theorem dX3_isParity_9 : decode cX3_isParity 9 = .ok (.getfield 31, 3) := by decide +kernel
theorem dX3_isParity_12 : decode cX3_isParity 12 = .ok (.iload_n 1, 1) := by decide +kernel
theorem dX3_isParity_13 : decode cX3_isParity 13 = .ok (.iaload, 1) := by decide +kernel
theorem dX3_isParity_14 : decode cX3_isParity 14 = .ok (.bipush (-5), 2) := by decide +kernel
theorem dX3_isParity_16 : decode cX3_isParity 16 = .ok (.if_icmp .ne 7, 3) := by decide +kernel
theorem dX3_isParity_19 : decode cX3_isParity 19 = .ok (.iconst 1, 1) := by decide +kernel
theorem dX3_isParity_20 : decode cX3_isParity 20 = .ok (.goto 4, 3) := by decide +kernel
theorem dX3_isParity_23 : decode cX3_isParity 23 = .ok (.iconst 0, 1) := by decide +kernel
theorem dX3_isParity_24 : decode cX3_isParity 24 = .ok (.ireturn, 1) := by decide +kernel
theorem dX3_isDataMissing_0 : decode cX3_isDataMissing 0 = .ok (.iload_n 1, 1) := by decide +kernel
theorem dX3_isDataMissing_1 : decode cX3_isDataMissing 1 = .ok (.ifCond .lt 28, 3) := by decide +kernel
theorem dX3_isDataMissing_4 : decode cX3_isDataMissing 4 = .ok (.iload_n 1, 1) := by decide +kernel
theorem dX3_isDataMissing_5 : decode cX3_isDataMissing 5 = .ok (.aload_n 0, 1) := by decide +kernel
theorem dX3_isDataMissing_6 : decode cX3_isDataMissing 6 = .ok (.getfield 15, 3) := by decide +kernel
theorem dX3_isDataMissing_9 : decode cX3_isDataMissing 9 = .ok (.if_icmp .ge 20, 3) := by decide +kernel
theorem dX3_isDataMissing_12 : decode cX3_isDataMissing 12 = .ok (.aload_n 0, 1) := by decide +kernel
theorem dX3_isDataMissing_13 : decode cX3_isDataMissing 13 = .ok (.aload_n 0, 1) := by decide +kernel
theorem dX3_isDataMissing_14 : decode cX3_isDataMissing 14 = .ok (.getfield 45, 3) := by decide +kernel
theorem dX3_isDataMissing_17 : decode cX3_isDataMissing 17 = .ok (.iload_n 1, 1) := by decide +kernel
theorem dX3_isDataMissing_18 : decode cX3_isDataMissing 18 = .ok (.iaload, 1) := by decide +kernel
theorem dX3_isDataMissing_19 : decode cX3_isDataMissing 19 = .ok (.invokevirtual 69, 3) := by decide +kernel
theorem dX3_isDataMissing_22 : decode cX3_isDataMissing 22 = .ok (.ifCond .eq 7, 3) := by decide +kernel
theorem dX3_isDataMissing_25 : decode cX3_isDataMissing 25 = .ok (.iconst 1, 1) := by decide +kernel
theorem dX3_isDataMissing_26 : decode cX3_isDataMissing 26 = .ok (.goto 4, 3) := by decide +kernel
theorem dX3_isDataMissing_29 : decode cX3_isDataMissing 29 = .ok (.iconst 0, 1) := by decide +kernel
theorem dX3_isDataMissing_30 : decode cX3_isDataMissing 30 = .ok (.ireturn, 1) := by decide +kernel
theorem dX3_needsMissing_0 : decode cX3_needsMissing 0 = .ok (.iconst 0, 1) := by decide +kernel
theorem dX3_needsMissing_1 : decode cX3_needsMissing 1 = .ok (.istore_n 2, 1) := by decide +kernel
theorem dX3_needsMissing_2 : decode cX3_needsMissing 2 = .ok (.iload_n 2, 1) := by decide +kernel
theorem dX3_needsMissing_3 : decode cX3_needsMissing 3 = .ok (.aload_n 0, 1) := by decide +kernel
theorem dX3_needsMissing_4 : decode cX3_needsMissing 4 = .ok (.getfield 15, 3) := by decide +kernel
theorem dX3_needsMissing_7 : decode cX3_needsMissing 7 = .ok (.if_icmp .ge 27, 3) := by decide +kernel
theorem dX3_needsMissing_10 : decode cX3_needsMissing 10 = .ok (.iload_n 1, 1) := by decide +kernel
theorem dX3_needsMissing_11 : decode cX3_needsMissing 11 = .ok (.iload_n 2, 1) := by decide +kernel
theorem dX3_needsMissing_12 : decode cX3_needsMissing 12 = .ok (.invokestatic 72, 3) := by decide +kernel
theorem dX3_needsMissing_15 : decode cX3_needsMissing 15 = .ok (.ifCond .eq 13, 3) := by decide +kernel
theorem dX3_needsMissing_18 : decode cX3_needsMissing 18 = .ok (.aload_n 0, 1) := by decide +kernel
theorem dX3_needsMissing_19 : decode cX3_needsMissing 19 = .ok (.iload_n 2, 1) := by decide +kernel
theorem dX3_needsMissing_20 : decode cX3_needsMissing 20 = .ok (.invokevirtual 76, 3) := by decide +kernel
theorem dX3_needsMissing_23 : decode cX3_needsMissing 23 = .ok (.ifCond .eq 5, 3) := by decide +kernel
theorem dX3_needsMissing_26 : decode cX3_needsMissing 26 = .ok (.iconst 1, 1) := by decide +kernel
theorem dX3_needsMissing_27 : decode cX3_needsMissing 27 = .ok (.ireturn, 1) := by decide +kernel
theorem dX3_needsMissing_28 : decode cX3_needsMissing 28 = .ok (.iinc 2 1, 3) := by decide +kernel
theorem dX3_needsMissing_31 : decode cX3_needsMissing 31 = .ok (.goto (-29), 3) := by decide +kernel
theorem dX3_needsMissing_34 : decode cX3_needsMissing 34 = .ok (.iconst 0, 1) := by decide +kernel
theorem dX3_needsMissing_35 : decode cX3_needsMissing 35 = .ok (.ireturn, 1) := by decide +kernel
theorem dX3_symbolOf_0 : decode cX3_symbolOf 0 = .ok (.iconst 0, 1) := by decide +kernel
theorem dX3_symbolOf_1 : decode cX3_symbolOf 1 = .ok (.istore_n 3, 1) := by decide +kernel
theorem dX3_symbolOf_2 : decode cX3_symbolOf 2 = .ok (.iconst 0, 1) := by decide +kernel
theorem dX3_symbolOf_3 : decode cX3_symbolOf 3 = .ok (.istore 4, 2) := by decide +kernel
theorem dX3_symbolOf_5 : decode cX3_symbolOf 5 = .ok (.iload 4, 2) := by decide +kernel
theorem dX3_symbolOf_7 : decode cX3_symbolOf 7 = .ok (.aload_n 0, 1) := by decide +kernel
theorem dX3_symbolOf_8 : decode cX3_symbolOf 8 = .ok (.getfield 15, 3) := by decide +kernel
theorem dX3_symbolOf_11 : decode cX3_symbolOf 11 = .ok (.if_icmp .ge 42, 3) := by decide +kernel
theorem dX3_symbolOf_14 : decode cX3_symbolOf 14 = .ok (.aload_n 0, 1) := by decide +kernel
theorem dX3_symbolOf_15 : decode cX3_symbolOf 15 = .ok (.iload_n 2, 1) := by decide +kernel
theorem dX3_symbolOf_16 : decode cX3_symbolOf 16 = .ok (.invokevirtual 65, 3) := by decide +kernel
theorem dX3_symbolOf_19 : decode cX3_symbolOf 19 = .ok (.ifCond .eq 34, 3) := by decide +kernel
theorem dX3_symbolOf_22 : decode cX3_symbolOf 22 = .ok (.iload_n 3, 1) := by decide +kernel
theorem dX3_symbolOf_23 : decode cX3_symbolOf 23 = .ok (.aload_n 1, 1) := by decide +kernel
theorem dX3_symbolOf_24 : decode cX3_symbolOf 24 = .ok (.aload_n 0, 1) := by decide +kernel
theorem dX3_symbolOf_25 : decode cX3_symbolOf 25 = .ok (.getfield 48, 3) := by decide +kernel
theorem dX3_symbolOf_28 : decode cX3_symbolOf 28 = .ok (.iload 4, 2) := by decide +kernel
theorem dX3_symbolOf_30 : decode cX3_symbolOf 30 = .ok (.iaload, 1) := by decide +kernel
theorem dX3_symbolOf_31 : decode cX3_symbolOf 31 = .ok (.aload_n 0, 1) := by decide +kernel
theorem dX3_symbolOf_32 : decode cX3_symbolOf 32 = .ok (.getfield 34, 3) := by decide +kernel
theorem dX3_symbolOf_35 : decode cX3_symbolOf 35 = .ok (.iload_n 2, 1) := by decide +kernel
theorem dX3_symbolOf_36 : decode cX3_symbolOf 36 = .ok (.iaload, 1) := by decide +kernel
theorem dX3_symbolOf_37 : decode cX3_symbolOf 37 = .ok (.iload 4, 2) := by decide +kernel
theorem dX3_symbolOf_39 : decode cX3_symbolOf 39 = .ok (.invokestatic 72, 3) := by decide +kernel
theorem dX3_symbolOf_42 : decode cX3_symbolOf 42 = .ok (.invokevirtual 79, 3) := by decide +kernel
theorem dX3_symbolOf_45 : decode cX3_symbolOf 45 = .ok (.ixor, 1) := by decide +kernel
theorem dX3_symbolOf_46 : decode cX3_symbolOf 46 = .ok (.istore_n 3, 1) := by decide +kernel
theorem dX3_symbolOf_47 : decode cX3_symbolOf 47 = .ok (.iinc 4 1, 3) := by decide +kernel
theorem dX3_symbolOf_50 : decode cX3_symbolOf 50 = .ok (.goto (-45), 3) := by decide +kernel
theorem dX3_symbolOf_53 : decode cX3_symbolOf 53 = .ok (.iload_n 3, 1) := by decide +kernel
theorem dX3_symbolOf_54 : decode cX3_symbolOf 54 = .ok (.ireturn, 1) := by decide +kernel
theorem dX3_costOf_0 : decode cX3_costOf 0 = .ok (.aload_n 0, 1) := by decide +kernel
theorem dX3_costOf_1 : decode cX3_costOf 1 = .ok (.iload_n 1, 1) := by decide +kernel
theorem dX3_costOf_2 : decode cX3_costOf 2 = .ok (.invokevirtual 65, 3) := by decide +kernel
theorem dX3_costOf_5 : decode cX3_costOf 5 = .ok (.ifCond .ne 5, 3) := by decide +kernel
theorem dX3_costOf_8 : decode cX3_costOf 8 = .ok (.iconst 0, 1) := by decide +kernel
theorem dX3_costOf_9 : decode cX3_costOf 9 = .ok (.ireturn, 1) := by decide +kernel
theorem dX3_costOf_10 : decode cX3_costOf 10 = .ok (.aload_n 0, 1) := by decide +kernel
theorem dX3_costOf_11 : decode cX3_costOf 11 = .ok (.getfield 28, 3) := by decide +kernel
theorem dX3_costOf_14 : decode cX3_costOf 14 = .ok (.iload_n 1, 1) := by decide +kernel
theorem dX3_costOf_15 : decode cX3_costOf 15 = .ok (.iaload, 1) := by decide +kernel
theorem dX3_costOf_16 : decode cX3_costOf 16 = .ok (.iconst 1, 1) := by decide +kernel
theorem dX3_costOf_17 : decode cX3_costOf 17 = .ok (.iadd, 1) := by decide +kernel
theorem dX3_costOf_18 : decode cX3_costOf 18 = .ok (.istore_n 2, 1) := by decide +kernel
theorem dX3_costOf_19 : decode cX3_costOf 19 = .ok (.iconst 1, 1) := by decide +kernel
theorem dX3_costOf_20 : decode cX3_costOf 20 = .ok (.iload_n 2, 1) := by decide +kernel
theorem dX3_costOf_21 : decode cX3_costOf 21 = .ok (.iconst 2, 1) := by decide +kernel
theorem dX3_costOf_22 : decode cX3_costOf 22 = .ok (.idiv, 1) := by decide +kernel
theorem dX3_costOf_23 : decode cX3_costOf 23 = .ok (.invokestatic 84, 3) := by decide +kernel
theorem dX3_costOf_26 : decode cX3_costOf 26 = .ok (.istore_n 3, 1) := by decide +kernel
theorem dX3_costOf_27 : decode cX3_costOf 27 = .ok (.iload_n 2, 1) := by decide +kernel
theorem dX3_costOf_28 : decode cX3_costOf 28 = .ok (.bipush 9, 2) := by decide +kernel
theorem dX3_costOf_30 : decode cX3_costOf 30 = .ok (.aload_n 0, 1) := by decide +kernel
theorem dX3_costOf_31 : decode cX3_costOf 31 = .ok (.getfield 37, 3) := by decide +kernel
theorem dX3_costOf_34 : decode cX3_costOf 34 = .ok (.iload_n 1, 1) := by decide +kernel
theorem dX3_costOf_35 : decode cX3_costOf 35 = .ok (.iaload, 1) := by decide +kernel
theorem dX3_costOf_36 : decode cX3_costOf 36 = .ok (.invokestatic 89, 3) := by decide +kernel
theorem dX3_costOf_39 : decode cX3_costOf 39 = .ok (.iadd, 1) := by decide +kernel
theorem dX3_costOf_40 : decode cX3_costOf 40 = .ok (.istore 4, 2) := by decide +kernel
theorem dX3_costOf_42 : decode cX3_costOf 42 = .ok (.aload_n 0, 1) := by decide +kernel
theorem dX3_costOf_43 : decode cX3_costOf 43 = .ok (.getfield 24, 3) := by decide +kernel
theorem dX3_costOf_46 : decode cX3_costOf 46 = .ok (.iload_n 1, 1) := by decide +kernel
theorem dX3_costOf_47 : decode cX3_costOf 47 = .ok (.iaload, 1) := by decide +kernel
theorem dX3_costOf_48 : decode cX3_costOf 48 = .ok (.tableswitch 107 1 6 #[40, 42, 46, 49, 67, 88], 40) := by decide +kernel
theorem dX3_costOf_88 : decode cX3_costOf 88 = .ok (.iload_n 3, 1) := by decide +kernel
theorem dX3_costOf_89 : decode cX3_costOf 89 = .ok (.ireturn, 1) := by decide +kernel
theorem dX3_costOf_90 : decode cX3_costOf 90 = .ok (.iconst 2, 1) := by decide +kernel
theorem dX3_costOf_91 : decode cX3_costOf 91 = .ok (.iload_n 2, 1) := by decide +kernel
theorem dX3_costOf_92 : decode cX3_costOf 92 = .ok (.imul, 1) := by decide +kernel
theorem dX3_costOf_93 : decode cX3_costOf 93 = .ok (.ireturn, 1) := by decide +kernel
theorem dX3_costOf_94 : decode cX3_costOf 94 = .ok (.iload 4, 2) := by decide +kernel
theorem dX3_costOf_96 : decode cX3_costOf 96 = .ok (.ireturn, 1) := by decide +kernel
theorem dX3_costOf_97 : decode cX3_costOf 97 = .ok (.aload_n 0, 1) := by decide +kernel
theorem dX3_costOf_98 : decode cX3_costOf 98 = .ok (.getfield 37, 3) := by decide +kernel
theorem dX3_costOf_101 : decode cX3_costOf 101 = .ok (.iload_n 1, 1) := by decide +kernel
theorem dX3_costOf_102 : decode cX3_costOf 102 = .ok (.iaload, 1) := by decide +kernel
theorem dX3_costOf_103 : decode cX3_costOf 103 = .ok (.iconst 2, 1) := by decide +kernel
theorem dX3_costOf_104 : decode cX3_costOf 104 = .ok (.irem, 1) := by decide +kernel
theorem dX3_costOf_105 : decode cX3_costOf 105 = .ok (.iconst 1, 1) := by decide +kernel
theorem dX3_costOf_106 : decode cX3_costOf 106 = .ok (.if_icmp .ne 7, 3) := by decide +kernel
theorem dX3_costOf_109 : decode cX3_costOf 109 = .ok (.iconst 1, 1) := by decide +kernel
theorem dX3_costOf_110 : decode cX3_costOf 110 = .ok (.goto 4, 3) := by decide +kernel
theorem dX3_costOf_113 : decode cX3_costOf 113 = .ok (.iload_n 3, 1) := by decide +kernel
theorem dX3_costOf_114 : decode cX3_costOf 114 = .ok (.ireturn, 1) := by decide +kernel
theorem dX3_costOf_115 : decode cX3_costOf 115 = .ok (.iconst 2, 1) := by decide +kernel
theorem dX3_costOf_116 : decode cX3_costOf 116 = .ok (.iload_n 2, 1) := by decide +kernel
theorem dX3_costOf_117 : decode cX3_costOf 117 = .ok (.imul, 1) := by decide +kernel
theorem dX3_costOf_118 : decode cX3_costOf 118 = .ok (.aload_n 0, 1) := by decide +kernel
theorem dX3_costOf_119 : decode cX3_costOf 119 = .ok (.getfield 31, 3) := by decide +kernel
theorem dX3_costOf_122 : decode cX3_costOf 122 = .ok (.iload_n 1, 1) := by decide +kernel
theorem dX3_costOf_123 : decode cX3_costOf 123 = .ok (.iaload, 1) := by decide +kernel
theorem dX3_costOf_124 : decode cX3_costOf 124 = .ok (.bipush (-5), 2) := by decide +kernel
theorem dX3_costOf_126 : decode cX3_costOf 126 = .ok (.if_icmp .ne 7, 3) := by decide +kernel
theorem dX3_costOf_129 : decode cX3_costOf 129 = .ok (.iconst 5, 1) := by decide +kernel
theorem dX3_costOf_130 : decode cX3_costOf 130 = .ok (.goto 4, 3) := by decide +kernel
theorem dX3_costOf_133 : decode cX3_costOf 133 = .ok (.iconst 0, 1) := by decide +kernel
theorem dX3_costOf_134 : decode cX3_costOf 134 = .ok (.iadd, 1) := by decide +kernel
theorem dX3_costOf_135 : decode cX3_costOf 135 = .ok (.ireturn, 1) := by decide +kernel
theorem dX3_costOf_136 : decode cX3_costOf 136 = .ok (.iload 4, 2) := by decide +kernel
theorem dX3_costOf_138 : decode cX3_costOf 138 = .ok (.aload_n 0, 1) := by decide +kernel
theorem dX3_costOf_139 : decode cX3_costOf 139 = .ok (.getfield 42, 3) := by decide +kernel
theorem dX3_costOf_142 : decode cX3_costOf 142 = .ok (.iload_n 1, 1) := by decide +kernel
theorem dX3_costOf_143 : decode cX3_costOf 143 = .ok (.aaload, 1) := by decide +kernel
theorem dX3_costOf_144 : decode cX3_costOf 144 = .ok (.aload_n 0, 1) := by decide +kernel
theorem dX3_costOf_145 : decode cX3_costOf 145 = .ok (.getfield 37, 3) := by decide +kernel
theorem dX3_costOf_148 : decode cX3_costOf 148 = .ok (.iload_n 1, 1) := by decide +kernel
theorem dX3_costOf_149 : decode cX3_costOf 149 = .ok (.iaload, 1) := by decide +kernel
theorem dX3_costOf_150 : decode cX3_costOf 150 = .ok (.iconst 3, 1) := by decide +kernel
theorem dX3_costOf_151 : decode cX3_costOf 151 = .ok (.iand, 1) := by decide +kernel
theorem dX3_costOf_152 : decode cX3_costOf 152 = .ok (.iaload, 1) := by decide +kernel
theorem dX3_costOf_153 : decode cX3_costOf 153 = .ok (.iadd, 1) := by decide +kernel
theorem dX3_costOf_154 : decode cX3_costOf 154 = .ok (.ireturn, 1) := by decide +kernel
theorem dX3_costOf_155 : decode cX3_costOf 155 = .ok (.iload_n 2, 1) := by decide +kernel
theorem dX3_costOf_156 : decode cX3_costOf 156 = .ok (.ireturn, 1) := by decide +kernel
theorem dX3_costsOf_0 : decode cX3_costsOf 0 = .ok (.iload_n 1, 1) := by decide +kernel
theorem dX3_costsOf_1 : decode cX3_costsOf 1 = .ok (.bipush (-5), 2) := by decide +kernel
theorem dX3_costsOf_3 : decode cX3_costsOf 3 = .ok (.if_icmp .ne 6, 3) := by decide +kernel
theorem dX3_costsOf_6 : decode cX3_costsOf 6 = .ok (.bipush (-5), 2) := by decide +kernel
theorem dX3_costsOf_8 : decode cX3_costsOf 8 = .ok (.ireturn, 1) := by decide +kernel
theorem dX3_costsOf_9 : decode cX3_costsOf 9 = .ok (.iconst 0, 1) := by decide +kernel
theorem dX3_costsOf_10 : decode cX3_costsOf 10 = .ok (.istore_n 2, 1) := by decide +kernel
theorem dX3_costsOf_11 : decode cX3_costsOf 11 = .ok (.iconst 0, 1) := by decide +kernel
theorem dX3_costsOf_12 : decode cX3_costsOf 12 = .ok (.istore_n 3, 1) := by decide +kernel
theorem dX3_costsOf_13 : decode cX3_costsOf 13 = .ok (.iload_n 3, 1) := by decide +kernel
theorem dX3_costsOf_14 : decode cX3_costsOf 14 = .ok (.aload_n 0, 1) := by decide +kernel
theorem dX3_costsOf_15 : decode cX3_costsOf 15 = .ok (.getfield 9, 3) := by decide +kernel
theorem dX3_costsOf_18 : decode cX3_costsOf 18 = .ok (.if_icmp .ge 25, 3) := by decide +kernel
theorem dX3_costsOf_21 : decode cX3_costsOf 21 = .ok (.iload_n 1, 1) := by decide +kernel
theorem dX3_costsOf_22 : decode cX3_costsOf 22 = .ok (.iload_n 3, 1) := by decide +kernel
theorem dX3_costsOf_23 : decode cX3_costsOf 23 = .ok (.ishr, 1) := by decide +kernel
theorem dX3_costsOf_24 : decode cX3_costsOf 24 = .ok (.iconst 1, 1) := by decide +kernel
theorem dX3_costsOf_25 : decode cX3_costsOf 25 = .ok (.iand, 1) := by decide +kernel
theorem dX3_costsOf_26 : decode cX3_costsOf 26 = .ok (.ifCond .eq 11, 3) := by decide +kernel
theorem dX3_costsOf_29 : decode cX3_costsOf 29 = .ok (.iload_n 2, 1) := by decide +kernel
theorem dX3_costsOf_30 : decode cX3_costsOf 30 = .ok (.aload_n 0, 1) := by decide +kernel
theorem dX3_costsOf_31 : decode cX3_costsOf 31 = .ok (.iload_n 3, 1) := by decide +kernel
theorem dX3_costsOf_32 : decode cX3_costsOf 32 = .ok (.invokevirtual 92, 3) := by decide +kernel
theorem dX3_costsOf_35 : decode cX3_costsOf 35 = .ok (.iadd, 1) := by decide +kernel
theorem dX3_costsOf_36 : decode cX3_costsOf 36 = .ok (.istore_n 2, 1) := by decide +kernel
theorem dX3_costsOf_37 : decode cX3_costsOf 37 = .ok (.iinc 3 1, 3) := by decide +kernel
theorem dX3_costsOf_40 : decode cX3_costsOf 40 = .ok (.goto (-27), 3) := by decide +kernel
theorem dX3_costsOf_43 : decode cX3_costsOf 43 = .ok (.iload_n 2, 1) := by decide +kernel
theorem dX3_costsOf_44 : decode cX3_costsOf 44 = .ok (.ireturn, 1) := by decide +kernel
theorem dX3_countReads_0 : decode cX3_countReads 0 = .ok (.iconst 0, 1) := by decide +kernel
theorem dX3_countReads_1 : decode cX3_countReads 1 = .ok (.istore_n 2, 1) := by decide +kernel
theorem dX3_countReads_2 : decode cX3_countReads 2 = .ok (.iload_n 2, 1) := by decide +kernel
theorem dX3_countReads_3 : decode cX3_countReads 3 = .ok (.aload_n 0, 1) := by decide +kernel
theorem dX3_countReads_4 : decode cX3_countReads 4 = .ok (.getfield 9, 3) := by decide +kernel
theorem dX3_countReads_7 : decode cX3_countReads 7 = .ok (.if_icmp .ge 37, 3) := by decide +kernel
theorem dX3_countReads_10 : decode cX3_countReads 10 = .ok (.iload_n 1, 1) := by decide +kernel
theorem dX3_countReads_11 : decode cX3_countReads 11 = .ok (.iload_n 2, 1) := by decide +kernel
theorem dX3_countReads_12 : decode cX3_countReads 12 = .ok (.ishr, 1) := by decide +kernel
theorem dX3_countReads_13 : decode cX3_countReads 13 = .ok (.iconst 1, 1) := by decide +kernel
theorem dX3_countReads_14 : decode cX3_countReads 14 = .ok (.iand, 1) := by decide +kernel
theorem dX3_countReads_15 : decode cX3_countReads 15 = .ok (.ifCond .eq 23, 3) := by decide +kernel
theorem dX3_countReads_18 : decode cX3_countReads 18 = .ok (.aload_n 0, 1) := by decide +kernel
theorem dX3_countReads_19 : decode cX3_countReads 19 = .ok (.getfield 37, 3) := by decide +kernel
theorem dX3_countReads_22 : decode cX3_countReads 22 = .ok (.iload_n 2, 1) := by decide +kernel
theorem dX3_countReads_23 : decode cX3_countReads 23 = .ok (.sipush 9999, 3) := by decide +kernel
theorem dX3_countReads_26 : decode cX3_countReads 26 = .ok (.aload_n 0, 1) := by decide +kernel
theorem dX3_countReads_27 : decode cX3_countReads 27 = .ok (.getfield 37, 3) := by decide +kernel
theorem dX3_countReads_30 : decode cX3_countReads 30 = .ok (.iload_n 2, 1) := by decide +kernel
theorem dX3_countReads_31 : decode cX3_countReads 31 = .ok (.iaload, 1) := by decide +kernel
theorem dX3_countReads_32 : decode cX3_countReads 32 = .ok (.iconst 1, 1) := by decide +kernel
theorem dX3_countReads_33 : decode cX3_countReads 33 = .ok (.iadd, 1) := by decide +kernel
theorem dX3_countReads_34 : decode cX3_countReads 34 = .ok (.invokestatic 89, 3) := by decide +kernel
theorem dX3_countReads_37 : decode cX3_countReads 37 = .ok (.iastore, 1) := by decide +kernel
theorem dX3_countReads_38 : decode cX3_countReads 38 = .ok (.iinc 2 1, 3) := by decide +kernel
theorem dX3_countReads_41 : decode cX3_countReads 41 = .ok (.goto (-39), 3) := by decide +kernel
theorem dX3_countReads_44 : decode cX3_countReads 44 = .ok (.return_, 1) := by decide +kernel
theorem dX4_init_0 : decode cX4_init 0 = .ok (.aload_n 0, 1) := by decide +kernel
theorem dX4_init_1 : decode cX4_init 1 = .ok (.invokespecial 1, 3) := by decide +kernel
theorem dX4_init_4 : decode cX4_init 4 = .ok (.aload_n 0, 1) := by decide +kernel
theorem dX4_init_5 : decode cX4_init 5 = .ok (.bipush 16, 2) := by decide +kernel
theorem dX4_init_7 : decode cX4_init 7 = .ok (.newarray .int, 2) := by decide +kernel
theorem dX4_init_9 : decode cX4_init 9 = .ok (.putfield 7, 3) := by decide +kernel
theorem dX4_init_12 : decode cX4_init 12 = .ok (.aload_n 0, 1) := by decide +kernel
theorem dX4_init_13 : decode cX4_init 13 = .ok (.bipush 19, 2) := by decide +kernel
theorem dX4_init_15 : decode cX4_init 15 = .ok (.invokevirtual 13, 3) := by decide +kernel
theorem dX4_init_18 : decode cX4_init 18 = .ok (.return_, 1) := by decide +kernel
theorem dX4_choose_0 : decode cX4_choose 0 = .ok (.aload_n 0, 1) := by decide +kernel
theorem dX4_choose_1 : decode cX4_choose 1 = .ok (.iload_n 1, 1) := by decide +kernel
theorem dX4_choose_2 : decode cX4_choose 2 = .ok (.putfield 17, 3) := by decide +kernel
theorem dX4_choose_5 : decode cX4_choose 5 = .ok (.aload_n 0, 1) := by decide +kernel
theorem dX4_choose_6 : decode cX4_choose 6 = .ok (.iload_n 1, 1) := by decide +kernel
theorem dX4_choose_7 : decode cX4_choose 7 = .ok (.invokestatic 21, 3) := by decide +kernel
theorem dX4_choose_10 : decode cX4_choose 10 = .ok (.putfield 25, 3) := by decide +kernel
theorem dX4_choose_13 : decode cX4_choose 13 = .ok (.iconst 0, 1) := by decide +kernel
theorem dX4_choose_14 : decode cX4_choose 14 = .ok (.istore_n 2, 1) := by decide +kernel
theorem dX4_choose_15 : decode cX4_choose 15 = .ok (.iload_n 2, 1) := by decide +kernel
theorem dX4_choose_16 : decode cX4_choose 16 = .ok (.aload_n 0, 1) := by decide +kernel
theorem dX4_choose_17 : decode cX4_choose 17 = .ok (.getfield 7, 3) := by decide +kernel
theorem dX4_choose_20 : decode cX4_choose 20 = .ok (.arraylength, 1) := by decide +kernel
theorem dX4_choose_21 : decode cX4_choose 21 = .ok (.if_icmp .ge 20, 3) := by decide +kernel
theorem dX4_choose_24 : decode cX4_choose 24 = .ok (.aload_n 0, 1) := by decide +kernel
theorem dX4_choose_25 : decode cX4_choose 25 = .ok (.getfield 7, 3) := by decide +kernel
theorem dX4_choose_28 : decode cX4_choose 28 = .ok (.iload_n 2, 1) := by decide +kernel
theorem dX4_choose_29 : decode cX4_choose 29 = .ok (.iload_n 1, 1) := by decide +kernel
theorem dX4_choose_30 : decode cX4_choose 30 = .ok (.iload_n 2, 1) := by decide +kernel
theorem dX4_choose_31 : decode cX4_choose 31 = .ok (.invokestatic 28, 3) := by decide +kernel
theorem dX4_choose_34 : decode cX4_choose 34 = .ok (.iastore, 1) := by decide +kernel
theorem dX4_choose_35 : decode cX4_choose 35 = .ok (.iinc 2 1, 3) := by decide +kernel
theorem dX4_choose_38 : decode cX4_choose 38 = .ok (.goto (-23), 3) := by decide +kernel
theorem dX4_choose_41 : decode cX4_choose 41 = .ok (.return_, 1) := by decide +kernel
theorem dX4_isField_0 : decode cX4_isField 0 = .ok (.iconst 1, 1) := by decide +kernel
theorem dX4_isField_1 : decode cX4_isField 1 = .ok (.istore_n 1, 1) := by decide +kernel
theorem dX4_isField_2 : decode cX4_isField 2 = .ok (.iload_n 1, 1) := by decide +kernel
theorem dX4_isField_3 : decode cX4_isField 3 = .ok (.bipush 15, 2) := by decide +kernel
theorem dX4_isField_5 : decode cX4_isField 5 = .ok (.if_icmp .gt 19, 3) := by decide +kernel
theorem dX4_isField_8 : decode cX4_isField 8 = .ok (.iload_n 0, 1) := by decide +kernel
theorem dX4_isField_9 : decode cX4_isField 9 = .ok (.iload_n 1, 1) := by decide +kernel
theorem dX4_isField_10 : decode cX4_isField 10 = .ok (.invokestatic 28, 3) := by decide +kernel
theorem dX4_isField_13 : decode cX4_isField 13 = .ok (.ifCond .ne 5, 3) := by decide +kernel
theorem dX4_isField_16 : decode cX4_isField 16 = .ok (.iconst 0, 1) := by decide +kernel
theorem dX4_isField_17 : decode cX4_isField 17 = .ok (.ireturn, 1) := by decide +kernel
theorem dX4_isField_18 : decode cX4_isField 18 = .ok (.iinc 1 1, 3) := by decide +kernel
theorem dX4_isField_21 : decode cX4_isField 21 = .ok (.goto (-19), 3) := by decide +kernel
theorem dX4_isField_24 : decode cX4_isField 24 = .ok (.iconst 1, 1) := by decide +kernel
theorem dX4_isField_25 : decode cX4_isField 25 = .ok (.ireturn, 1) := by decide +kernel
theorem dX4_inverseBy_0 : decode cX4_inverseBy 0 = .ok (.iconst 1, 1) := by decide +kernel
theorem dX4_inverseBy_1 : decode cX4_inverseBy 1 = .ok (.istore_n 2, 1) := by decide +kernel
theorem dX4_inverseBy_2 : decode cX4_inverseBy 2 = .ok (.iload_n 2, 1) := by decide +kernel
theorem dX4_inverseBy_3 : decode cX4_inverseBy 3 = .ok (.bipush 15, 2) := by decide +kernel
theorem dX4_inverseBy_5 : decode cX4_inverseBy 5 = .ok (.if_icmp .gt 21, 3) := by decide +kernel
theorem dX4_inverseBy_8 : decode cX4_inverseBy 8 = .ok (.iload_n 0, 1) := by decide +kernel
theorem dX4_inverseBy_9 : decode cX4_inverseBy 9 = .ok (.iload_n 1, 1) := by decide +kernel
theorem dX4_inverseBy_10 : decode cX4_inverseBy 10 = .ok (.iload_n 2, 1) := by decide +kernel
theorem dX4_inverseBy_11 : decode cX4_inverseBy 11 = .ok (.invokestatic 32, 3) := by decide +kernel
theorem dX4_inverseBy_14 : decode cX4_inverseBy 14 = .ok (.iconst 1, 1) := by decide +kernel
theorem dX4_inverseBy_15 : decode cX4_inverseBy 15 = .ok (.if_icmp .ne 5, 3) := by decide +kernel
theorem dX4_inverseBy_18 : decode cX4_inverseBy 18 = .ok (.iload_n 2, 1) := by decide +kernel
theorem dX4_inverseBy_19 : decode cX4_inverseBy 19 = .ok (.ireturn, 1) := by decide +kernel
theorem dX4_inverseBy_20 : decode cX4_inverseBy 20 = .ok (.iinc 2 1, 3) := by decide +kernel
theorem dX4_inverseBy_23 : decode cX4_inverseBy 23 = .ok (.goto (-21), 3) := by decide +kernel
theorem dX4_inverseBy_26 : decode cX4_inverseBy 26 = .ok (.iconst 0, 1) := by decide +kernel
theorem dX4_inverseBy_27 : decode cX4_inverseBy 27 = .ok (.ireturn, 1) := by decide +kernel
theorem dX4_leastGenerator_0 : decode cX4_leastGenerator 0 = .ok (.iconst 1, 1) := by decide +kernel
theorem dX4_leastGenerator_1 : decode cX4_leastGenerator 1 = .ok (.istore_n 1, 1) := by decide +kernel
theorem dX4_leastGenerator_2 : decode cX4_leastGenerator 2 = .ok (.iload_n 1, 1) := by decide +kernel
theorem dX4_leastGenerator_3 : decode cX4_leastGenerator 3 = .ok (.bipush 15, 2) := by decide +kernel
theorem dX4_leastGenerator_5 : decode cX4_leastGenerator 5 = .ok (.if_icmp .gt 21, 3) := by decide +kernel
theorem dX4_leastGenerator_8 : decode cX4_leastGenerator 8 = .ok (.iload_n 0, 1) := by decide +kernel
theorem dX4_leastGenerator_9 : decode cX4_leastGenerator 9 = .ok (.iload_n 1, 1) := by decide +kernel
theorem dX4_leastGenerator_10 : decode cX4_leastGenerator 10 = .ok (.invokestatic 36, 3) := by decide +kernel
theorem dX4_leastGenerator_13 : decode cX4_leastGenerator 13 = .ok (.bipush 15, 2) := by decide +kernel
theorem dX4_leastGenerator_15 : decode cX4_leastGenerator 15 = .ok (.if_icmp .ne 5, 3) := by decide +kernel
theorem dX4_leastGenerator_18 : decode cX4_leastGenerator 18 = .ok (.iload_n 1, 1) := by decide +kernel
theorem dX4_leastGenerator_19 : decode cX4_leastGenerator 19 = .ok (.ireturn, 1) := by decide +kernel
theorem dX4_leastGenerator_20 : decode cX4_leastGenerator 20 = .ok (.iinc 1 1, 3) := by decide +kernel
theorem dX4_leastGenerator_23 : decode cX4_leastGenerator 23 = .ok (.goto (-21), 3) := by decide +kernel
theorem dX4_leastGenerator_26 : decode cX4_leastGenerator 26 = .ok (.iconst 0, 1) := by decide +kernel
theorem dX4_leastGenerator_27 : decode cX4_leastGenerator 27 = .ok (.ireturn, 1) := by decide +kernel
theorem dX4_order_0 : decode cX4_order 0 = .ok (.iload_n 1, 1) := by decide +kernel
theorem dX4_order_1 : decode cX4_order 1 = .ok (.istore_n 2, 1) := by decide +kernel
theorem dX4_order_2 : decode cX4_order 2 = .ok (.iconst 1, 1) := by decide +kernel
theorem dX4_order_3 : decode cX4_order 3 = .ok (.istore_n 3, 1) := by decide +kernel
theorem dX4_order_4 : decode cX4_order 4 = .ok (.iload_n 2, 1) := by decide +kernel
theorem dX4_order_5 : decode cX4_order 5 = .ok (.iconst 1, 1) := by decide +kernel
theorem dX4_order_6 : decode cX4_order 6 = .ok (.if_icmp .eq 22, 3) := by decide +kernel
theorem dX4_order_9 : decode cX4_order 9 = .ok (.iload_n 3, 1) := by decide +kernel
theorem dX4_order_10 : decode cX4_order 10 = .ok (.bipush 15, 2) := by decide +kernel
theorem dX4_order_12 : decode cX4_order 12 = .ok (.if_icmp .ge 16, 3) := by decide +kernel
theorem dX4_order_15 : decode cX4_order 15 = .ok (.iload_n 0, 1) := by decide +kernel
theorem dX4_order_16 : decode cX4_order 16 = .ok (.iload_n 2, 1) := by decide +kernel
theorem dX4_order_17 : decode cX4_order 17 = .ok (.iload_n 1, 1) := by decide +kernel
theorem dX4_order_18 : decode cX4_order 18 = .ok (.invokestatic 32, 3) := by decide +kernel
theorem dX4_order_21 : decode cX4_order 21 = .ok (.istore_n 2, 1) := by decide +kernel
theorem dX4_order_22 : decode cX4_order 22 = .ok (.iinc 3 1, 3) := by decide +kernel
theorem dX4_order_25 : decode cX4_order 25 = .ok (.goto (-21), 3) := by decide +kernel
theorem dX4_order_28 : decode cX4_order 28 = .ok (.iload_n 3, 1) := by decide +kernel
theorem dX4_order_29 : decode cX4_order 29 = .ok (.ireturn, 1) := by decide +kernel
theorem dX4_productBy_0 : decode cX4_productBy 0 = .ok (.iconst 0, 1) := by decide +kernel
theorem dX4_productBy_1 : decode cX4_productBy 1 = .ok (.istore_n 3, 1) := by decide +kernel
theorem dX4_productBy_2 : decode cX4_productBy 2 = .ok (.iload_n 1, 1) := by decide +kernel
theorem dX4_productBy_3 : decode cX4_productBy 3 = .ok (.istore 4, 2) := by decide +kernel
theorem dX4_productBy_5 : decode cX4_productBy 5 = .ok (.iconst 0, 1) := by decide +kernel
theorem dX4_productBy_6 : decode cX4_productBy 6 = .ok (.istore 5, 2) := by decide +kernel
theorem dX4_productBy_8 : decode cX4_productBy 8 = .ok (.iload 5, 2) := by decide +kernel
theorem dX4_productBy_10 : decode cX4_productBy 10 = .ok (.iconst 4, 1) := by decide +kernel
theorem dX4_productBy_11 : decode cX4_productBy 11 = .ok (.if_icmp .ge 49, 3) := by decide +kernel
theorem dX4_productBy_14 : decode cX4_productBy 14 = .ok (.iload_n 2, 1) := by decide +kernel
theorem dX4_productBy_15 : decode cX4_productBy 15 = .ok (.iload 5, 2) := by decide +kernel
theorem dX4_productBy_17 : decode cX4_productBy 17 = .ok (.ishr, 1) := by decide +kernel
theorem dX4_productBy_18 : decode cX4_productBy 18 = .ok (.iconst 1, 1) := by decide +kernel
theorem dX4_productBy_19 : decode cX4_productBy 19 = .ok (.iand, 1) := by decide +kernel
theorem dX4_productBy_20 : decode cX4_productBy 20 = .ok (.ifCond .eq 8, 3) := by decide +kernel
theorem dX4_productBy_23 : decode cX4_productBy 23 = .ok (.iload_n 3, 1) := by decide +kernel
theorem dX4_productBy_24 : decode cX4_productBy 24 = .ok (.iload 4, 2) := by decide +kernel
theorem dX4_productBy_26 : decode cX4_productBy 26 = .ok (.ixor, 1) := by decide +kernel
theorem dX4_productBy_27 : decode cX4_productBy 27 = .ok (.istore_n 3, 1) := by decide +kernel
theorem dX4_productBy_28 : decode cX4_productBy 28 = .ok (.iload 4, 2) := by decide +kernel
theorem dX4_productBy_30 : decode cX4_productBy 30 = .ok (.iconst 3, 1) := by decide +kernel
theorem dX4_productBy_31 : decode cX4_productBy 31 = .ok (.iushr, 1) := by decide +kernel
theorem dX4_productBy_32 : decode cX4_productBy 32 = .ok (.ldc 39, 2) := by decide +kernel
theorem dX4_productBy_34 : decode cX4_productBy 34 = .ok (.iand, 1) := by decide +kernel
theorem dX4_productBy_35 : decode cX4_productBy 35 = .ok (.istore 6, 2) := by decide +kernel
theorem dX4_productBy_37 : decode cX4_productBy 37 = .ok (.iload 4, 2) := by decide +kernel
theorem dX4_productBy_39 : decode cX4_productBy 39 = .ok (.iconst 1, 1) := by decide +kernel
theorem dX4_productBy_40 : decode cX4_productBy 40 = .ok (.ishl, 1) := by decide +kernel
theorem dX4_productBy_41 : decode cX4_productBy 41 = .ok (.ldc 40, 2) := by decide +kernel
theorem dX4_productBy_43 : decode cX4_productBy 43 = .ok (.iand, 1) := by decide +kernel
theorem dX4_productBy_44 : decode cX4_productBy 44 = .ok (.iload 6, 2) := by decide +kernel
theorem dX4_productBy_46 : decode cX4_productBy 46 = .ok (.iload_n 0, 1) := by decide +kernel
theorem dX4_productBy_47 : decode cX4_productBy 47 = .ok (.bipush 15, 2) := by decide +kernel
theorem dX4_productBy_49 : decode cX4_productBy 49 = .ok (.iand, 1) := by decide +kernel
theorem dX4_productBy_50 : decode cX4_productBy 50 = .ok (.imul, 1) := by decide +kernel
theorem dX4_productBy_51 : decode cX4_productBy 51 = .ok (.ixor, 1) := by decide +kernel
theorem dX4_productBy_52 : decode cX4_productBy 52 = .ok (.istore 4, 2) := by decide +kernel
theorem dX4_productBy_54 : decode cX4_productBy 54 = .ok (.iinc 5 1, 3) := by decide +kernel
theorem dX4_productBy_57 : decode cX4_productBy 57 = .ok (.goto (-49), 3) := by decide +kernel
theorem dX4_productBy_60 : decode cX4_productBy 60 = .ok (.iload_n 3, 1) := by decide +kernel
theorem dX4_productBy_61 : decode cX4_productBy 61 = .ok (.ireturn, 1) := by decide +kernel
theorem dX4_product_0 : decode cX4_product 0 = .ok (.aload_n 0, 1) := by decide +kernel
theorem dX4_product_1 : decode cX4_product 1 = .ok (.getfield 17, 3) := by decide +kernel
theorem dX4_product_4 : decode cX4_product 4 = .ok (.iload_n 1, 1) := by decide +kernel
theorem dX4_product_5 : decode cX4_product 5 = .ok (.iload_n 2, 1) := by decide +kernel
theorem dX4_product_6 : decode cX4_product 6 = .ok (.invokestatic 32, 3) := by decide +kernel
theorem dX4_product_9 : decode cX4_product 9 = .ok (.ireturn, 1) := by decide +kernel
theorem dX4_inverse_0 : decode cX4_inverse 0 = .ok (.iload_n 1, 1) := by decide +kernel
theorem dX4_inverse_1 : decode cX4_inverse 1 = .ok (.invokestatic 41, 3) := by decide +kernel
theorem dX4_inverse_4 : decode cX4_inverse 4 = .ok (.ifCond .eq 12, 3) := by decide +kernel
theorem dX4_inverse_7 : decode cX4_inverse 7 = .ok (.aload_n 0, 1) := by decide +kernel
theorem dX4_inverse_8 : decode cX4_inverse 8 = .ok (.getfield 7, 3) := by decide +kernel
theorem dX4_inverse_11 : decode cX4_inverse 11 = .ok (.iload_n 1, 1) := by decide +kernel
theorem dX4_inverse_12 : decode cX4_inverse 12 = .ok (.iaload, 1) := by decide +kernel
theorem dX4_inverse_13 : decode cX4_inverse 13 = .ok (.goto 4, 3) := by decide +kernel
theorem dX4_inverse_16 : decode cX4_inverse 16 = .ok (.iconst 0, 1) := by decide +kernel
theorem dX4_inverse_17 : decode cX4_inverse 17 = .ok (.ireturn, 1) := by decide +kernel
theorem dX4_power_0 : decode cX4_power 0 = .ok (.iconst 1, 1) := by decide +kernel
theorem dX4_power_1 : decode cX4_power 1 = .ok (.istore_n 3, 1) := by decide +kernel
theorem dX4_power_2 : decode cX4_power 2 = .ok (.iconst 0, 1) := by decide +kernel
theorem dX4_power_3 : decode cX4_power 3 = .ok (.istore 4, 2) := by decide +kernel
theorem dX4_power_5 : decode cX4_power 5 = .ok (.iload 4, 2) := by decide +kernel
theorem dX4_power_7 : decode cX4_power 7 = .ok (.iload_n 2, 1) := by decide +kernel
theorem dX4_power_8 : decode cX4_power 8 = .ok (.if_icmp .ge 16, 3) := by decide +kernel
theorem dX4_power_11 : decode cX4_power 11 = .ok (.aload_n 0, 1) := by decide +kernel
theorem dX4_power_12 : decode cX4_power 12 = .ok (.iload_n 3, 1) := by decide +kernel
theorem dX4_power_13 : decode cX4_power 13 = .ok (.iload_n 1, 1) := by decide +kernel
theorem dX4_power_14 : decode cX4_power 14 = .ok (.invokevirtual 47, 3) := by decide +kernel
theorem dX4_power_17 : decode cX4_power 17 = .ok (.istore_n 3, 1) := by decide +kernel
theorem dX4_power_18 : decode cX4_power 18 = .ok (.iinc 4 1, 3) := by decide +kernel
theorem dX4_power_21 : decode cX4_power 21 = .ok (.goto (-16), 3) := by decide +kernel
theorem dX4_power_24 : decode cX4_power 24 = .ok (.iload_n 3, 1) := by decide +kernel
theorem dX4_power_25 : decode cX4_power 25 = .ok (.ireturn, 1) := by decide +kernel
theorem dX4_logarithm_0 : decode cX4_logarithm 0 = .ok (.iconst 1, 1) := by decide +kernel
theorem dX4_logarithm_1 : decode cX4_logarithm 1 = .ok (.istore_n 2, 1) := by decide +kernel
theorem dX4_logarithm_2 : decode cX4_logarithm 2 = .ok (.iconst 0, 1) := by decide +kernel
theorem dX4_logarithm_3 : decode cX4_logarithm 3 = .ok (.istore_n 3, 1) := by decide +kernel
theorem dX4_logarithm_4 : decode cX4_logarithm 4 = .ok (.iload_n 3, 1) := by decide +kernel
theorem dX4_logarithm_5 : decode cX4_logarithm 5 = .ok (.bipush 15, 2) := by decide +kernel
theorem dX4_logarithm_7 : decode cX4_logarithm 7 = .ok (.if_icmp .ge 26, 3) := by decide +kernel
theorem dX4_logarithm_10 : decode cX4_logarithm 10 = .ok (.iload_n 2, 1) := by decide +kernel
theorem dX4_logarithm_11 : decode cX4_logarithm 11 = .ok (.iload_n 1, 1) := by decide +kernel
theorem dX4_logarithm_12 : decode cX4_logarithm 12 = .ok (.if_icmp .ne 5, 3) := by decide +kernel
theorem dX4_logarithm_15 : decode cX4_logarithm 15 = .ok (.iload_n 3, 1) := by decide +kernel
theorem dX4_logarithm_16 : decode cX4_logarithm 16 = .ok (.ireturn, 1) := by decide +kernel
theorem dX4_logarithm_17 : decode cX4_logarithm 17 = .ok (.aload_n 0, 1) := by decide +kernel
theorem dX4_logarithm_18 : decode cX4_logarithm 18 = .ok (.iload_n 2, 1) := by decide +kernel
theorem dX4_logarithm_19 : decode cX4_logarithm 19 = .ok (.aload_n 0, 1) := by decide +kernel
theorem dX4_logarithm_20 : decode cX4_logarithm 20 = .ok (.getfield 25, 3) := by decide +kernel
theorem dX4_logarithm_23 : decode cX4_logarithm 23 = .ok (.invokevirtual 47, 3) := by decide +kernel
theorem dX4_logarithm_26 : decode cX4_logarithm 26 = .ok (.istore_n 2, 1) := by decide +kernel
theorem dX4_logarithm_27 : decode cX4_logarithm 27 = .ok (.iinc 3 1, 3) := by decide +kernel
theorem dX4_logarithm_30 : decode cX4_logarithm 30 = .ok (.goto (-26), 3) := by decide +kernel
theorem dX4_logarithm_33 : decode cX4_logarithm 33 = .ok (.iconst 0, 1) := by decide +kernel
theorem dX4_logarithm_34 : decode cX4_logarithm 34 = .ok (.ireturn, 1) := by decide +kernel
theorem dX5_init_0 : decode cX5_init 0 = .ok (.aload_n 0, 1) := by decide +kernel
theorem dX5_init_1 : decode cX5_init 1 = .ok (.invokespecial 1, 3) := by decide +kernel
theorem dX5_init_4 : decode cX5_init 4 = .ok (.iconst 0, 1) := by decide +kernel
theorem dX5_init_5 : decode cX5_init 5 = .ok (.iload_n 1, 1) := by decide +kernel
theorem dX5_init_6 : decode cX5_init 6 = .ok (.invokestatic 7, 3) := by decide +kernel
theorem dX5_init_9 : decode cX5_init 9 = .ok (.istore_n 2, 1) := by decide +kernel
theorem dX5_init_10 : decode cX5_init 10 = .ok (.aload_n 0, 1) := by decide +kernel
theorem dX5_init_11 : decode cX5_init 11 = .ok (.iload_n 2, 1) := by decide +kernel
theorem dX5_init_12 : decode cX5_init 12 = .ok (.newarray .int, 2) := by decide +kernel
theorem dX5_init_14 : decode cX5_init 14 = .ok (.putfield 13, 3) := by decide +kernel
theorem dX5_init_17 : decode cX5_init 17 = .ok (.aload_n 0, 1) := by decide +kernel
theorem dX5_init_18 : decode cX5_init 18 = .ok (.iload_n 2, 1) := by decide +kernel
theorem dX5_init_19 : decode cX5_init 19 = .ok (.newarray .int, 2) := by decide +kernel
theorem dX5_init_21 : decode cX5_init 21 = .ok (.putfield 19, 3) := by decide +kernel
theorem dX5_init_24 : decode cX5_init 24 = .ok (.aload_n 0, 1) := by decide +kernel
theorem dX5_init_25 : decode cX5_init 25 = .ok (.iconst 0, 1) := by decide +kernel
theorem dX5_init_26 : decode cX5_init 26 = .ok (.putfield 22, 3) := by decide +kernel
theorem dX5_init_29 : decode cX5_init 29 = .ok (.return_, 1) := by decide +kernel
theorem dX5_add_0 : decode cX5_add 0 = .ok (.aload_n 0, 1) := by decide +kernel
theorem dX5_add_1 : decode cX5_add 1 = .ok (.getfield 22, 3) := by decide +kernel
theorem dX5_add_4 : decode cX5_add 4 = .ok (.aload_n 0, 1) := by decide +kernel
theorem dX5_add_5 : decode cX5_add 5 = .ok (.getfield 13, 3) := by decide +kernel
theorem dX5_add_8 : decode cX5_add 8 = .ok (.arraylength, 1) := by decide +kernel
theorem dX5_add_9 : decode cX5_add 9 = .ok (.if_icmp .lt 5, 3) := by decide +kernel
theorem dX5_add_12 : decode cX5_add 12 = .ok (.iconst 0, 1) := by decide +kernel
theorem dX5_add_13 : decode cX5_add 13 = .ok (.ireturn, 1) := by decide +kernel
theorem dX5_add_14 : decode cX5_add 14 = .ok (.aload_n 0, 1) := by decide +kernel
theorem dX5_add_15 : decode cX5_add 15 = .ok (.getfield 13, 3) := by decide +kernel
theorem dX5_add_18 : decode cX5_add 18 = .ok (.aload_n 0, 1) := by decide +kernel
theorem dX5_add_19 : decode cX5_add 19 = .ok (.getfield 22, 3) := by decide +kernel
theorem dX5_add_22 : decode cX5_add 22 = .ok (.iload_n 1, 1) := by decide +kernel
theorem dX5_add_23 : decode cX5_add 23 = .ok (.iastore, 1) := by decide +kernel
theorem dX5_add_24 : decode cX5_add 24 = .ok (.aload_n 0, 1) := by decide +kernel
theorem dX5_add_25 : decode cX5_add 25 = .ok (.getfield 19, 3) := by decide +kernel
theorem dX5_add_28 : decode cX5_add 28 = .ok (.aload_n 0, 1) := by decide +kernel
theorem dX5_add_29 : decode cX5_add 29 = .ok (.getfield 22, 3) := by decide +kernel
theorem dX5_add_32 : decode cX5_add 32 = .ok (.iload_n 2, 1) := by decide +kernel
theorem dX5_add_33 : decode cX5_add 33 = .ok (.iastore, 1) := by decide +kernel
theorem dX5_add_34 : decode cX5_add 34 = .ok (.aload_n 0, 1) := by decide +kernel
theorem dX5_add_35 : decode cX5_add 35 = .ok (.dup, 1) := by decide +kernel
theorem dX5_add_36 : decode cX5_add 36 = .ok (.getfield 22, 3) := by decide +kernel
theorem dX5_add_39 : decode cX5_add 39 = .ok (.iconst 1, 1) := by decide +kernel
theorem dX5_add_40 : decode cX5_add 40 = .ok (.iadd, 1) := by decide +kernel
theorem dX5_add_41 : decode cX5_add 41 = .ok (.putfield 22, 3) := by decide +kernel
theorem dX5_add_44 : decode cX5_add 44 = .ok (.iconst 1, 1) := by decide +kernel
theorem dX5_add_45 : decode cX5_add 45 = .ok (.ireturn, 1) := by decide +kernel
theorem dX5_copyFrom_0 : decode cX5_copyFrom 0 = .ok (.aload_n 1, 1) := by decide +kernel
theorem dX5_copyFrom_1 : decode cX5_copyFrom 1 = .ok (.getfield 22, 3) := by decide +kernel
theorem dX5_copyFrom_4 : decode cX5_copyFrom 4 = .ok (.aload_n 0, 1) := by decide +kernel
theorem dX5_copyFrom_5 : decode cX5_copyFrom 5 = .ok (.getfield 13, 3) := by decide +kernel
theorem dX5_copyFrom_8 : decode cX5_copyFrom 8 = .ok (.arraylength, 1) := by decide +kernel
theorem dX5_copyFrom_9 : decode cX5_copyFrom 9 = .ok (.invokestatic 26, 3) := by decide +kernel
theorem dX5_copyFrom_12 : decode cX5_copyFrom 12 = .ok (.istore_n 2, 1) := by decide +kernel
theorem dX5_copyFrom_13 : decode cX5_copyFrom 13 = .ok (.aload_n 1, 1) := by decide +kernel
theorem dX5_copyFrom_14 : decode cX5_copyFrom 14 = .ok (.getfield 13, 3) := by decide +kernel
theorem dX5_copyFrom_17 : decode cX5_copyFrom 17 = .ok (.iconst 0, 1) := by decide +kernel
theorem dX5_copyFrom_18 : decode cX5_copyFrom 18 = .ok (.aload_n 0, 1) := by decide +kernel
theorem dX5_copyFrom_19 : decode cX5_copyFrom 19 = .ok (.getfield 13, 3) := by decide +kernel
theorem dX5_copyFrom_22 : decode cX5_copyFrom 22 = .ok (.iconst 0, 1) := by decide +kernel
theorem dX5_copyFrom_23 : decode cX5_copyFrom 23 = .ok (.iload_n 2, 1) := by decide +kernel
theorem dX5_copyFrom_24 : decode cX5_copyFrom 24 = .ok (.invokestatic 29, 3) := by decide +kernel
theorem dX5_copyFrom_27 : decode cX5_copyFrom 27 = .ok (.aload_n 1, 1) := by decide +kernel
theorem dX5_copyFrom_28 : decode cX5_copyFrom 28 = .ok (.getfield 19, 3) := by decide +kernel
theorem dX5_copyFrom_31 : decode cX5_copyFrom 31 = .ok (.iconst 0, 1) := by decide +kernel
theorem dX5_copyFrom_32 : decode cX5_copyFrom 32 = .ok (.aload_n 0, 1) := by decide +kernel
theorem dX5_copyFrom_33 : decode cX5_copyFrom 33 = .ok (.getfield 19, 3) := by decide +kernel
theorem dX5_copyFrom_36 : decode cX5_copyFrom 36 = .ok (.iconst 0, 1) := by decide +kernel
theorem dX5_copyFrom_37 : decode cX5_copyFrom 37 = .ok (.iload_n 2, 1) := by decide +kernel
theorem dX5_copyFrom_38 : decode cX5_copyFrom 38 = .ok (.invokestatic 29, 3) := by decide +kernel
theorem dX5_copyFrom_41 : decode cX5_copyFrom 41 = .ok (.aload_n 0, 1) := by decide +kernel
theorem dX5_copyFrom_42 : decode cX5_copyFrom 42 = .ok (.iload_n 2, 1) := by decide +kernel
theorem dX5_copyFrom_43 : decode cX5_copyFrom 43 = .ok (.putfield 22, 3) := by decide +kernel
theorem dX5_copyFrom_46 : decode cX5_copyFrom 46 = .ok (.return_, 1) := by decide +kernel
theorem dX6_init_0 : decode cX6_init 0 = .ok (.aload_n 0, 1) := by decide +kernel
theorem dX6_init_1 : decode cX6_init 1 = .ok (.invokespecial 3, 3) := by decide +kernel
theorem dX6_init_4 : decode cX6_init 4 = .ok (.aload_n 0, 1) := by decide +kernel
theorem dX6_init_5 : decode cX6_init 5 = .ok (.sipush 1024, 3) := by decide +kernel
theorem dX6_init_8 : decode cX6_init 8 = .ok (.newarray .int, 2) := by decide +kernel
theorem dX6_init_10 : decode cX6_init 10 = .ok (.putfield 9, 3) := by decide +kernel
theorem dX6_init_13 : decode cX6_init 13 = .ok (.aload_n 0, 1) := by decide +kernel
theorem dX6_init_14 : decode cX6_init 14 = .ok (.bipush 11, 2) := by decide +kernel
theorem dX6_init_16 : decode cX6_init 16 = .ok (.anewarray 15, 3) := by decide +kernel
theorem dX6_init_19 : decode cX6_init 19 = .ok (.putfield 17, 3) := by decide +kernel
theorem dX6_init_22 : decode cX6_init 22 = .ok (.iconst 0, 1) := by decide +kernel
theorem dX6_init_23 : decode cX6_init 23 = .ok (.istore_n 2, 1) := by decide +kernel
theorem dX6_init_24 : decode cX6_init 24 = .ok (.iload_n 2, 1) := by decide +kernel
theorem dX6_init_25 : decode cX6_init 25 = .ok (.aload_n 0, 1) := by decide +kernel
theorem dX6_init_26 : decode cX6_init 26 = .ok (.getfield 17, 3) := by decide +kernel
theorem dX6_init_29 : decode cX6_init 29 = .ok (.arraylength, 1) := by decide +kernel
theorem dX6_init_30 : decode cX6_init 30 = .ok (.if_icmp .ge 23, 3) := by decide +kernel
theorem dX6_init_33 : decode cX6_init 33 = .ok (.aload_n 0, 1) := by decide +kernel
theorem dX6_init_34 : decode cX6_init 34 = .ok (.getfield 17, 3) := by decide +kernel
theorem dX6_init_37 : decode cX6_init 37 = .ok (.iload_n 2, 1) := by decide +kernel
theorem dX6_init_38 : decode cX6_init 38 = .ok (.new 15, 3) := by decide +kernel
theorem dX6_init_41 : decode cX6_init 41 = .ok (.dup, 1) := by decide +kernel
theorem dX6_init_42 : decode cX6_init 42 = .ok (.aload_n 1, 1) := by decide +kernel
theorem dX6_init_43 : decode cX6_init 43 = .ok (.invokespecial 21, 3) := by decide +kernel
theorem dX6_init_46 : decode cX6_init 46 = .ok (.aastore, 1) := by decide +kernel
theorem dX6_init_47 : decode cX6_init 47 = .ok (.iinc 2 1, 3) := by decide +kernel
theorem dX6_init_50 : decode cX6_init 50 = .ok (.goto (-26), 3) := by decide +kernel
theorem dX6_init_53 : decode cX6_init 53 = .ok (.return_, 1) := by decide +kernel
theorem dX6_rankOf_0 : decode cX6_rankOf 0 = .ok (.iload_n 1, 1) := by decide +kernel
theorem dX6_rankOf_1 : decode cX6_rankOf 1 = .ok (.ifCond .lt 21, 3) := by decide +kernel
theorem dX6_rankOf_4 : decode cX6_rankOf 4 = .ok (.iload_n 1, 1) := by decide +kernel
theorem dX6_rankOf_5 : decode cX6_rankOf 5 = .ok (.aload_n 0, 1) := by decide +kernel
theorem dX6_rankOf_6 : decode cX6_rankOf 6 = .ok (.getfield 9, 3) := by decide +kernel
theorem dX6_rankOf_9 : decode cX6_rankOf 9 = .ok (.arraylength, 1) := by decide +kernel
theorem dX6_rankOf_10 : decode cX6_rankOf 10 = .ok (.if_icmp .ge 12, 3) := by decide +kernel
theorem dX6_rankOf_13 : decode cX6_rankOf 13 = .ok (.aload_n 0, 1) := by decide +kernel
theorem dX6_rankOf_14 : decode cX6_rankOf 14 = .ok (.getfield 9, 3) := by decide +kernel
theorem dX6_rankOf_17 : decode cX6_rankOf 17 = .ok (.iload_n 1, 1) := by decide +kernel
theorem dX6_rankOf_18 : decode cX6_rankOf 18 = .ok (.iaload, 1) := by decide +kernel
theorem dX6_rankOf_19 : decode cX6_rankOf 19 = .ok (.goto 4, 3) := by decide +kernel
theorem dX6_rankOf_22 : decode cX6_rankOf 22 = .ok (.iconst 0, 1) := by decide +kernel
theorem dX6_rankOf_23 : decode cX6_rankOf 23 = .ok (.ireturn, 1) := by decide +kernel
theorem dX6_tells_0 : decode cX6_tells 0 = .ok (.aload_n 0, 1) := by decide +kernel
theorem dX6_tells_1 : decode cX6_tells 1 = .ok (.iload_n 1, 1) := by decide +kernel
theorem dX6_tells_2 : decode cX6_tells 2 = .ok (.iconst 1, 1) := by decide +kernel
theorem dX6_tells_3 : decode cX6_tells 3 = .ok (.iload_n 2, 1) := by decide +kernel
theorem dX6_tells_4 : decode cX6_tells 4 = .ok (.ishl, 1) := by decide +kernel
theorem dX6_tells_5 : decode cX6_tells 5 = .ok (.ior, 1) := by decide +kernel
theorem dX6_tells_6 : decode cX6_tells 6 = .ok (.invokevirtual 24, 3) := by decide +kernel
theorem dX6_tells_9 : decode cX6_tells 9 = .ok (.aload_n 0, 1) := by decide +kernel
theorem dX6_tells_10 : decode cX6_tells 10 = .ok (.iload_n 1, 1) := by decide +kernel
theorem dX6_tells_11 : decode cX6_tells 11 = .ok (.invokevirtual 24, 3) := by decide +kernel
theorem dX6_tells_14 : decode cX6_tells 14 = .ok (.if_icmp .ne 7, 3) := by decide +kernel
theorem dX6_tells_17 : decode cX6_tells 17 = .ok (.iconst 1, 1) := by decide +kernel
theorem dX6_tells_18 : decode cX6_tells 18 = .ok (.goto 4, 3) := by decide +kernel
theorem dX6_tells_21 : decode cX6_tells 21 = .ok (.iconst 0, 1) := by decide +kernel
theorem dX6_tells_22 : decode cX6_tells 22 = .ok (.ireturn, 1) := by decide +kernel
theorem dX6_extend_0 : decode cX6_extend 0 = .ok (.aload_n 1, 1) := by decide +kernel
theorem dX6_extend_1 : decode cX6_extend 1 = .ok (.iload_n 2, 1) := by decide +kernel
theorem dX6_extend_2 : decode cX6_extend 2 = .ok (.invokevirtual 28, 3) := by decide +kernel
theorem dX6_extend_5 : decode cX6_extend 5 = .ok (.ifCond .ne 4, 3) := by decide +kernel
theorem dX6_extend_8 : decode cX6_extend 8 = .ok (.return_, 1) := by decide +kernel
theorem dX6_extend_9 : decode cX6_extend 9 = .ok (.iconst 1, 1) := by decide +kernel
theorem dX6_extend_10 : decode cX6_extend 10 = .ok (.iload_n 2, 1) := by decide +kernel
theorem dX6_extend_11 : decode cX6_extend 11 = .ok (.ishl, 1) := by decide +kernel
theorem dX6_extend_12 : decode cX6_extend 12 = .ok (.istore_n 3, 1) := by decide +kernel
theorem dX6_extend_13 : decode cX6_extend 13 = .ok (.iconst 0, 1) := by decide +kernel
theorem dX6_extend_14 : decode cX6_extend 14 = .ok (.istore 4, 2) := by decide +kernel
theorem dX6_extend_16 : decode cX6_extend 16 = .ok (.iload 4, 2) := by decide +kernel
theorem dX6_extend_18 : decode cX6_extend 18 = .ok (.iload_n 3, 1) := by decide +kernel
theorem dX6_extend_19 : decode cX6_extend 19 = .ok (.if_icmp .ge 116, 3) := by decide +kernel
theorem dX6_extend_22 : decode cX6_extend 22 = .ok (.iload 4, 2) := by decide +kernel
theorem dX6_extend_24 : decode cX6_extend 24 = .ok (.invokestatic 34, 3) := by decide +kernel
theorem dX6_extend_27 : decode cX6_extend 27 = .ok (.istore 5, 2) := by decide +kernel
theorem dX6_extend_29 : decode cX6_extend 29 = .ok (.iload 4, 2) := by decide +kernel
theorem dX6_extend_31 : decode cX6_extend 31 = .ok (.ifCond .eq 45, 3) := by decide +kernel
theorem dX6_extend_34 : decode cX6_extend 34 = .ok (.aload_n 0, 1) := by decide +kernel
theorem dX6_extend_35 : decode cX6_extend 35 = .ok (.getfield 17, 3) := by decide +kernel
theorem dX6_extend_38 : decode cX6_extend 38 = .ok (.iload 5, 2) := by decide +kernel
theorem dX6_extend_40 : decode cX6_extend 40 = .ok (.aaload, 1) := by decide +kernel
theorem dX6_extend_41 : decode cX6_extend 41 = .ok (.aload_n 0, 1) := by decide +kernel
theorem dX6_extend_42 : decode cX6_extend 42 = .ok (.getfield 17, 3) := by decide +kernel
theorem dX6_extend_45 : decode cX6_extend 45 = .ok (.iload 4, 2) := by decide +kernel
theorem dX6_extend_47 : decode cX6_extend 47 = .ok (.iload 4, 2) := by decide +kernel
theorem dX6_extend_49 : decode cX6_extend 49 = .ok (.iconst 1, 1) := by decide +kernel
theorem dX6_extend_50 : decode cX6_extend 50 = .ok (.isub, 1) := by decide +kernel
theorem dX6_extend_51 : decode cX6_extend 51 = .ok (.iand, 1) := by decide +kernel
theorem dX6_extend_52 : decode cX6_extend 52 = .ok (.invokestatic 34, 3) := by decide +kernel
theorem dX6_extend_55 : decode cX6_extend 55 = .ok (.aaload, 1) := by decide +kernel
theorem dX6_extend_56 : decode cX6_extend 56 = .ok (.invokevirtual 37, 3) := by decide +kernel
theorem dX6_extend_59 : decode cX6_extend 59 = .ok (.aload_n 0, 1) := by decide +kernel
theorem dX6_extend_60 : decode cX6_extend 60 = .ok (.getfield 17, 3) := by decide +kernel
theorem dX6_extend_63 : decode cX6_extend 63 = .ok (.iload 5, 2) := by decide +kernel
theorem dX6_extend_65 : decode cX6_extend 65 = .ok (.aaload, 1) := by decide +kernel
theorem dX6_extend_66 : decode cX6_extend 66 = .ok (.aload_n 1, 1) := by decide +kernel
theorem dX6_extend_67 : decode cX6_extend 67 = .ok (.getfield 41, 3) := by decide +kernel
theorem dX6_extend_70 : decode cX6_extend 70 = .ok (.iload 5, 2) := by decide +kernel
theorem dX6_extend_72 : decode cX6_extend 72 = .ok (.iaload, 1) := by decide +kernel
theorem dX6_extend_73 : decode cX6_extend 73 = .ok (.invokevirtual 44, 3) := by decide +kernel
theorem dX6_extend_76 : decode cX6_extend 76 = .ok (.aload_n 0, 1) := by decide +kernel
theorem dX6_extend_77 : decode cX6_extend 77 = .ok (.getfield 17, 3) := by decide +kernel
theorem dX6_extend_80 : decode cX6_extend 80 = .ok (.iload 5, 2) := by decide +kernel
theorem dX6_extend_82 : decode cX6_extend 82 = .ok (.aaload, 1) := by decide +kernel
theorem dX6_extend_83 : decode cX6_extend 83 = .ok (.aload_n 1, 1) := by decide +kernel
theorem dX6_extend_84 : decode cX6_extend 84 = .ok (.getfield 41, 3) := by decide +kernel
theorem dX6_extend_87 : decode cX6_extend 87 = .ok (.iload_n 2, 1) := by decide +kernel
theorem dX6_extend_88 : decode cX6_extend 88 = .ok (.iaload, 1) := by decide +kernel
theorem dX6_extend_89 : decode cX6_extend 89 = .ok (.invokevirtual 48, 3) := by decide +kernel
theorem dX6_extend_92 : decode cX6_extend 92 = .ok (.ifCond .ne 7, 3) := by decide +kernel
theorem dX6_extend_95 : decode cX6_extend 95 = .ok (.iconst 1, 1) := by decide +kernel
theorem dX6_extend_96 : decode cX6_extend 96 = .ok (.goto 4, 3) := by decide +kernel
theorem dX6_extend_99 : decode cX6_extend 99 = .ok (.iconst 0, 1) := by decide +kernel
theorem dX6_extend_100 : decode cX6_extend 100 = .ok (.istore 6, 2) := by decide +kernel
theorem dX6_extend_102 : decode cX6_extend 102 = .ok (.aload_n 0, 1) := by decide +kernel
theorem dX6_extend_103 : decode cX6_extend 103 = .ok (.getfield 9, 3) := by decide +kernel
theorem dX6_extend_106 : decode cX6_extend 106 = .ok (.iload 4, 2) := by decide +kernel
theorem dX6_extend_108 : decode cX6_extend 108 = .ok (.iload_n 3, 1) := by decide +kernel
theorem dX6_extend_109 : decode cX6_extend 109 = .ok (.ior, 1) := by decide +kernel
theorem dX6_extend_110 : decode cX6_extend 110 = .ok (.aload_n 0, 1) := by decide +kernel
theorem dX6_extend_111 : decode cX6_extend 111 = .ok (.getfield 9, 3) := by decide +kernel
theorem dX6_extend_114 : decode cX6_extend 114 = .ok (.iload 4, 2) := by decide +kernel
theorem dX6_extend_116 : decode cX6_extend 116 = .ok (.iaload, 1) := by decide +kernel
theorem dX6_extend_117 : decode cX6_extend 117 = .ok (.iload 6, 2) := by decide +kernel
theorem dX6_extend_119 : decode cX6_extend 119 = .ok (.ifCond .eq 7, 3) := by decide +kernel
theorem dX6_extend_122 : decode cX6_extend 122 = .ok (.iconst 0, 1) := by decide +kernel
theorem dX6_extend_123 : decode cX6_extend 123 = .ok (.goto 4, 3) := by decide +kernel
theorem dX6_extend_126 : decode cX6_extend 126 = .ok (.iconst 1, 1) := by decide +kernel
theorem dX6_extend_127 : decode cX6_extend 127 = .ok (.iadd, 1) := by decide +kernel
theorem dX6_extend_128 : decode cX6_extend 128 = .ok (.iastore, 1) := by decide +kernel
theorem dX6_extend_129 : decode cX6_extend 129 = .ok (.iinc 4 1, 3) := by decide +kernel
theorem dX6_extend_132 : decode cX6_extend 132 = .ok (.goto (-116), 3) := by decide +kernel
theorem dX6_extend_135 : decode cX6_extend 135 = .ok (.return_, 1) := by decide +kernel
theorem dX6_leastOf_0 : decode cX6_leastOf 0 = .ok (.iconst 0, 1) := by decide +kernel
theorem dX6_leastOf_1 : decode cX6_leastOf 1 = .ok (.istore_n 1, 1) := by decide +kernel
theorem dX6_leastOf_2 : decode cX6_leastOf 2 = .ok (.iload_n 1, 1) := by decide +kernel
theorem dX6_leastOf_3 : decode cX6_leastOf 3 = .ok (.bipush 10, 2) := by decide +kernel
theorem dX6_leastOf_5 : decode cX6_leastOf 5 = .ok (.if_icmp .ge 19, 3) := by decide +kernel
theorem dX6_leastOf_8 : decode cX6_leastOf 8 = .ok (.iload_n 0, 1) := by decide +kernel
theorem dX6_leastOf_9 : decode cX6_leastOf 9 = .ok (.iload_n 1, 1) := by decide +kernel
theorem dX6_leastOf_10 : decode cX6_leastOf 10 = .ok (.ishr, 1) := by decide +kernel
theorem dX6_leastOf_11 : decode cX6_leastOf 11 = .ok (.iconst 1, 1) := by decide +kernel
theorem dX6_leastOf_12 : decode cX6_leastOf 12 = .ok (.iand, 1) := by decide +kernel
theorem dX6_leastOf_13 : decode cX6_leastOf 13 = .ok (.ifCond .eq 5, 3) := by decide +kernel
theorem dX6_leastOf_16 : decode cX6_leastOf 16 = .ok (.iload_n 1, 1) := by decide +kernel
theorem dX6_leastOf_17 : decode cX6_leastOf 17 = .ok (.ireturn, 1) := by decide +kernel
theorem dX6_leastOf_18 : decode cX6_leastOf 18 = .ok (.iinc 1 1, 3) := by decide +kernel
theorem dX6_leastOf_21 : decode cX6_leastOf 21 = .ok (.goto (-19), 3) := by decide +kernel
theorem dX6_leastOf_24 : decode cX6_leastOf 24 = .ok (.bipush 10, 2) := by decide +kernel
theorem dX6_leastOf_26 : decode cX6_leastOf 26 = .ok (.ireturn, 1) := by decide +kernel
theorem dX7_init_0 : decode cX7_init 0 = .ok (.aload_n 0, 1) := by decide +kernel
theorem dX7_init_1 : decode cX7_init 1 = .ok (.invokespecial 3, 3) := by decide +kernel
theorem dX7_init_4 : decode cX7_init 4 = .ok (.aload_n 0, 1) := by decide +kernel
theorem dX7_init_5 : decode cX7_init 5 = .ok (.aload_n 1, 1) := by decide +kernel
theorem dX7_init_6 : decode cX7_init 6 = .ok (.putfield 9, 3) := by decide +kernel
theorem dX7_init_9 : decode cX7_init 9 = .ok (.aload_n 0, 1) := by decide +kernel
theorem dX7_init_10 : decode cX7_init 10 = .ok (.bipush 6, 2) := by decide +kernel
theorem dX7_init_12 : decode cX7_init 12 = .ok (.newarray .int, 2) := by decide +kernel
theorem dX7_init_14 : decode cX7_init 14 = .ok (.putfield 15, 3) := by decide +kernel
theorem dX7_init_17 : decode cX7_init 17 = .ok (.aload_n 0, 1) := by decide +kernel
theorem dX7_init_18 : decode cX7_init 18 = .ok (.iconst 0, 1) := by decide +kernel
theorem dX7_init_19 : decode cX7_init 19 = .ok (.putfield 19, 3) := by decide +kernel
theorem dX7_init_22 : decode cX7_init 22 = .ok (.return_, 1) := by decide +kernel
theorem dX7_clear_0 : decode cX7_clear 0 = .ok (.iconst 0, 1) := by decide +kernel
theorem dX7_clear_1 : decode cX7_clear 1 = .ok (.istore_n 1, 1) := by decide +kernel
theorem dX7_clear_2 : decode cX7_clear 2 = .ok (.iload_n 1, 1) := by decide +kernel
theorem dX7_clear_3 : decode cX7_clear 3 = .ok (.bipush 6, 2) := by decide +kernel
theorem dX7_clear_5 : decode cX7_clear 5 = .ok (.if_icmp .ge 16, 3) := by decide +kernel
theorem dX7_clear_8 : decode cX7_clear 8 = .ok (.aload_n 0, 1) := by decide +kernel
theorem dX7_clear_9 : decode cX7_clear 9 = .ok (.getfield 15, 3) := by decide +kernel
theorem dX7_clear_12 : decode cX7_clear 12 = .ok (.iload_n 1, 1) := by decide +kernel
theorem dX7_clear_13 : decode cX7_clear 13 = .ok (.iconst 0, 1) := by decide +kernel
theorem dX7_clear_14 : decode cX7_clear 14 = .ok (.iastore, 1) := by decide +kernel
theorem dX7_clear_15 : decode cX7_clear 15 = .ok (.iinc 1 1, 3) := by decide +kernel
theorem dX7_clear_18 : decode cX7_clear 18 = .ok (.goto (-16), 3) := by decide +kernel
theorem dX7_clear_21 : decode cX7_clear 21 = .ok (.aload_n 0, 1) := by decide +kernel
theorem dX7_clear_22 : decode cX7_clear 22 = .ok (.iconst 0, 1) := by decide +kernel
theorem dX7_clear_23 : decode cX7_clear 23 = .ok (.putfield 19, 3) := by decide +kernel
theorem dX7_clear_26 : decode cX7_clear 26 = .ok (.return_, 1) := by decide +kernel
theorem dX7_copyFrom_0 : decode cX7_copyFrom 0 = .ok (.aload_n 1, 1) := by decide +kernel
theorem dX7_copyFrom_1 : decode cX7_copyFrom 1 = .ok (.getfield 15, 3) := by decide +kernel
theorem dX7_copyFrom_4 : decode cX7_copyFrom 4 = .ok (.iconst 0, 1) := by decide +kernel
theorem dX7_copyFrom_5 : decode cX7_copyFrom 5 = .ok (.aload_n 0, 1) := by decide +kernel
theorem dX7_copyFrom_6 : decode cX7_copyFrom 6 = .ok (.getfield 15, 3) := by decide +kernel
theorem dX7_copyFrom_9 : decode cX7_copyFrom 9 = .ok (.iconst 0, 1) := by decide +kernel
theorem dX7_copyFrom_10 : decode cX7_copyFrom 10 = .ok (.bipush 6, 2) := by decide +kernel
theorem dX7_copyFrom_12 : decode cX7_copyFrom 12 = .ok (.invokestatic 23, 3) := by decide +kernel
theorem dX7_copyFrom_15 : decode cX7_copyFrom 15 = .ok (.aload_n 0, 1) := by decide +kernel
theorem dX7_copyFrom_16 : decode cX7_copyFrom 16 = .ok (.aload_n 1, 1) := by decide +kernel
theorem dX7_copyFrom_17 : decode cX7_copyFrom 17 = .ok (.getfield 19, 3) := by decide +kernel
theorem dX7_copyFrom_20 : decode cX7_copyFrom 20 = .ok (.putfield 19, 3) := by decide +kernel
theorem dX7_copyFrom_23 : decode cX7_copyFrom 23 = .ok (.return_, 1) := by decide +kernel
theorem dX7_left_0 : decode cX7_left 0 = .ok (.iload_n 1, 1) := by decide +kernel
theorem dX7_left_1 : decode cX7_left 1 = .ok (.istore_n 2, 1) := by decide +kernel
theorem dX7_left_2 : decode cX7_left 2 = .ok (.iconst 5, 1) := by decide +kernel
theorem dX7_left_3 : decode cX7_left 3 = .ok (.istore_n 3, 1) := by decide +kernel
theorem dX7_left_4 : decode cX7_left 4 = .ok (.iload_n 3, 1) := by decide +kernel
theorem dX7_left_5 : decode cX7_left 5 = .ok (.ifCond .lt 51, 3) := by decide +kernel
theorem dX7_left_8 : decode cX7_left 8 = .ok (.iload_n 2, 1) := by decide +kernel
theorem dX7_left_9 : decode cX7_left 9 = .ok (.iload_n 3, 1) := by decide +kernel
theorem dX7_left_10 : decode cX7_left 10 = .ok (.invokestatic 29, 3) := by decide +kernel
theorem dX7_left_13 : decode cX7_left 13 = .ok (.istore 4, 2) := by decide +kernel
theorem dX7_left_15 : decode cX7_left 15 = .ok (.iload 4, 2) := by decide +kernel
theorem dX7_left_17 : decode cX7_left 17 = .ok (.ifCond .eq 33, 3) := by decide +kernel
theorem dX7_left_20 : decode cX7_left 20 = .ok (.aload_n 0, 1) := by decide +kernel
theorem dX7_left_21 : decode cX7_left 21 = .ok (.getfield 15, 3) := by decide +kernel
theorem dX7_left_24 : decode cX7_left 24 = .ok (.iload_n 3, 1) := by decide +kernel
theorem dX7_left_25 : decode cX7_left 25 = .ok (.iaload, 1) := by decide +kernel
theorem dX7_left_26 : decode cX7_left 26 = .ok (.ifCond .eq 24, 3) := by decide +kernel
theorem dX7_left_29 : decode cX7_left 29 = .ok (.iload_n 2, 1) := by decide +kernel
theorem dX7_left_30 : decode cX7_left 30 = .ok (.aload_n 0, 1) := by decide +kernel
theorem dX7_left_31 : decode cX7_left 31 = .ok (.getfield 9, 3) := by decide +kernel
theorem dX7_left_34 : decode cX7_left 34 = .ok (.getfield 33, 3) := by decide +kernel
theorem dX7_left_37 : decode cX7_left 37 = .ok (.aload_n 0, 1) := by decide +kernel
theorem dX7_left_38 : decode cX7_left 38 = .ok (.getfield 15, 3) := by decide +kernel
theorem dX7_left_41 : decode cX7_left 41 = .ok (.iload_n 3, 1) := by decide +kernel
theorem dX7_left_42 : decode cX7_left 42 = .ok (.iaload, 1) := by decide +kernel
theorem dX7_left_43 : decode cX7_left 43 = .ok (.iload 4, 2) := by decide +kernel
theorem dX7_left_45 : decode cX7_left 45 = .ok (.invokestatic 38, 3) := by decide +kernel
theorem dX7_left_48 : decode cX7_left 48 = .ok (.ixor, 1) := by decide +kernel
theorem dX7_left_49 : decode cX7_left 49 = .ok (.istore_n 2, 1) := by decide +kernel
theorem dX7_left_50 : decode cX7_left 50 = .ok (.iinc 3 (-1), 3) := by decide +kernel
theorem dX7_left_53 : decode cX7_left 53 = .ok (.goto (-49), 3) := by decide +kernel
theorem dX7_left_56 : decode cX7_left 56 = .ok (.iload_n 2, 1) := by decide +kernel
theorem dX7_left_57 : decode cX7_left 57 = .ok (.ireturn, 1) := by decide +kernel
theorem dX7_take_0 : decode cX7_take 0 = .ok (.aload_n 0, 1) := by decide +kernel
theorem dX7_take_1 : decode cX7_take 1 = .ok (.iload_n 1, 1) := by decide +kernel
theorem dX7_take_2 : decode cX7_take 2 = .ok (.invokevirtual 42, 3) := by decide +kernel
theorem dX7_take_5 : decode cX7_take 5 = .ok (.istore_n 2, 1) := by decide +kernel
theorem dX7_take_6 : decode cX7_take 6 = .ok (.iconst 5, 1) := by decide +kernel
theorem dX7_take_7 : decode cX7_take 7 = .ok (.istore_n 3, 1) := by decide +kernel
theorem dX7_take_8 : decode cX7_take 8 = .ok (.iload_n 3, 1) := by decide +kernel
theorem dX7_take_9 : decode cX7_take 9 = .ok (.ifCond .lt 55, 3) := by decide +kernel
theorem dX7_take_12 : decode cX7_take 12 = .ok (.iload_n 2, 1) := by decide +kernel
theorem dX7_take_13 : decode cX7_take 13 = .ok (.iload_n 3, 1) := by decide +kernel
theorem dX7_take_14 : decode cX7_take 14 = .ok (.invokestatic 29, 3) := by decide +kernel
theorem dX7_take_17 : decode cX7_take 17 = .ok (.istore 4, 2) := by decide +kernel
theorem dX7_take_19 : decode cX7_take 19 = .ok (.iload 4, 2) := by decide +kernel
theorem dX7_take_21 : decode cX7_take 21 = .ok (.ifCond .eq 37, 3) := by decide +kernel
theorem dX7_take_24 : decode cX7_take 24 = .ok (.aload_n 0, 1) := by decide +kernel
theorem dX7_take_25 : decode cX7_take 25 = .ok (.getfield 15, 3) := by decide +kernel
theorem dX7_take_28 : decode cX7_take 28 = .ok (.iload_n 3, 1) := by decide +kernel
theorem dX7_take_29 : decode cX7_take 29 = .ok (.aload_n 0, 1) := by decide +kernel
theorem dX7_take_30 : decode cX7_take 30 = .ok (.getfield 9, 3) := by decide +kernel
theorem dX7_take_33 : decode cX7_take 33 = .ok (.iload_n 2, 1) := by decide +kernel
theorem dX7_take_34 : decode cX7_take 34 = .ok (.aload_n 0, 1) := by decide +kernel
theorem dX7_take_35 : decode cX7_take 35 = .ok (.getfield 9, 3) := by decide +kernel
theorem dX7_take_38 : decode cX7_take 38 = .ok (.iload 4, 2) := by decide +kernel
theorem dX7_take_40 : decode cX7_take 40 = .ok (.invokevirtual 46, 3) := by decide +kernel
theorem dX7_take_43 : decode cX7_take 43 = .ok (.invokevirtual 49, 3) := by decide +kernel
theorem dX7_take_46 : decode cX7_take 46 = .ok (.iastore, 1) := by decide +kernel
theorem dX7_take_47 : decode cX7_take 47 = .ok (.aload_n 0, 1) := by decide +kernel
theorem dX7_take_48 : decode cX7_take 48 = .ok (.dup, 1) := by decide +kernel
theorem dX7_take_49 : decode cX7_take 49 = .ok (.getfield 19, 3) := by decide +kernel
theorem dX7_take_52 : decode cX7_take 52 = .ok (.iconst 1, 1) := by decide +kernel
theorem dX7_take_53 : decode cX7_take 53 = .ok (.iadd, 1) := by decide +kernel
theorem dX7_take_54 : decode cX7_take 54 = .ok (.putfield 19, 3) := by decide +kernel
theorem dX7_take_57 : decode cX7_take 57 = .ok (.return_, 1) := by decide +kernel
theorem dX7_take_58 : decode cX7_take 58 = .ok (.iinc 3 (-1), 3) := by decide +kernel
theorem dX7_take_61 : decode cX7_take 61 = .ok (.goto (-53), 3) := by decide +kernel
theorem dX7_take_64 : decode cX7_take 64 = .ok (.return_, 1) := by decide +kernel
theorem dX7_takeAll_0 : decode cX7_takeAll 0 = .ok (.iconst 0, 1) := by decide +kernel
theorem dX7_takeAll_1 : decode cX7_takeAll 1 = .ok (.istore_n 3, 1) := by decide +kernel
theorem dX7_takeAll_2 : decode cX7_takeAll 2 = .ok (.iload_n 3, 1) := by decide +kernel
theorem dX7_takeAll_3 : decode cX7_takeAll 3 = .ok (.aload_n 1, 1) := by decide +kernel
theorem dX7_takeAll_4 : decode cX7_takeAll 4 = .ok (.getfield 52, 3) := by decide +kernel
theorem dX7_takeAll_7 : decode cX7_takeAll 7 = .ok (.if_icmp .ge 27, 3) := by decide +kernel
theorem dX7_takeAll_10 : decode cX7_takeAll 10 = .ok (.iload_n 2, 1) := by decide +kernel
theorem dX7_takeAll_11 : decode cX7_takeAll 11 = .ok (.iload_n 3, 1) := by decide +kernel
theorem dX7_takeAll_12 : decode cX7_takeAll 12 = .ok (.ishr, 1) := by decide +kernel
theorem dX7_takeAll_13 : decode cX7_takeAll 13 = .ok (.iconst 1, 1) := by decide +kernel
theorem dX7_takeAll_14 : decode cX7_takeAll 14 = .ok (.iand, 1) := by decide +kernel
theorem dX7_takeAll_15 : decode cX7_takeAll 15 = .ok (.ifCond .eq 13, 3) := by decide +kernel
theorem dX7_takeAll_18 : decode cX7_takeAll 18 = .ok (.aload_n 0, 1) := by decide +kernel
theorem dX7_takeAll_19 : decode cX7_takeAll 19 = .ok (.aload_n 1, 1) := by decide +kernel
theorem dX7_takeAll_20 : decode cX7_takeAll 20 = .ok (.getfield 55, 3) := by decide +kernel
theorem dX7_takeAll_23 : decode cX7_takeAll 23 = .ok (.iload_n 3, 1) := by decide +kernel
theorem dX7_takeAll_24 : decode cX7_takeAll 24 = .ok (.iaload, 1) := by decide +kernel
theorem dX7_takeAll_25 : decode cX7_takeAll 25 = .ok (.invokevirtual 58, 3) := by decide +kernel
theorem dX7_takeAll_28 : decode cX7_takeAll 28 = .ok (.iinc 3 1, 3) := by decide +kernel
theorem dX7_takeAll_31 : decode cX7_takeAll 31 = .ok (.goto (-29), 3) := by decide +kernel
theorem dX7_takeAll_34 : decode cX7_takeAll 34 = .ok (.return_, 1) := by decide +kernel
theorem dX8_init_0 : decode cX8_init 0 = .ok (.aload_n 0, 1) := by decide +kernel
theorem dX8_init_1 : decode cX8_init 1 = .ok (.invokespecial 3, 3) := by decide +kernel
theorem dX8_init_4 : decode cX8_init 4 = .ok (.aload_n 0, 1) := by decide +kernel
theorem dX8_init_5 : decode cX8_init 5 = .ok (.new 9, 3) := by decide +kernel
theorem dX8_init_8 : decode cX8_init 8 = .ok (.dup, 1) := by decide +kernel
theorem dX8_init_9 : decode cX8_init 9 = .ok (.invokespecial 11, 3) := by decide +kernel
theorem dX8_init_12 : decode cX8_init 12 = .ok (.putfield 12, 3) := by decide +kernel
theorem dX8_init_15 : decode cX8_init 15 = .ok (.aload_n 0, 1) := by decide +kernel
theorem dX8_init_16 : decode cX8_init 16 = .ok (.new 18, 3) := by decide +kernel
theorem dX8_init_19 : decode cX8_init 19 = .ok (.dup, 1) := by decide +kernel
theorem dX8_init_20 : decode cX8_init 20 = .ok (.iconst 5, 1) := by decide +kernel
theorem dX8_init_21 : decode cX8_init 21 = .ok (.invokespecial 20, 3) := by decide +kernel
theorem dX8_init_24 : decode cX8_init 24 = .ok (.putfield 23, 3) := by decide +kernel
theorem dX8_init_27 : decode cX8_init 27 = .ok (.aload_n 0, 1) := by decide +kernel
theorem dX8_init_28 : decode cX8_init 28 = .ok (.new 18, 3) := by decide +kernel
theorem dX8_init_31 : decode cX8_init 31 = .ok (.dup, 1) := by decide +kernel
theorem dX8_init_32 : decode cX8_init 32 = .ok (.bipush 10, 2) := by decide +kernel
theorem dX8_init_34 : decode cX8_init 34 = .ok (.invokespecial 20, 3) := by decide +kernel
theorem dX8_init_37 : decode cX8_init 37 = .ok (.putfield 27, 3) := by decide +kernel
theorem dX8_init_40 : decode cX8_init 40 = .ok (.aload_n 0, 1) := by decide +kernel
theorem dX8_init_41 : decode cX8_init 41 = .ok (.new 18, 3) := by decide +kernel
theorem dX8_init_44 : decode cX8_init 44 = .ok (.dup, 1) := by decide +kernel
theorem dX8_init_45 : decode cX8_init 45 = .ok (.bipush 8, 2) := by decide +kernel
theorem dX8_init_47 : decode cX8_init 47 = .ok (.invokespecial 20, 3) := by decide +kernel
theorem dX8_init_50 : decode cX8_init 50 = .ok (.putfield 30, 3) := by decide +kernel
theorem dX8_init_53 : decode cX8_init 53 = .ok (.return_, 1) := by decide +kernel
theorem dX8_copyFrom_0 : decode cX8_copyFrom 0 = .ok (.aload_n 0, 1) := by decide +kernel
theorem dX8_copyFrom_1 : decode cX8_copyFrom 1 = .ok (.getfield 12, 3) := by decide +kernel
theorem dX8_copyFrom_4 : decode cX8_copyFrom 4 = .ok (.aload_n 1, 1) := by decide +kernel
theorem dX8_copyFrom_5 : decode cX8_copyFrom 5 = .ok (.getfield 12, 3) := by decide +kernel
theorem dX8_copyFrom_8 : decode cX8_copyFrom 8 = .ok (.invokevirtual 33, 3) := by decide +kernel
theorem dX8_copyFrom_11 : decode cX8_copyFrom 11 = .ok (.aload_n 0, 1) := by decide +kernel
theorem dX8_copyFrom_12 : decode cX8_copyFrom 12 = .ok (.getfield 23, 3) := by decide +kernel
theorem dX8_copyFrom_15 : decode cX8_copyFrom 15 = .ok (.aload_n 1, 1) := by decide +kernel
theorem dX8_copyFrom_16 : decode cX8_copyFrom 16 = .ok (.getfield 23, 3) := by decide +kernel
theorem dX8_copyFrom_19 : decode cX8_copyFrom 19 = .ok (.invokevirtual 37, 3) := by decide +kernel
theorem dX8_copyFrom_22 : decode cX8_copyFrom 22 = .ok (.aload_n 0, 1) := by decide +kernel
theorem dX8_copyFrom_23 : decode cX8_copyFrom 23 = .ok (.getfield 27, 3) := by decide +kernel
theorem dX8_copyFrom_26 : decode cX8_copyFrom 26 = .ok (.aload_n 1, 1) := by decide +kernel
theorem dX8_copyFrom_27 : decode cX8_copyFrom 27 = .ok (.getfield 27, 3) := by decide +kernel
theorem dX8_copyFrom_30 : decode cX8_copyFrom 30 = .ok (.invokevirtual 37, 3) := by decide +kernel
theorem dX8_copyFrom_33 : decode cX8_copyFrom 33 = .ok (.aload_n 0, 1) := by decide +kernel
theorem dX8_copyFrom_34 : decode cX8_copyFrom 34 = .ok (.getfield 30, 3) := by decide +kernel
theorem dX8_copyFrom_37 : decode cX8_copyFrom 37 = .ok (.aload_n 1, 1) := by decide +kernel
theorem dX8_copyFrom_38 : decode cX8_copyFrom 38 = .ok (.getfield 30, 3) := by decide +kernel
theorem dX8_copyFrom_41 : decode cX8_copyFrom 41 = .ok (.invokevirtual 37, 3) := by decide +kernel
theorem dX8_copyFrom_44 : decode cX8_copyFrom 44 = .ok (.return_, 1) := by decide +kernel
theorem dX9_init_0 : decode cX9_init 0 = .ok (.aload_n 0, 1) := by decide +kernel
theorem dX9_init_1 : decode cX9_init 1 = .ok (.invokespecial 1, 3) := by decide +kernel
theorem dX9_init_4 : decode cX9_init 4 = .ok (.aload_n 0, 1) := by decide +kernel
theorem dX9_init_5 : decode cX9_init 5 = .ok (.bipush 6, 2) := by decide +kernel
theorem dX9_init_7 : decode cX9_init 7 = .ok (.newarray .int, 2) := by decide +kernel
theorem dX9_init_9 : decode cX9_init 9 = .ok (.putfield 9, 3) := by decide +kernel
theorem dX9_init_12 : decode cX9_init 12 = .ok (.aload_n 0, 1) := by decide +kernel
theorem dX9_init_13 : decode cX9_init 13 = .ok (.bipush 6, 2) := by decide +kernel
theorem dX9_init_15 : decode cX9_init 15 = .ok (.newarray .int, 2) := by decide +kernel
theorem dX9_init_17 : decode cX9_init 17 = .ok (.putfield 13, 3) := by decide +kernel
theorem dX9_init_20 : decode cX9_init 20 = .ok (.aload_n 0, 1) := by decide +kernel
theorem dX9_init_21 : decode cX9_init 21 = .ok (.bipush 6, 2) := by decide +kernel
theorem dX9_init_23 : decode cX9_init 23 = .ok (.bipush 60, 2) := by decide +kernel
theorem dX9_init_25 : decode cX9_init 25 = .ok (.multianewarray 16 2, 4) := by decide +kernel
theorem dX9_init_29 : decode cX9_init 29 = .ok (.putfield 18, 3) := by decide +kernel
theorem dX9_init_32 : decode cX9_init 32 = .ok (.iconst 0, 1) := by decide +kernel
theorem dX9_init_33 : decode cX9_init 33 = .ok (.istore_n 1, 1) := by decide +kernel
theorem dX9_init_34 : decode cX9_init 34 = .ok (.iload_n 1, 1) := by decide +kernel
theorem dX9_init_35 : decode cX9_init 35 = .ok (.bipush 6, 2) := by decide +kernel
theorem dX9_init_37 : decode cX9_init 37 = .ok (.if_icmp .ge 16, 3) := by decide +kernel
theorem dX9_init_40 : decode cX9_init 40 = .ok (.aload_n 0, 1) := by decide +kernel
theorem dX9_init_41 : decode cX9_init 41 = .ok (.getfield 9, 3) := by decide +kernel
theorem dX9_init_44 : decode cX9_init 44 = .ok (.iload_n 1, 1) := by decide +kernel
theorem dX9_init_45 : decode cX9_init 45 = .ok (.iconst (-1), 1) := by decide +kernel
theorem dX9_init_46 : decode cX9_init 46 = .ok (.iastore, 1) := by decide +kernel
theorem dX9_init_47 : decode cX9_init 47 = .ok (.iinc 1 1, 3) := by decide +kernel
theorem dX9_init_50 : decode cX9_init 50 = .ok (.goto (-16), 3) := by decide +kernel
theorem dX9_init_53 : decode cX9_init 53 = .ok (.return_, 1) := by decide +kernel
theorem dX9_has_0 : decode cX9_has 0 = .ok (.iload_n 0, 1) := by decide +kernel
theorem dX9_has_1 : decode cX9_has 1 = .ok (.ifCond .lt 13, 3) := by decide +kernel
theorem dX9_has_4 : decode cX9_has 4 = .ok (.iload_n 0, 1) := by decide +kernel
theorem dX9_has_5 : decode cX9_has 5 = .ok (.bipush 6, 2) := by decide +kernel
theorem dX9_has_7 : decode cX9_has 7 = .ok (.if_icmp .ge 7, 3) := by decide +kernel
theorem dX9_has_10 : decode cX9_has 10 = .ok (.iconst 1, 1) := by decide +kernel
theorem dX9_has_11 : decode cX9_has 11 = .ok (.goto 4, 3) := by decide +kernel
theorem dX9_has_14 : decode cX9_has 14 = .ok (.iconst 0, 1) := by decide +kernel
theorem dX9_has_15 : decode cX9_has 15 = .ok (.ireturn, 1) := by decide +kernel
theorem dX9_make_0 : decode cX9_make 0 = .ok (.iload_n 1, 1) := by decide +kernel
theorem dX9_make_1 : decode cX9_make 1 = .ok (.invokestatic 21, 3) := by decide +kernel
theorem dX9_make_4 : decode cX9_make 4 = .ok (.ifCond .ne 4, 3) := by decide +kernel
theorem dX9_make_7 : decode cX9_make 7 = .ok (.return_, 1) := by decide +kernel
theorem dX9_make_8 : decode cX9_make 8 = .ok (.aload_n 0, 1) := by decide +kernel
theorem dX9_make_9 : decode cX9_make 9 = .ok (.getfield 9, 3) := by decide +kernel
theorem dX9_make_12 : decode cX9_make 12 = .ok (.iload_n 1, 1) := by decide +kernel
theorem dX9_make_13 : decode cX9_make 13 = .ok (.iload_n 2, 1) := by decide +kernel
theorem dX9_make_14 : decode cX9_make 14 = .ok (.iastore, 1) := by decide +kernel
theorem dX9_make_15 : decode cX9_make 15 = .ok (.aload_n 0, 1) := by decide +kernel
theorem dX9_make_16 : decode cX9_make 16 = .ok (.getfield 13, 3) := by decide +kernel
theorem dX9_make_19 : decode cX9_make 19 = .ok (.iload_n 1, 1) := by decide +kernel
theorem dX9_make_20 : decode cX9_make 20 = .ok (.iload_n 3, 1) := by decide +kernel
theorem dX9_make_21 : decode cX9_make 21 = .ok (.iastore, 1) := by decide +kernel
theorem dX9_make_22 : decode cX9_make 22 = .ok (.iconst 0, 1) := by decide +kernel
theorem dX9_make_23 : decode cX9_make 23 = .ok (.istore 4, 2) := by decide +kernel
theorem dX9_make_25 : decode cX9_make 25 = .ok (.iload 4, 2) := by decide +kernel
theorem dX9_make_27 : decode cX9_make 27 = .ok (.bipush 60, 2) := by decide +kernel
theorem dX9_make_29 : decode cX9_make 29 = .ok (.if_icmp .ge 19, 3) := by decide +kernel
theorem dX9_make_32 : decode cX9_make 32 = .ok (.aload_n 0, 1) := by decide +kernel
theorem dX9_make_33 : decode cX9_make 33 = .ok (.getfield 18, 3) := by decide +kernel
theorem dX9_make_36 : decode cX9_make 36 = .ok (.iload_n 1, 1) := by decide +kernel
theorem dX9_make_37 : decode cX9_make 37 = .ok (.aaload, 1) := by decide +kernel
theorem dX9_make_38 : decode cX9_make 38 = .ok (.iload 4, 2) := by decide +kernel
theorem dX9_make_40 : decode cX9_make 40 = .ok (.lconst 0, 1) := by decide +kernel
theorem dX9_make_41 : decode cX9_make 41 = .ok (.lastore, 1) := by decide +kernel
theorem dX9_make_42 : decode cX9_make 42 = .ok (.iinc 4 1, 3) := by decide +kernel
theorem dX9_make_45 : decode cX9_make 45 = .ok (.goto (-20), 3) := by decide +kernel
theorem dX9_make_48 : decode cX9_make 48 = .ok (.return_, 1) := by decide +kernel
theorem dX9_hasItem_0 : decode cX9_hasItem 0 = .ok (.iload_n 1, 1) := by decide +kernel
theorem dX9_hasItem_1 : decode cX9_hasItem 1 = .ok (.invokestatic 21, 3) := by decide +kernel
theorem dX9_hasItem_4 : decode cX9_hasItem 4 = .ok (.ifCond .eq 21, 3) := by decide +kernel
theorem dX9_hasItem_7 : decode cX9_hasItem 7 = .ok (.iload_n 2, 1) := by decide +kernel
theorem dX9_hasItem_8 : decode cX9_hasItem 8 = .ok (.ifCond .lt 17, 3) := by decide +kernel
theorem dX9_hasItem_11 : decode cX9_hasItem 11 = .ok (.iload_n 2, 1) := by decide +kernel
theorem dX9_hasItem_12 : decode cX9_hasItem 12 = .ok (.aload_n 0, 1) := by decide +kernel
theorem dX9_hasItem_13 : decode cX9_hasItem 13 = .ok (.getfield 13, 3) := by decide +kernel
theorem dX9_hasItem_16 : decode cX9_hasItem 16 = .ok (.iload_n 1, 1) := by decide +kernel
theorem dX9_hasItem_17 : decode cX9_hasItem 17 = .ok (.iaload, 1) := by decide +kernel
theorem dX9_hasItem_18 : decode cX9_hasItem 18 = .ok (.if_icmp .ge 7, 3) := by decide +kernel
theorem dX9_hasItem_21 : decode cX9_hasItem 21 = .ok (.iconst 1, 1) := by decide +kernel
theorem dX9_hasItem_22 : decode cX9_hasItem 22 = .ok (.goto 4, 3) := by decide +kernel
theorem dX9_hasItem_25 : decode cX9_hasItem 25 = .ok (.iconst 0, 1) := by decide +kernel
theorem dX9_hasItem_26 : decode cX9_hasItem 26 = .ok (.ireturn, 1) := by decide +kernel
theorem dX9_hasRun_0 : decode cX9_hasRun 0 = .ok (.iload_n 1, 1) := by decide +kernel
theorem dX9_hasRun_1 : decode cX9_hasRun 1 = .ok (.invokestatic 21, 3) := by decide +kernel
theorem dX9_hasRun_4 : decode cX9_hasRun 4 = .ok (.ifCond .eq 27, 3) := by decide +kernel
theorem dX9_hasRun_7 : decode cX9_hasRun 7 = .ok (.iload_n 3, 1) := by decide +kernel
theorem dX9_hasRun_8 : decode cX9_hasRun 8 = .ok (.ifCond .lt 23, 3) := by decide +kernel
theorem dX9_hasRun_11 : decode cX9_hasRun 11 = .ok (.iload_n 2, 1) := by decide +kernel
theorem dX9_hasRun_12 : decode cX9_hasRun 12 = .ok (.ifCond .lt 19, 3) := by decide +kernel
theorem dX9_hasRun_15 : decode cX9_hasRun 15 = .ok (.iload_n 2, 1) := by decide +kernel
theorem dX9_hasRun_16 : decode cX9_hasRun 16 = .ok (.aload_n 0, 1) := by decide +kernel
theorem dX9_hasRun_17 : decode cX9_hasRun 17 = .ok (.getfield 13, 3) := by decide +kernel
theorem dX9_hasRun_20 : decode cX9_hasRun 20 = .ok (.iload_n 1, 1) := by decide +kernel
theorem dX9_hasRun_21 : decode cX9_hasRun 21 = .ok (.iaload, 1) := by decide +kernel
theorem dX9_hasRun_22 : decode cX9_hasRun 22 = .ok (.iload_n 3, 1) := by decide +kernel
theorem dX9_hasRun_23 : decode cX9_hasRun 23 = .ok (.isub, 1) := by decide +kernel
theorem dX9_hasRun_24 : decode cX9_hasRun 24 = .ok (.if_icmp .gt 7, 3) := by decide +kernel
theorem dX9_hasRun_27 : decode cX9_hasRun 27 = .ok (.iconst 1, 1) := by decide +kernel
theorem dX9_hasRun_28 : decode cX9_hasRun 28 = .ok (.goto 4, 3) := by decide +kernel
theorem dX9_hasRun_31 : decode cX9_hasRun 31 = .ok (.iconst 0, 1) := by decide +kernel
theorem dX9_hasRun_32 : decode cX9_hasRun 32 = .ok (.ireturn, 1) := by decide +kernel
theorem dX9_cut_0 : decode cX9_cut 0 = .ok (.iload_n 0, 1) := by decide +kernel
theorem dX9_cut_1 : decode cX9_cut 1 = .ok (.tableswitch 61 0 4 #[35, 40, 45, 61, 49], 35) := by decide +kernel
theorem dX9_cut_36 : decode cX9_cut 36 = .ok (.lload_n 1, 1) := by decide +kernel
theorem dX9_cut_37 : decode cX9_cut 37 = .ok (.l2i, 1) := by decide +kernel
theorem dX9_cut_38 : decode cX9_cut 38 = .ok (.i2b, 1) := by decide +kernel
theorem dX9_cut_39 : decode cX9_cut 39 = .ok (.i2l, 1) := by decide +kernel
theorem dX9_cut_40 : decode cX9_cut 40 = .ok (.lreturn, 1) := by decide +kernel
theorem dX9_cut_41 : decode cX9_cut 41 = .ok (.lload_n 1, 1) := by decide +kernel
theorem dX9_cut_42 : decode cX9_cut 42 = .ok (.l2i, 1) := by decide +kernel
theorem dX9_cut_43 : decode cX9_cut 43 = .ok (.i2s, 1) := by decide +kernel
theorem dX9_cut_44 : decode cX9_cut 44 = .ok (.i2l, 1) := by decide +kernel
theorem dX9_cut_45 : decode cX9_cut 45 = .ok (.lreturn, 1) := by decide +kernel
theorem dX9_cut_46 : decode cX9_cut 46 = .ok (.lload_n 1, 1) := by decide +kernel
theorem dX9_cut_47 : decode cX9_cut 47 = .ok (.l2i, 1) := by decide +kernel
theorem dX9_cut_48 : decode cX9_cut 48 = .ok (.i2l, 1) := by decide +kernel
theorem dX9_cut_49 : decode cX9_cut 49 = .ok (.lreturn, 1) := by decide +kernel
theorem dX9_cut_50 : decode cX9_cut 50 = .ok (.lload_n 1, 1) := by decide +kernel
theorem dX9_cut_51 : decode cX9_cut 51 = .ok (.lconst 0, 1) := by decide +kernel
theorem dX9_cut_52 : decode cX9_cut 52 = .ok (.lcmp, 1) := by decide +kernel
theorem dX9_cut_53 : decode cX9_cut 53 = .ok (.ifCond .eq 7, 3) := by decide +kernel
theorem dX9_cut_56 : decode cX9_cut 56 = .ok (.lconst 1, 1) := by decide +kernel
theorem dX9_cut_57 : decode cX9_cut 57 = .ok (.goto 4, 3) := by decide +kernel
theorem dX9_cut_60 : decode cX9_cut 60 = .ok (.lconst 0, 1) := by decide +kernel
theorem dX9_cut_61 : decode cX9_cut 61 = .ok (.lreturn, 1) := by decide +kernel
theorem dX9_cut_62 : decode cX9_cut 62 = .ok (.lload_n 1, 1) := by decide +kernel
theorem dX9_cut_63 : decode cX9_cut 63 = .ok (.lreturn, 1) := by decide +kernel
theorem dJ6_bitCount_0f7a4_0 : decode cJ6_bitCount_0f7a4 0 = .ok (.iload_n 0, 1) := by decide +kernel
theorem dJ6_bitCount_0f7a4_1 : decode cJ6_bitCount_0f7a4 1 = .ok (.iload_n 0, 1) := by decide +kernel
theorem dJ6_bitCount_0f7a4_2 : decode cJ6_bitCount_0f7a4 2 = .ok (.iconst 1, 1) := by decide +kernel
theorem dJ6_bitCount_0f7a4_3 : decode cJ6_bitCount_0f7a4 3 = .ok (.iushr, 1) := by decide +kernel
theorem dJ6_bitCount_0f7a4_4 : decode cJ6_bitCount_0f7a4 4 = .ok (.ldc_w 265, 3) := by decide +kernel
theorem dJ6_bitCount_0f7a4_7 : decode cJ6_bitCount_0f7a4 7 = .ok (.iand, 1) := by decide +kernel
theorem dJ6_bitCount_0f7a4_8 : decode cJ6_bitCount_0f7a4 8 = .ok (.isub, 1) := by decide +kernel
theorem dJ6_bitCount_0f7a4_9 : decode cJ6_bitCount_0f7a4 9 = .ok (.istore_n 0, 1) := by decide +kernel
theorem dJ6_bitCount_0f7a4_10 : decode cJ6_bitCount_0f7a4 10 = .ok (.iload_n 0, 1) := by decide +kernel
theorem dJ6_bitCount_0f7a4_11 : decode cJ6_bitCount_0f7a4 11 = .ok (.ldc_w 266, 3) := by decide +kernel
theorem dJ6_bitCount_0f7a4_14 : decode cJ6_bitCount_0f7a4 14 = .ok (.iand, 1) := by decide +kernel
theorem dJ6_bitCount_0f7a4_15 : decode cJ6_bitCount_0f7a4 15 = .ok (.iload_n 0, 1) := by decide +kernel
theorem dJ6_bitCount_0f7a4_16 : decode cJ6_bitCount_0f7a4 16 = .ok (.iconst 2, 1) := by decide +kernel
theorem dJ6_bitCount_0f7a4_17 : decode cJ6_bitCount_0f7a4 17 = .ok (.iushr, 1) := by decide +kernel
theorem dJ6_bitCount_0f7a4_18 : decode cJ6_bitCount_0f7a4 18 = .ok (.ldc_w 266, 3) := by decide +kernel
theorem dJ6_bitCount_0f7a4_21 : decode cJ6_bitCount_0f7a4 21 = .ok (.iand, 1) := by decide +kernel
theorem dJ6_bitCount_0f7a4_22 : decode cJ6_bitCount_0f7a4 22 = .ok (.iadd, 1) := by decide +kernel
theorem dJ6_bitCount_0f7a4_23 : decode cJ6_bitCount_0f7a4 23 = .ok (.istore_n 0, 1) := by decide +kernel
theorem dJ6_bitCount_0f7a4_24 : decode cJ6_bitCount_0f7a4 24 = .ok (.iload_n 0, 1) := by decide +kernel
theorem dJ6_bitCount_0f7a4_25 : decode cJ6_bitCount_0f7a4 25 = .ok (.iload_n 0, 1) := by decide +kernel
theorem dJ6_bitCount_0f7a4_26 : decode cJ6_bitCount_0f7a4 26 = .ok (.iconst 4, 1) := by decide +kernel
theorem dJ6_bitCount_0f7a4_27 : decode cJ6_bitCount_0f7a4 27 = .ok (.iushr, 1) := by decide +kernel
theorem dJ6_bitCount_0f7a4_28 : decode cJ6_bitCount_0f7a4 28 = .ok (.iadd, 1) := by decide +kernel
theorem dJ6_bitCount_0f7a4_29 : decode cJ6_bitCount_0f7a4 29 = .ok (.ldc_w 267, 3) := by decide +kernel
theorem dJ6_bitCount_0f7a4_32 : decode cJ6_bitCount_0f7a4 32 = .ok (.iand, 1) := by decide +kernel
theorem dJ6_bitCount_0f7a4_33 : decode cJ6_bitCount_0f7a4 33 = .ok (.istore_n 0, 1) := by decide +kernel
theorem dJ6_bitCount_0f7a4_34 : decode cJ6_bitCount_0f7a4 34 = .ok (.iload_n 0, 1) := by decide +kernel
theorem dJ6_bitCount_0f7a4_35 : decode cJ6_bitCount_0f7a4 35 = .ok (.iload_n 0, 1) := by decide +kernel
theorem dJ6_bitCount_0f7a4_36 : decode cJ6_bitCount_0f7a4 36 = .ok (.bipush 8, 2) := by decide +kernel
theorem dJ6_bitCount_0f7a4_38 : decode cJ6_bitCount_0f7a4 38 = .ok (.iushr, 1) := by decide +kernel
theorem dJ6_bitCount_0f7a4_39 : decode cJ6_bitCount_0f7a4 39 = .ok (.iadd, 1) := by decide +kernel
theorem dJ6_bitCount_0f7a4_40 : decode cJ6_bitCount_0f7a4 40 = .ok (.istore_n 0, 1) := by decide +kernel
theorem dJ6_bitCount_0f7a4_41 : decode cJ6_bitCount_0f7a4 41 = .ok (.iload_n 0, 1) := by decide +kernel
theorem dJ6_bitCount_0f7a4_42 : decode cJ6_bitCount_0f7a4 42 = .ok (.iload_n 0, 1) := by decide +kernel
theorem dJ6_bitCount_0f7a4_43 : decode cJ6_bitCount_0f7a4 43 = .ok (.bipush 16, 2) := by decide +kernel
theorem dJ6_bitCount_0f7a4_45 : decode cJ6_bitCount_0f7a4 45 = .ok (.iushr, 1) := by decide +kernel
theorem dJ6_bitCount_0f7a4_46 : decode cJ6_bitCount_0f7a4 46 = .ok (.iadd, 1) := by decide +kernel
theorem dJ6_bitCount_0f7a4_47 : decode cJ6_bitCount_0f7a4 47 = .ok (.istore_n 0, 1) := by decide +kernel
theorem dJ6_bitCount_0f7a4_48 : decode cJ6_bitCount_0f7a4 48 = .ok (.iload_n 0, 1) := by decide +kernel
theorem dJ6_bitCount_0f7a4_49 : decode cJ6_bitCount_0f7a4 49 = .ok (.bipush 63, 2) := by decide +kernel
theorem dJ6_bitCount_0f7a4_51 : decode cJ6_bitCount_0f7a4 51 = .ok (.iand, 1) := by decide +kernel
theorem dJ6_bitCount_0f7a4_52 : decode cJ6_bitCount_0f7a4 52 = .ok (.ireturn, 1) := by decide +kernel
theorem dJ9_abs_067f4_0 : decode cJ9_abs_067f4 0 = .ok (.lload_n 0, 1) := by decide +kernel
theorem dJ9_abs_067f4_1 : decode cJ9_abs_067f4 1 = .ok (.lconst 0, 1) := by decide +kernel
theorem dJ9_abs_067f4_2 : decode cJ9_abs_067f4 2 = .ok (.lcmp, 1) := by decide +kernel
theorem dJ9_abs_067f4_3 : decode cJ9_abs_067f4 3 = .ok (.ifCond .ge 8, 3) := by decide +kernel
theorem dJ9_abs_067f4_6 : decode cJ9_abs_067f4 6 = .ok (.lload_n 0, 1) := by decide +kernel
theorem dJ9_abs_067f4_7 : decode cJ9_abs_067f4 7 = .ok (.lneg, 1) := by decide +kernel
theorem dJ9_abs_067f4_8 : decode cJ9_abs_067f4 8 = .ok (.goto 4, 3) := by decide +kernel
theorem dJ9_abs_067f4_11 : decode cJ9_abs_067f4 11 = .ok (.lload_n 0, 1) := by decide +kernel
theorem dJ9_abs_067f4_12 : decode cJ9_abs_067f4 12 = .ok (.lreturn, 1) := by decide +kernel
theorem dJ9_max_7cf53_0 : decode cJ9_max_7cf53 0 = .ok (.iload_n 0, 1) := by decide +kernel
theorem dJ9_max_7cf53_1 : decode cJ9_max_7cf53 1 = .ok (.iload_n 1, 1) := by decide +kernel
theorem dJ9_max_7cf53_2 : decode cJ9_max_7cf53 2 = .ok (.if_icmp .lt 7, 3) := by decide +kernel
theorem dJ9_max_7cf53_5 : decode cJ9_max_7cf53 5 = .ok (.iload_n 0, 1) := by decide +kernel
theorem dJ9_max_7cf53_6 : decode cJ9_max_7cf53 6 = .ok (.goto 4, 3) := by decide +kernel
theorem dJ9_max_7cf53_9 : decode cJ9_max_7cf53 9 = .ok (.iload_n 1, 1) := by decide +kernel
theorem dJ9_max_7cf53_10 : decode cJ9_max_7cf53 10 = .ok (.ireturn, 1) := by decide +kernel
theorem dJ9_min_7cf53_0 : decode cJ9_min_7cf53 0 = .ok (.iload_n 0, 1) := by decide +kernel
theorem dJ9_min_7cf53_1 : decode cJ9_min_7cf53 1 = .ok (.iload_n 1, 1) := by decide +kernel
theorem dJ9_min_7cf53_2 : decode cJ9_min_7cf53 2 = .ok (.if_icmp .gt 7, 3) := by decide +kernel
theorem dJ9_min_7cf53_5 : decode cJ9_min_7cf53 5 = .ok (.iload_n 0, 1) := by decide +kernel
theorem dJ9_min_7cf53_6 : decode cJ9_min_7cf53 6 = .ok (.goto 4, 3) := by decide +kernel
theorem dJ9_min_7cf53_9 : decode cJ9_min_7cf53 9 = .ok (.iload_n 1, 1) := by decide +kernel
theorem dJ9_min_7cf53_10 : decode cJ9_min_7cf53 10 = .ok (.ireturn, 1) := by decide +kernel
